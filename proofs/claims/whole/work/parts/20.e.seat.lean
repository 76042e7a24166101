-- sitting down, changing chairs: what becomes of the room
theorem setA_s (R : StT) (k : Nat) (f : Nat → Int32) : (setA R k f).1 k = f := by
  unfold setA; simp
theorem setA_o (R : StT) {k j : Nat} (f : Nat → Int32) (h : j ≠ k) : (setA R k f).1 j = R.1 j := by
  unfold setA; simp [h]
theorem setA_2 (R : StT) (k : Nat) (f : Nat → Int32) : (setA R k f).2 = R.2 := rfl
theorem upd_s (f : Nat → Int32) (k : Nat) (x : Int32) : upd f k x k = x := by unfold upd; simp
theorem upd_o (f : Nat → Int32) {k j : Nat} (x : Int32) (h : j ≠ k) : upd f k x j = f j := by unfold upd; simp [h]
theorem upd_i (f : Nat → Int32) (k j : Nat) (x : Int32) : upd f k x j = if j = k then x else f j := rfl
/-- R2 is R but for seats and sitters -/
def Sm (R R2 : StT) : Prop := (∀ k, k ≠ 2 → k ≠ 8 → R2.1 k = R.1 k) ∧ R2.2 = R.2
theorem Sm.rf (R : StT) : Sm R R := ⟨fun _ _ _ => rfl, rfl⟩
theorem Sm.tr {A B C : StT} (h : Sm A B) (h2 : Sm B C) : Sm A C := ⟨fun k a b => (h2.1 k a b).trans (h.1 k a b), h2.2.trans h.2⟩
theorem Sm.set2 (R : StT) (f : Nat → Int32) : Sm R (setA R 2 f) := ⟨fun _ h _ => setA_o R f h, rfl⟩
theorem Sm.set8 (R : StT) (f : Nat → Int32) : Sm R (setA R 8 f) := ⟨fun _ _ h => setA_o R f h, rfl⟩
theorem RI.re {n : Nat} {R R2 : StT} (h : RI n R) (hs : Sm R R2) (h8 : ∀ p, p < n → R2.1 8 p = -1 ∨ ∃ c, c < 8 ∧ R2.1 8 p = nI c) (hd : ∀ p, n ≤ p → p < 8 → R2.1 8 p = -1)
    (h2 : ∀ c, c < 8 → (R2.1 2 c = -1 ∨ ∃ p, p < n ∧ R2.1 2 c = nI p) ∧ ∀ p, p < n → (R2.1 2 c = nI p ↔ R2.1 8 p = nI c)) : RI n R2 := by
  obtain ⟨a1, a2, a3, a4, a5, -, a7⟩ := h
  have e := hs.1
  refine ⟨a1, by rw [hs.2]; exact a2, fun c hc => ?_, fun p hp => ?_, fun p hp hp8 => ?_, h2, fun p q hp hq => ?_⟩
  · rw [e 0 (by decide) (by decide), e 1 (by decide) (by decide)]; exact a3 c hc
  · rw [e 3 (by decide) (by decide), e 4 (by decide) (by decide), e 5 (by decide) (by decide), e 6 (by decide) (by decide)]
    obtain ⟨b1, b2, b3, b4, -⟩ := a4 p hp
    exact ⟨b1, b2, b3, b4, h8 p hp⟩
  · rw [e 4 (by decide) (by decide), e 5 (by decide) (by decide), e 6 (by decide) (by decide), e 7 (by decide) (by decide)]
    obtain ⟨b1, b2, b3, b4, -⟩ := a5 p hp hp8
    exact ⟨b1, b2, b3, b4, hd p hp hp8⟩
  · unfold od
    rw [e 6 (by decide) (by decide)]
    exact a7 p q hp hq
theorem RE.re {n : Nat} {R R2 : StT} {s s2 : Nat → Int32} (h : RE n R s) (hn : n ≤ 8) (hs : Sm R R2) (hk : ∀ j, (∀ p, p < n → j ≠ 18 + 6 * p + 5) → s2 j = s j) (h8 : ∀ p, p < n → s2 (18 + 6 * p + 5) = R2.1 8 p) : RE n R2 s2 := by
  obtain ⟨a1, a2, a3, a4⟩ := h
  have e := hs.1
  refine ⟨by rw [hk 0 (fun p _ => by omega)]; exact a1, by rw [hk 1 (fun p _ => by omega), hs.2]; exact a2, fun c hc => ?_, fun p hp => ?_⟩
  · rw [hk _ (fun p _ => by omega), hk _ (fun p _ => by omega), e 0 (by decide) (by decide), e 1 (by decide) (by decide)]; exact a3 c hc
  · rw [hk (18 + 6 * p) (fun q _ => by omega), hk (18 + 6 * p + 1) (fun q _ => by omega), hk (18 + 6 * p + 2) (fun q _ => by omega), hk (18 + 6 * p + 3) (fun q _ => by omega), hk (18 + 6 * p + 4) (fun q _ => by omega), e 3 (by decide) (by decide), e 4 (by decide) (by decide), e 5 (by decide) (by decide), e 6 (by decide) (by decide), e 7 (by decide) (by decide)]
    obtain ⟨b1, b2, b3, b4, b5, -⟩ := a4 p hp
    exact ⟨b1, b2, b3, b4, b5, h8 p hp⟩
/-- the seat of one, its chair taken from it -/
def upS (R : StT) (p : Nat) : StT := if R.1 8 p < 0 then R else setA R 2 (upd (R.1 2) (R.1 8 p).toNatClampNeg (-1))
/-- one sits down in a chair -/
def seS (R : StT) (p : Nat) (x : Int32) : StT :=
  let R2 := setA (upS R p) 8 (upd ((upS R p).1 8) p x)
  if x < 0 then R2 else setA R2 2 (upd (R2.1 2) x.toNatClampNeg (nI p))
theorem upS_8 (R : StT) (p : Nat) : (upS R p).1 8 = R.1 8 := by
  unfold upS
  by_cases h : R.1 8 p < 0
  · rw [if_pos h]
  · rw [if_neg h, setA_o _ _ (by decide)]
theorem upS_sm (R : StT) (p : Nat) : Sm R (upS R p) := by
  unfold upS
  by_cases h : R.1 8 p < 0
  · rw [if_pos h]; exact Sm.rf R
  · rw [if_neg h]; exact Sm.set2 R _
theorem seS_sm (R : StT) (p : Nat) (x : Int32) : Sm R (seS R p x) := by
  unfold seS
  by_cases h : x < 0
  · simp only [if_pos h]; exact (upS_sm R p).tr (Sm.set8 _ _)
  · simp only [if_neg h]; exact ((upS_sm R p).tr (Sm.set8 _ _)).tr (Sm.set2 _ _)
theorem seS_8 (R : StT) (p : Nat) (x : Int32) : (seS R p x).1 8 = upd (R.1 8) p x := by
  unfold seS
  by_cases h : x < 0
  · simp only [if_pos h]; rw [setA_s, upS_8]
  · simp only [if_neg h]; rw [setA_o _ _ (by decide), setA_s, upS_8]
theorem upS_2 {n : Nat} {R : StT} (h : RI n R) {p c : Nat} (hp : p < n) (hc : c < 8) : (upS R p).1 2 c = if R.1 8 p = nI c then -1 else R.1 2 c := by
  unfold upS
  rcases (h.2.2.2.1 p hp).2.2.2.2 with hs | ⟨d, hd, hs⟩
  · rw [hs, if_pos m1_neg, if_neg (fun e => nI_m1 (p := c) (by omega) e.symm)]
  · rw [hs, if_neg (nI_n0 (by omega)), setA_s, cln (by omega), upd_i]
    by_cases e : c = d
    · rw [if_pos e, if_pos (by rw [e])]
    · rw [if_neg e, if_neg (fun q => e ((nI_inj (by omega) (by omega)).mp q).symm)]
theorem seS_2 {n : Nat} {R : StT} (h : RI n R) {p c d : Nat} (hp : p < n) (hc : c < 8) (hd : d < 8) : (seS R p (nI c)).1 2 d = if d = c then nI p else if R.1 8 p = nI d then -1 else R.1 2 d := by
  unfold seS
  simp only [if_neg (nI_n0 (p := c) (by omega))]
  rw [setA_s, cln (by omega), upd_i]
  by_cases e : d = c
  · rw [if_pos e, if_pos e]
  · rw [if_neg e, if_neg e, setA_o _ _ (by decide), upS_2 h hp hd]
theorem seS_2m {n : Nat} {R : StT} (h : RI n R) {p d : Nat} (hp : p < n) (hd : d < 8) : (seS R p (-1)).1 2 d = if R.1 8 p = nI d then -1 else R.1 2 d := by
  unfold seS
  simp only [if_pos m1_neg]
  rw [setA_o _ _ (by decide), upS_2 h hp hd]
/-- sitting down where nobody sits (or where one sits already) -/
theorem RI.seat {n : Nat} {R : StT} (h : RI n R) {p c : Nat} (hp : p < n) (hc : c < 8) (he : R.1 2 c = -1 ∨ R.1 2 c = nI p) : RI n (seS R p (nI c)) := by
  have hn := h.1
  have iff9 := h.2.2.2.2.2.1
  refine h.re (seS_sm R p _) (fun q hq => ?_) (fun q hq hq8 => ?_) (fun d hd => ?_)
  · rw [seS_8, upd_i]
    by_cases e : q = p
    · rw [if_pos e]; exact Or.inr ⟨c, hc, rfl⟩
    · rw [if_neg e]; exact (h.2.2.2.1 q hq).2.2.2.2
  · rw [seS_8, upd_o _ _ (by omega)]
    exact (h.2.2.2.2.1 q hq hq8).2.2.2.2
  · rw [seS_2 h hp hc hd, seS_8]
    refine ⟨?_, fun q hq => ?_⟩
    · by_cases e : d = c
      · rw [if_pos e]; exact Or.inr ⟨p, hp, rfl⟩
      · rw [if_neg e]
        by_cases e2 : R.1 8 p = nI d
        · rw [if_pos e2]; exact Or.inl rfl
        · rw [if_neg e2]; exact (iff9 d hd).1
    · rw [upd_i]
      by_cases e : d = c
      · subst e
        rw [if_pos rfl]
        by_cases eq : q = p
        · subst eq; rw [if_pos rfl]; exact ⟨fun _ => rfl, fun _ => rfl⟩
        · rw [if_neg eq]
          constructor
          · intro q9; exact absurd ((nI_inj (by omega) (by omega)).mp q9).symm eq
          · intro q9
            have q10 := ((iff9 d hd).2 q hq).mpr q9
            rcases he with he | he
            · rw [he] at q10; exact absurd q10.symm (nI_m1 (by omega))
            · rw [he] at q10; exact absurd ((nI_inj (by omega) (by omega)).mp q10).symm eq
      · rw [if_neg e]
        by_cases eq : q = p
        · subst eq
          rw [if_pos rfl]
          have nd : ¬ nI c = nI d := fun q9 => e ((nI_inj (by omega) (by omega)).mp q9).symm
          by_cases e2 : R.1 8 q = nI d
          · rw [if_pos e2]
            exact ⟨fun q9 => absurd q9.symm (nI_m1 (by omega)), fun q9 => absurd q9 nd⟩
          · rw [if_neg e2]
            exact ⟨fun q9 => absurd (((iff9 d hd).2 q hq).mp q9) e2, fun q9 => absurd q9 nd⟩
        · rw [if_neg eq]
          by_cases e2 : R.1 8 p = nI d
          · rw [if_pos e2]
            refine ⟨fun q9 => absurd q9.symm (nI_m1 (by omega)), fun q9 => ?_⟩
            have a := ((iff9 d hd).2 q hq).mpr q9
            have b := ((iff9 d hd).2 p hp).mpr e2
            exact absurd ((nI_inj (by omega) (by omega)).mp (a.symm.trans b)) eq
          · rw [if_neg e2]
            exact (iff9 d hd).2 q hq
theorem RI.stand {n : Nat} {R : StT} (h : RI n R) {p : Nat} (hp : p < n) : RI n (seS R p (-1)) := by
  have hn := h.1
  have iff9 := h.2.2.2.2.2.1
  refine h.re (seS_sm R p _) (fun q hq => ?_) (fun q hq hq8 => ?_) (fun d hd => ?_)
  · rw [seS_8, upd_i]
    by_cases e : q = p
    · rw [if_pos e]; exact Or.inl rfl
    · rw [if_neg e]; exact (h.2.2.2.1 q hq).2.2.2.2
  · rw [seS_8, upd_o _ _ (by omega)]
    exact (h.2.2.2.2.1 q hq hq8).2.2.2.2
  · rw [seS_2m h hp hd, seS_8]
    refine ⟨?_, fun q hq => ?_⟩
    · by_cases e2 : R.1 8 p = nI d
      · rw [if_pos e2]; exact Or.inl rfl
      · rw [if_neg e2]; exact (iff9 d hd).1
    · rw [upd_i]
      by_cases eq : q = p
      · subst eq
        rw [if_pos rfl]
        by_cases e2 : R.1 8 q = nI d
        · rw [if_pos e2]
          exact ⟨fun q9 => absurd q9.symm (nI_m1 (by omega)), fun q9 => absurd q9.symm (nI_m1 (by omega))⟩
        · rw [if_neg e2]
          exact ⟨fun q9 => absurd (((iff9 d hd).2 q hq).mp q9) e2, fun q9 => absurd q9.symm (nI_m1 (by omega))⟩
      · rw [if_neg eq]
        by_cases e2 : R.1 8 p = nI d
        · rw [if_pos e2]
          refine ⟨fun q9 => absurd q9.symm (nI_m1 (by omega)), fun q9 => ?_⟩
          have a := ((iff9 d hd).2 q hq).mpr q9
          have b := ((iff9 d hd).2 p hp).mpr e2
          exact absurd ((nI_inj (by omega) (by omega)).mp (a.symm.trans b)) eq
        · rw [if_neg e2]
          exact (iff9 d hd).2 q hq
theorem RE.seat {n : Nat} {R : StT} {s : Nat → Int32} (h : RE n R s) (hn : n ≤ 8) {p : Nat} (hp : p < n) (x : Int32) : RE n (seS R p x) (upd s (18 + 6 * p + 5) x) := by
  refine h.re hn (seS_sm R p x) (fun j hj => upd_o _ _ (hj p hp)) (fun q hq => ?_)
  rw [seS_8, upd_i, upd_i]
  by_cases e : q = p
  · rw [if_pos (by rw [e]), if_pos e]
  · rw [if_neg (by omega), if_neg e]; exact (h.2.2.2 q hq).2.2.2.2.2
theorem X0_seat_eq {n : Nat} {R : StT} (h : RI n R) {p : Nat} (hp : p < n) {x : Int32} (hx : x = -1 ∨ ∃ c, c < 8 ∧ x = nI c) : f_X0_seat R (nI p) x = some (seS R p x) := by
  have hn := h.1
  have b21 : ∀ w : StT, f_X0_seat_b21 (nI p) x w = some (if x < 0 then setA w 8 (upd (w.1 8) p x) else setA (setA w 8 (upd (w.1 8) p x)) 2 (upd ((setA w 8 (upd (w.1 8) p x)).1 2) x.toNatClampNeg (nI p))) := by
    intro w
    unfold f_X0_seat_b21
    simp only [nm, cki (show p < 8 by omega) (by decide : 8 < 2147483648), cln (show p < 2147483648 by omega)]
    rcases hx with rfl | ⟨c, hc, rfl⟩
    · rw [if_pos m1_neg, if_pos m1_neg]
    · have e0 : ¬ nI c < 0 := nI_n0 (by omega)
      rw [if_neg e0, if_neg e0, cki hc (by decide)]
  unfold f_X0_seat
  simp only [nm, cki (show p < 8 by omega) (by decide : 8 < 2147483648), cln (show p < 2147483648 by omega), b21]
  unfold seS upS
  rcases (h.2.2.2.1 p hp).2.2.2.2 with hs | ⟨d, hd, hs⟩
  · simp only [hs, if_pos m1_neg]
  · have e0 : ¬ nI d < 0 := nI_n0 (by omega)
    simp only [hs, if_neg e0, cki hd (by decide : 8 < 2147483648)]
