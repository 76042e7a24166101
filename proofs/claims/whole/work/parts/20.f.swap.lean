-- two change chairs
def swS (R : StT) (p q : Nat) : StT :=
  let w := setA (setA R 8 (upd (R.1 8) p (R.1 8 q))) 8 (upd (upd (R.1 8) p (R.1 8 q)) q (R.1 8 p))
  let w2 := if R.1 8 q < 0 then w else setA w 2 (upd (w.1 2) (R.1 8 q).toNatClampNeg (nI p))
  if R.1 8 p < 0 then w2 else setA w2 2 (upd (w2.1 2) (R.1 8 p).toNatClampNeg (nI q))
theorem swS_sm (R : StT) (p q : Nat) : Sm R (swS R p q) := by
  have h0 : Sm R (setA (setA R 8 (upd (R.1 8) p (R.1 8 q))) 8 (upd (upd (R.1 8) p (R.1 8 q)) q (R.1 8 p))) := (Sm.set8 _ _).tr (Sm.set8 _ _)
  unfold swS
  by_cases h1 : R.1 8 q < 0 <;> by_cases h2 : R.1 8 p < 0
  · simp only [if_pos h1, if_pos h2]; exact h0
  · simp only [if_pos h1, if_neg h2]; exact h0.tr (Sm.set2 _ _)
  · simp only [if_neg h1, if_pos h2]; exact h0.tr (Sm.set2 _ _)
  · simp only [if_neg h1, if_neg h2]; exact (h0.tr (Sm.set2 _ _)).tr (Sm.set2 _ _)
theorem swS_8 (R : StT) (p q : Nat) : (swS R p q).1 8 = upd (upd (R.1 8) p (R.1 8 q)) q (R.1 8 p) := by
  unfold swS
  by_cases h1 : R.1 8 q < 0 <;> by_cases h2 : R.1 8 p < 0
  · simp only [if_pos h1, if_pos h2]; rw [setA_s]
  · simp only [if_pos h1, if_neg h2]; rw [setA_o _ _ (by decide), setA_s]
  · simp only [if_neg h1, if_pos h2]; rw [setA_o _ _ (by decide), setA_s]
  · simp only [if_neg h1, if_neg h2]; rw [setA_o _ _ (by decide), setA_o _ _ (by decide), setA_s]
theorem swS_2 {n : Nat} {R : StT} (h : RI n R) {p q d : Nat} (hp : p < n) (hq : q < n) (hd : d < 8) : (swS R p q).1 2 d = if R.1 8 p = nI d then nI q else if R.1 8 q = nI d then nI p else R.1 2 d := by
  have hn := h.1
  have w0 : (setA (setA R 8 (upd (R.1 8) p (R.1 8 q))) 8 (upd (upd (R.1 8) p (R.1 8 q)) q (R.1 8 p))).1 2 = R.1 2 := by rw [setA_o _ _ (by decide), setA_o _ _ (by decide)]
  have w2 : (if R.1 8 q < 0 then setA (setA R 8 (upd (R.1 8) p (R.1 8 q))) 8 (upd (upd (R.1 8) p (R.1 8 q)) q (R.1 8 p)) else setA (setA (setA R 8 (upd (R.1 8) p (R.1 8 q))) 8 (upd (upd (R.1 8) p (R.1 8 q)) q (R.1 8 p))) 2 (upd ((setA (setA R 8 (upd (R.1 8) p (R.1 8 q))) 8 (upd (upd (R.1 8) p (R.1 8 q)) q (R.1 8 p))).1 2) (R.1 8 q).toNatClampNeg (nI p))).1 2 d = if R.1 8 q = nI d then nI p else R.1 2 d := by
    rcases (h.2.2.2.1 q hq).2.2.2.2 with hs | ⟨e, he, hs⟩
    · rw [hs, if_pos m1_neg, ← hs, w0, if_neg (by rw [hs]; exact fun z => nI_m1 (p := d) (by omega) z.symm)]
    · have e0 : ¬ nI e < 0 := nI_n0 (by omega)
      rw [hs, if_neg e0, ← hs, setA_s, w0, hs, cln (by omega), upd_i]
      by_cases z : d = e
      · rw [if_pos z, if_pos (by rw [z])]
      · rw [if_neg z, if_neg (fun y => z ((nI_inj (by omega) (by omega)).mp y).symm)]
  unfold swS
  simp only []
  rcases (h.2.2.2.1 p hp).2.2.2.2 with hs | ⟨e, he, hs⟩
  · rw [if_pos (show R.1 8 p < 0 by rw [hs]; exact m1_neg), w2, if_neg (show ¬ R.1 8 p = nI d by rw [hs]; exact fun z => nI_m1 (p := d) (by omega) z.symm)]
  · have e0 : ¬ R.1 8 p < 0 := by rw [hs]; exact nI_n0 (by omega)
    have e1 : (R.1 8 p).toNatClampNeg = e := by rw [hs]; exact cln (by omega)
    rw [if_neg e0, setA_s, e1, upd_i]
    by_cases z : d = e
    · rw [if_pos z, if_pos (by rw [hs, z])]
    · rw [if_neg z, w2, if_neg (show ¬ R.1 8 p = nI d by rw [hs]; exact fun y => z ((nI_inj (by omega) (by omega)).mp y).symm)]
theorem RI.apart {n : Nat} {R : StT} (h : RI n R) {p q d : Nat} (hp : p < n) (hq : q < n) (hd : d < 8) (e1 : R.1 8 p = nI d) (e2 : R.1 8 q = nI d) : p = q := by
  have hn := h.1
  have a := ((h.2.2.2.2.2.1 d hd).2 p hp).mpr e1
  have b := ((h.2.2.2.2.2.1 d hd).2 q hq).mpr e2
  exact (nI_inj (by omega) (by omega)).mp (a.symm.trans b)
theorem RI.swap {n : Nat} {R : StT} (h : RI n R) {p q : Nat} (hp : p < n) (hq : q < n) (hne : p ≠ q) : RI n (swS R p q) := by
  have hn := h.1
  have iff9 := h.2.2.2.2.2.1
  refine h.re (swS_sm R p q) (fun r hr => ?_) (fun r hr hr8 => ?_) (fun d hd => ?_)
  · rw [swS_8, upd_i, upd_i]
    by_cases e : r = q
    · rw [if_pos e]; exact (h.2.2.2.1 p hp).2.2.2.2
    · rw [if_neg e]
      by_cases e2 : r = p
      · rw [if_pos e2]; exact (h.2.2.2.1 q hq).2.2.2.2
      · rw [if_neg e2]; exact (h.2.2.2.1 r hr).2.2.2.2
  · rw [swS_8, upd_o _ _ (by omega), upd_o _ _ (by omega)]
    exact (h.2.2.2.2.1 r hr hr8).2.2.2.2
  · rw [swS_2 h hp hq hd, swS_8]
    refine ⟨?_, fun r hr => ?_⟩
    · by_cases e : R.1 8 p = nI d
      · rw [if_pos e]; exact Or.inr ⟨q, hq, rfl⟩
      · rw [if_neg e]
        by_cases e2 : R.1 8 q = nI d
        · rw [if_pos e2]; exact Or.inr ⟨p, hp, rfl⟩
        · rw [if_neg e2]; exact (iff9 d hd).1
    · rw [upd_i, upd_i]
      by_cases e : R.1 8 p = nI d
      · rw [if_pos e]
        by_cases rq : r = q
        · rw [if_pos rq, rq]; exact ⟨fun _ => e, fun _ => rfl⟩
        · rw [if_neg rq]
          have l : ¬ nI q = nI r := fun z => rq ((nI_inj (by omega) (by omega)).mp z).symm
          by_cases rp : r = p
          · rw [if_pos rp]
            exact ⟨fun z => absurd z l, fun z => absurd (h.apart hp hq hd e z) hne⟩
          · rw [if_neg rp]
            exact ⟨fun z => absurd z l, fun z => absurd (h.apart hr hp hd z e) rp⟩
      · rw [if_neg e]
        by_cases e2 : R.1 8 q = nI d
        · rw [if_pos e2]
          by_cases rq : r = q
          · rw [if_pos rq]
            exact ⟨fun z => absurd ((nI_inj (by omega) (by omega)).mp z) (by omega), fun z => absurd z e⟩
          · rw [if_neg rq]
            by_cases rp : r = p
            · rw [if_pos rp, rp]; exact ⟨fun _ => e2, fun _ => rfl⟩
            · rw [if_neg rp]
              exact ⟨fun z => absurd ((nI_inj (by omega) (by omega)).mp z).symm rp, fun z => absurd (h.apart hr hq hd z e2) rq⟩
        · rw [if_neg e2]
          by_cases rq : r = q
          · rw [if_pos rq, rq]
            exact ⟨fun z => absurd (((iff9 d hd).2 q hq).mp z) e2, fun z => absurd z e⟩
          · rw [if_neg rq]
            by_cases rp : r = p
            · rw [if_pos rp, rp]
              exact ⟨fun z => absurd (((iff9 d hd).2 p hp).mp z) e, fun z => absurd z e2⟩
            · rw [if_neg rp]
              exact (iff9 d hd).2 r hr
theorem RE.swap {n : Nat} {R : StT} {s : Nat → Int32} (h : RE n R s) (hn : n ≤ 8) {p q : Nat} (hp : p < n) (hq : q < n) : RE n (swS R p q) (upd (upd s (18 + 6 * p + 5) (R.1 8 q)) (18 + 6 * q + 5) (R.1 8 p)) := by
  refine h.re hn (swS_sm R p q) (fun j hj => by rw [upd_o _ _ (hj q hq), upd_o _ _ (hj p hp)]) (fun r hr => ?_)
  rw [swS_8, upd_i, upd_i, upd_i, upd_i]
  by_cases e : r = q
  · rw [if_pos (by rw [e]), if_pos e]
  · rw [if_neg (by omega), if_neg e]
    by_cases e2 : r = p
    · rw [if_pos (by rw [e2]), if_pos e2]
    · rw [if_neg (by omega), if_neg e2]; exact (h.2.2.2 r hr).2.2.2.2.2
theorem X0_swap_eq {n : Nat} {R : StT} (h : RI n R) {p q : Nat} (hp : p < n) (hq : q < n) : f_X0_swap R (nI p) (nI q) = some (swS R p q) := by
  have hn := h.1
  have b43 : ∀ w : StT, f_X0_swap_b43 (nI q) (R.1 8 p) w = some (if R.1 8 p < 0 then w else setA w 2 (upd (w.1 2) (R.1 8 p).toNatClampNeg (nI q))) := by
    intro w
    unfold f_X0_swap_b43
    simp only [nm]
    rcases (h.2.2.2.1 p hp).2.2.2.2 with hs | ⟨d, hd, hs⟩
    · rw [hs, if_pos m1_neg, if_pos m1_neg]
    · have e0 : ¬ nI d < 0 := nI_n0 (by omega)
      rw [hs, if_neg e0, if_neg e0, cki hd (by decide)]
  unfold f_X0_swap swS
  simp only [nm, cki (show p < 8 by omega) (by decide : 8 < 2147483648), cki (show q < 8 by omega) (by decide : 8 < 2147483648), cln (show p < 2147483648 by omega), cln (show q < 2147483648 by omega), b43, setA_s]
  rcases (h.2.2.2.1 q hq).2.2.2.2 with hs | ⟨d, hd, hs⟩
  · rw [if_pos (show R.1 8 q < 0 by rw [hs]; exact m1_neg), if_pos (show R.1 8 q < 0 by rw [hs]; exact m1_neg)]
  · have e0 : ¬ R.1 8 q < 0 := by rw [hs]; exact nI_n0 (by omega)
    have e1 : ∀ A : Option StT, ck (R.1 8 q) 8 A = A := fun A => by rw [hs]; exact cki hd (by decide)
    rw [if_neg e0, if_neg e0, e1]
    simp only [setA_s]
theorem X4_changes_eq {n : Nat} {R M : StT} (h : RE n R (M.1 0)) (hn : n ≤ 8) {p q : Nat} (hp : p < n) (hq : q < n) : f_X4_changes M (nI p) (nI q) = some (setA (setA M 0 (upd (M.1 0) (18 + 6 * p + 5) (R.1 8 q))) 0 (upd (upd (M.1 0) (18 + 6 * p + 5) (R.1 8 q)) (18 + 6 * q + 5) (R.1 8 p))) := by
  have e1 : f_X4_spotOf (nI p) 5 = some (nI (18 + 6 * p + 5)) := by rw [li 5, spotOf_eq]
  have e2 : f_X4_spotOf (nI q) 5 = some (nI (18 + 6 * q + 5)) := by rw [li 5, spotOf_eq]
  unfold f_X4_changes f_X4_becomes
  simp only [e1, e2, bds, nm, X4_its5 h hn hq, cki (show 18 + 6 * p + 5 < 66 by omega) (by decide : 66 < 2147483648), cki (show 18 + 6 * q + 5 < 66 by omega) (by decide : 66 < 2147483648), cln (show 18 + 6 * p + 5 < 2147483648 by omega), cln (show 18 + 6 * q + 5 < 2147483648 by omega), setA_s, (h.2.2.2 p hp).2.2.2.2.2]
