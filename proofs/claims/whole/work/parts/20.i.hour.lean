-- the hour, hours, peace
/-- people from i on do what they would (k of them); moved so far -/
def ppS (R : StT) (m : Int32) : Nat → Nat → Int32 × StT
  | _, 0 => (m, R)
  | i, k + 1 => ppS (mvS R i).2 (m + (mvS R i).1) (i + 1) k
/-- the clock and the trolley -/
def tkS (R : StT) : StT :=
  let w := setF R 1 (R.2.2 1 + 1)
  if R.1 2 7 < 0 then w else if 9999 ≤ R.1 7 (R.1 2 7).toNatClampNeg then w else setA w 7 (upd (R.1 7) (R.1 2 7).toNatClampNeg (R.1 7 (R.1 2 7).toNatClampNeg + 1))
def hrS (n : Nat) (R : StT) : Int32 × StT := ((ppS R 0 0 n).1, tkS (ppS R 0 0 n).2)
theorem mv_01 (R : StT) (p : Nat) : (mvS R p).1 = 0 ∨ (mvS R p).1 = 1 := by
  have t : (tcS R p).1 = 0 ∨ (tcS R p).1 = 1 := by
    unfold tcS
    by_cases h1 : R.1 5 p < 0
    · rw [if_pos h1]; exact Or.inl rfl
    · rw [if_neg h1]
      by_cases h2 : R.1 2 (R.1 5 p).toNatClampNeg < 0
      · rw [if_pos h2]; exact Or.inl rfl
      · rw [if_neg h2]
        by_cases h3 : R.1 2 (R.1 5 p).toNatClampNeg = nI p
        · rw [if_pos h3]; exact Or.inl rfl
        · rw [if_neg h3]
          by_cases h4 : HW R (R.1 2 (R.1 5 p).toNatClampNeg).toNatClampNeg (R.1 5 p).toNatClampNeg + GU R (R.1 2 (R.1 5 p).toNatClampNeg).toNatClampNeg ≤ HW R p (R.1 5 p).toNatClampNeg
          · rw [if_pos h4]; exact Or.inr rfl
          · rw [if_neg h4]; exact Or.inl rfl
  have m : (mtS R p).1 = 0 ∨ (mtS R p).1 = 1 := by
    unfold mtS
    by_cases h1 : (beS R p 8).1 = -1
    · rw [if_pos h1]; exact Or.inl rfl
    · rw [if_neg h1]
      by_cases h2 : R.1 8 p < 0
      · rw [if_pos h2]; exact Or.inr rfl
      · rw [if_neg h2]
        by_cases h3 : HW R p (R.1 8 p).toNatClampNeg < (beS R p 8).2
        · rw [if_pos h3]; exact Or.inr rfl
        · rw [if_neg h3]; exact Or.inl rfl
  unfold mvS
  by_cases z : (mtS R p).1 = 0
  · rw [if_pos z]; exact t
  · rw [if_neg z]; exact m
theorem RI.pp {n : Nat} : ∀ (k i : Nat) {R : StT} (m : Int32), RI n R → i + k ≤ n → RI n (ppS R m i k).2
  | 0, _, _, _, h, _ => h
  | k + 1, i, R, m, h, hi => RI.pp k (i + 1) (m + (mvS R i).1) (h.mv (show i < n by omega)) (by omega)
/-- a change of the hour and of the gaps alone -/
theorem RI.tick {n : Nat} {R R2 : StT} (h : RI n R) (hk : ∀ k, k ≠ 7 → R2.1 k = R.1 k) (h0 : R2.2.2 0 = R.2.2 0) (h7 : ∀ p, n ≤ p → p < 8 → R2.1 7 p = 0) : RI n R2 := by
  obtain ⟨a1, a2, a3, a4, a5, a6, a7⟩ := h
  refine ⟨a1, by rw [h0]; exact a2, fun c hc => ?_, fun p hp => ?_, fun p hp hp8 => ?_, fun c hc => ?_, fun p q hp hq => ?_⟩
  · rw [hk 0 (by decide), hk 1 (by decide)]; exact a3 c hc
  · rw [hk 3 (by decide), hk 4 (by decide), hk 5 (by decide), hk 6 (by decide), hk 8 (by decide)]; exact a4 p hp
  · rw [hk 4 (by decide), hk 5 (by decide), hk 6 (by decide), hk 8 (by decide)]
    obtain ⟨b1, b2, b3, -, b5⟩ := a5 p hp hp8
    exact ⟨b1, b2, b3, h7 p hp hp8, b5⟩
  · rw [hk 2 (by decide), hk 8 (by decide)]; exact a6 c hc
  · unfold od
    rw [hk 6 (by decide)]
    exact a7 p q hp hq
theorem setF_s (R : StT) (k : Nat) (v : Int32) : (setF R k v).2.2 k = v := by unfold setF; simp
theorem setF_o (R : StT) {k j : Nat} (v : Int32) (h : j ≠ k) : (setF R k v).2.2 j = R.2.2 j := by unfold setF; simp [h]
theorem RI.tk {n : Nat} {R : StT} (h : RI n R) : RI n (tkS R) := by
  have hn := h.1
  have w : RI n (setF R 1 (R.2.2 1 + 1)) := h.tick (fun _ _ => rfl) (setF_o R _ (by decide)) (fun p hp hp8 => (h.2.2.2.2.1 p hp hp8).2.2.2.1)
  unfold tkS
  rcases h.sit (c := 7) (by omega) with ht | ⟨q, hq, ht⟩
  · simp only [ht, if_pos m1_neg]; exact w
  · have e1 : ¬ nI q < 0 := nI_n0 (by omega)
    simp only [ht, if_neg e1, cln (show q < 2147483648 by omega)]
    by_cases z : 9999 ≤ R.1 7 q
    · rw [if_pos z]; exact w
    · rw [if_neg z]
      refine w.tick (fun k hk => setA_o _ _ hk) rfl (fun p hp hp8 => ?_)
      rw [setA_s, upd_o _ _ (by omega)]
      exact (h.2.2.2.2.1 p hp hp8).2.2.2.1
theorem RI.hr {n : Nat} {R : StT} (h : RI n R) : RI n (hrS n R).2 := (RI.pp n 0 0 h (by omega)).tk
theorem X0_passOne_l {n : Nat} : ∀ (k i fuel : Nat) (R : StT) (m : Int32), RI n R → i + k = n → k < fuel → f_X0_passOne_l4 fuel m (nI i) R = some ((ppS R m i k).1, tkS (ppS R m i k).2) := by
  intro k
  induction k with
  | zero =>
    intro i fuel R m h hi hf
    have hn := h.1
    obtain ⟨fuel, rfl⟩ : ∃ z, fuel = z + 1 := ⟨fuel - 1, by omega⟩
    have e : i = n := by omega
    subst e
    rw [f_X0_passOne_l4, h.2.1, if_pos ((nI_lei (by omega) (by omega)).mpr (Nat.le_refl i))]
    have c7 : ∀ A : Option (Int32 × StT), ck 7 8 A = A := fun A => cki (p := 7) (by decide) (by decide)
    have l7 : Int32.toNatClampNeg 7 = 7 := cln (p := 7) (by decide)
    simp only [nm, c7, l7]
    show _ = some (m, tkS R)
    unfold tkS
    have f2 : (setF R 1 (R.2.2 1 + 1)).1 = R.1 := rfl
    rw [f2]
    rcases h.sit (c := 7) (by omega) with ht | ⟨q, hq, ht⟩
    · simp only [ht, if_pos m1_neg]
    · have e1 : ¬ nI q < 0 := nI_n0 (by omega)
      simp only [ht, if_neg e1, cln (show q < 2147483648 by omega), cki (show q < 8 by omega) (by decide : 8 < 2147483648)]
      by_cases z : 9999 ≤ R.1 7 q
      · rw [if_pos z, if_pos z]
      · rw [if_neg z, if_neg z]
  | succ k ih =>
    intro i fuel R m h hi hf
    have hn := h.1
    obtain ⟨fuel, rfl⟩ : ∃ z, fuel = z + 1 := ⟨fuel - 1, by omega⟩
    have hin : i < n := by omega
    rw [f_X0_passOne_l4, h.2.1, if_neg (fun q => by have := (nI_lei (by omega) (by omega)).mp q; omega), X0_mte_eq h hin, bds]
    have b31 : ∀ x w, f_X0_passOne_b31 (f_X0_passOne_l4 fuel) x (nI i) w = f_X0_passOne_l4 fuel x (nI (i + 1)) w := fun x w => by
      show f_X0_passOne_l4 fuel x (nI i + 1) w = _
      rw [nI_1]
    have b28 : ∀ x w, f_X0_passOne_b28 (f_X0_passOne_l4 fuel) x (nI i) w = f_X0_passOne_l4 fuel (x + 1) (nI (i + 1)) w := fun x w => b31 _ w
    have nxt := ih (i + 1) fuel (mvS R i).2 (m + (mvS R i).1) (h.mv hin) (by omega) (by omega)
    show _ = some ((ppS (mvS R i).2 (m + (mvS R i).1) (i + 1) k).1, tkS (ppS (mvS R i).2 (m + (mvS R i).1) (i + 1) k).2)
    rw [← nxt]
    unfold mvS
    by_cases z : (mtS R i).1 = 0
    · have e : (mtS R i).2 = R := by rw [mt_0 z]
      rw [if_pos z, e, X0_tc_eq h hin, bds, if_pos z]
      have t := mv_01 R i
      unfold mvS at t
      rw [if_pos z] at t
      rcases t with t | t
      · rw [if_pos t, t, add0, b31]
      · rw [if_neg (by rw [t]; exact i1n), t, b28]
    · have t := mv_01 R i
      unfold mvS at t
      rw [if_neg z] at t
      rw [if_neg z, if_neg z]
      rcases t with t | t
      · exact absurd t z
      · rw [t, b28]
theorem X0_passOne_eq {n : Nat} {R : StT} (h : RI n R) : f_X0_passOne R = some (hrS n R) := by
  have hn := h.1
  exact X0_passOne_l n 0 200 R 0 h (by omega) (by omega)
theorem RE.tk {n : Nat} {R : StT} {s : Nat → Int32} (hI : RI n R) (h : RE n R s) : RE n (tkS R) (if R.1 2 7 < 0 then upd s 1 (R.2.2 1 + 1) else if 9999 ≤ R.1 7 (R.1 2 7).toNatClampNeg then upd s 1 (R.2.2 1 + 1) else upd (upd s 1 (R.2.2 1 + 1)) (18 + 6 * (R.1 2 7).toNatClampNeg + 4) (R.1 7 (R.1 2 7).toNatClampNeg + 1)) := by
  have hn := hI.1
  have w : RE n (setF R 1 (R.2.2 1 + 1)) (upd s 1 (R.2.2 1 + 1)) := by
    obtain ⟨a1, a2, a3, a4⟩ := h
    refine ⟨by rw [upd_o _ _ (by decide)]; exact a1, by rw [upd_s, setF_s], fun c hc => ?_, fun p hp => ?_⟩
    · rw [upd_o _ _ (by omega), upd_o _ _ (by omega)]; exact a3 c hc
    · rw [upd_o _ _ (by omega), upd_o _ _ (by omega), upd_o _ _ (by omega), upd_o _ _ (by omega), upd_o _ _ (by omega), upd_o _ _ (by omega)]; exact a4 p hp
  unfold tkS
  rcases hI.sit (c := 7) (by omega) with ht | ⟨q, hq, ht⟩
  · simp only [ht, if_pos m1_neg]; exact w
  · have e1 : ¬ nI q < 0 := nI_n0 (by omega)
    simp only [ht, if_neg e1, cln (show q < 2147483648 by omega)]
    by_cases z : 9999 ≤ R.1 7 q
    · rw [if_pos z, if_pos z]; exact w
    · rw [if_neg z, if_neg z]
      obtain ⟨a1, a2, a3, a4⟩ := w
      refine ⟨by rw [upd_o _ _ (by omega)]; exact a1, by rw [upd_o _ _ (by omega)]; exact a2, fun c hc => ⟨?_, ?_⟩, fun p hp => ?_⟩
      · rw [upd_o _ _ (show 2 + 2 * c ≠ 18 + 6 * q + 4 by omega), setA_o _ _ (show (0 : Nat) ≠ 7 by decide)]; exact (a3 c hc).1
      · rw [upd_o _ _ (show 2 + 2 * c + 1 ≠ 18 + 6 * q + 4 by omega), setA_o _ _ (show (1 : Nat) ≠ 7 by decide)]; exact (a3 c hc).2
      · obtain ⟨b1, b2, b3, b4, b5, b6⟩ := a4 p hp
        refine ⟨by rw [upd_o _ _ (show 18 + 6 * p ≠ 18 + 6 * q + 4 by omega), setA_o _ _ (show (3 : Nat) ≠ 7 by decide)]; exact b1, by rw [upd_o _ _ (show 18 + 6 * p + 1 ≠ 18 + 6 * q + 4 by omega), setA_o _ _ (show (4 : Nat) ≠ 7 by decide)]; exact b2, by rw [upd_o _ _ (show 18 + 6 * p + 2 ≠ 18 + 6 * q + 4 by omega), setA_o _ _ (show (5 : Nat) ≠ 7 by decide)]; exact b3, by rw [upd_o _ _ (show 18 + 6 * p + 3 ≠ 18 + 6 * q + 4 by omega), setA_o _ _ (show (6 : Nat) ≠ 7 by decide)]; exact b4, ?_, by rw [upd_o _ _ (show 18 + 6 * p + 5 ≠ 18 + 6 * q + 4 by omega), setA_o _ _ (show (8 : Nat) ≠ 7 by decide)]; exact b6⟩
        rw [setA_s, upd_i (upd s 1 (R.2.2 1 + 1)), upd_i (R.1 7)]
        by_cases e : p = q
        · rw [if_pos (by rw [e]), if_pos e]
        · rw [if_neg (by omega), if_neg e]; exact b5
theorem X4_hour_l {n : Nat} : ∀ (k i fuel : Nat) (R M : StT) (m : Int32), RI n R → RE n R (M.1 0) → i + k = n → k < fuel → ∃ M2, f_X4_hour_l4 fuel m (nI i) M = some ((ppS R m i k).1, M2) ∧ RE n (tkS (ppS R m i k).2) (M2.1 0) ∧ Fr M M2 := by
  intro k
  induction k with
  | zero =>
    intro i fuel R M m hI h hi hf
    have hn := hI.1
    obtain ⟨fuel, rfl⟩ : ∃ z, fuel = z + 1 := ⟨fuel - 1, by omega⟩
    have e : i = n := by omega
    subst e
    rw [f_X4_hour_l4, ck0, cl0, h.1, if_pos ((nI_lei (by omega) (by omega)).mpr (Nat.le_refl i)), ck1, ck1, cl1, h.2.1]
    show ∃ M2, _ = some (m, M2) ∧ RE i (tkS R) (M2.1 0) ∧ Fr M M2
    have rt := RE.tk hI h
    have wI : RI i (setF R 1 (R.2.2 1 + 1)) := hI.tick (fun _ _ => rfl) (setF_o R _ (by decide)) (fun p hp hp8 => (hI.2.2.2.2.1 p hp hp8).2.2.2.1)
    have wE : RE i (setF R 1 (R.2.2 1 + 1)) ((setA M 0 (upd (M.1 0) 1 (R.2.2 1 + 1))).1 0) := by
      rw [setA_s]
      obtain ⟨a1, a2, a3, a4⟩ := h
      refine ⟨by rw [upd_o _ _ (by decide)]; exact a1, by rw [upd_s, setF_s], fun c hc => ?_, fun p hp => ?_⟩
      · rw [upd_o _ _ (by omega), upd_o _ _ (by omega)]; exact a3 c hc
      · rw [upd_o _ _ (by omega), upd_o _ _ (by omega), upd_o _ _ (by omega), upd_o _ _ (by omega), upd_o _ _ (by omega), upd_o _ _ (by omega)]; exact a4 p hp
    have who := X4_whoIn_eq wI wE (c := 7) (by omega)
    rw [show nI 7 = (7 : Int32) from rfl] at who
    simp only [nm]
    rw [who, bds, show (setF R 1 (R.2.2 1 + 1)).1 2 7 = R.1 2 7 from rfl]
    rcases hI.sit (c := 7) (by omega) with ht | ⟨q, hq, ht⟩
    · rw [ht, if_pos rfl]
      rw [ht, if_pos m1_neg] at rt
      refine ⟨_, rfl, ?_, Fr.set _ _⟩
      rw [setA_s]; exact rt
    · have e1 : ¬ nI q < 0 := nI_n0 (by omega)
      have em : ¬ nI q = -1 := nI_m1 (by omega)
      have e4 : f_X4_spotOf (nI q) 4 = some (nI (18 + 6 * q + 4)) := by rw [li 4, spotOf_eq]
      rw [ht, if_neg e1, cln (by omega)] at rt
      rw [ht, if_neg em, X4_its4 wE hn hq, bds, show (setF R 1 (R.2.2 1 + 1)).1 7 q = R.1 7 q from rfl]
      by_cases z : 9999 ≤ R.1 7 q
      · rw [if_pos z] at rt
        rw [if_pos z]
        refine ⟨_, rfl, ?_, Fr.set _ _⟩
        rw [setA_s]; exact rt
      · rw [if_neg z] at rt
        rw [if_neg z, e4, bds, cki (show 18 + 6 * q + 4 < 66 by omega) (by decide), cki (show 18 + 6 * q + 4 < 66 by omega) (by decide), cln (by omega), setA_s]
        refine ⟨_, rfl, ?_, (Fr.set _ _).tr (Fr.set _ _)⟩
        rw [setA_s, upd_o _ _ (by omega), (h.2.2.2 q hq).2.2.2.2.1]
        exact rt
  | succ k ih =>
    intro i fuel R M m hI h hi hf
    have hn := hI.1
    obtain ⟨fuel, rfl⟩ : ∃ z, fuel = z + 1 := ⟨fuel - 1, by omega⟩
    have hin : i < n := by omega
    obtain ⟨M1, e1, h1, f1⟩ := X4_moves_eq hI h hin
    obtain ⟨M2, e2, h2, f2⟩ := ih (i + 1) fuel (mvS R i).2 M1 (m + (mvS R i).1) (hI.mv hin) h1 (by omega) (by omega)
    refine ⟨M2, ?_, h2, f1.tr f2⟩
    rw [f_X4_hour_l4, ck0, cl0, h.1, if_neg (fun q => by have := (nI_lei (by omega) (by omega)).mp q; omega), e1, bds]
    show f_X4_hour_l4 fuel (m + (mvS R i).1) (nI i + 1) M1 = _
    rw [nI_1]
    exact e2
theorem X4_hour_eq {n : Nat} {R M : StT} (hI : RI n R) (h : RE n R (M.1 0)) : ∃ M2, f_X4_hour M = some ((hrS n R).1, M2) ∧ RE n (hrS n R).2 (M2.1 0) ∧ Fr M M2 := by
  have hn := hI.1
  exact X4_hour_l n 0 200 R M 0 hI h (by omega) (by omega)
