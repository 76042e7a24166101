theorem i1n : ¬ (1 : Int32) = 0 := by decide
-- an hour: one after the other moves where it is better
/-- the best empty chair of the first c, and how well one would sit there -/
def beS (R : StT) (p : Nat) : Nat → Int32 × Int32
  | 0 => (-1, 0)
  | c + 1 => if R.1 2 c = -1 then (if (beS R p c).1 = -1 ∨ (beS R p c).2 < HW R p c then (nI c, HW R p c) else beS R p c) else beS R p c
theorem be_inv (R : StT) (p : Nat) : ∀ c, beS R p c = (-1, 0) ∨ ∃ d, d < c ∧ beS R p c = (nI d, HW R p d) ∧ R.1 2 d = -1
  | 0 => Or.inl rfl
  | c + 1 => by
    have ih := be_inv R p c
    have lift : (beS R p c = (-1, 0) ∨ ∃ d, d < c ∧ beS R p c = (nI d, HW R p d) ∧ R.1 2 d = -1) → (beS R p c = (-1, 0) ∨ ∃ d, d < c + 1 ∧ beS R p c = (nI d, HW R p d) ∧ R.1 2 d = -1) := fun z => z.imp id (fun ⟨d, h1, h2⟩ => ⟨d, by omega, h2⟩)
    rw [beS]
    by_cases h : R.1 2 c = -1
    · rw [if_pos h]
      by_cases h2 : (beS R p c).1 = -1 ∨ (beS R p c).2 < HW R p c
      · rw [if_pos h2]; exact Or.inr ⟨c, by omega, rfl, h⟩
      · rw [if_neg h2]; exact lift ih
    · rw [if_neg h]; exact lift ih
def mtS (R : StT) (p : Nat) : Int32 × StT :=
  if (beS R p 8).1 = -1 then (0, R) else if R.1 8 p < 0 then (1, seS R p (beS R p 8).1) else if HW R p (R.1 8 p).toNatClampNeg < (beS R p 8).2 then (1, seS R p (beS R p 8).1) else (0, R)
theorem X0_mte_l {n : Nat} {R : StT} (h : RI n R) {p : Nat} (hp : p < n) : ∀ (k c fuel : Nat), c + k = 8 → k < fuel → f_X0_movesToEmpty_l7 fuel (nI p) (beS R p c).1 (beS R p c).2 (nI c) R = some (mtS R p) := by
  have hn := h.1
  intro k
  induction k with
  | zero =>
    intro c fuel hc hf
    obtain ⟨fuel, rfl⟩ : ∃ m, fuel = m + 1 := ⟨fuel - 1, by omega⟩
    have e : c = 8 := by omega
    subst e
    rw [f_X0_movesToEmpty_l7, if_pos (show (8 : Int32) ≤ nI 8 by decide)]
    unfold mtS
    by_cases h1 : (beS R p 8).1 = -1
    · rw [if_pos h1, if_pos h1]
    · rw [if_neg h1, if_neg h1, cki (show p < 8 by omega) (by decide), cln (by omega)]
      have se : ∃ d, d < 8 ∧ (beS R p 8).1 = nI d := by
        rcases be_inv R p 8 with z | ⟨d, hd, z, -⟩
        · exact absurd (by rw [z]) h1
        · exact ⟨d, hd, by rw [z]⟩
      obtain ⟨d, hd, ed⟩ := se
      have b88 : f_X0_movesToEmpty_b88 (nI p) (beS R p 8).1 R = some (1, seS R p (beS R p 8).1) := by
        unfold f_X0_movesToEmpty_b88
        rw [X0_seat_eq h hp (Or.inr ⟨d, hd, ed⟩), bds]
      rcases (h.2.2.2.1 p hp).2.2.2.2 with hs | ⟨e, he, hs⟩
      · rw [hs, if_pos m1_neg, if_pos m1_neg, b88]
      · have e0 : ¬ nI e < 0 := nI_n0 (by omega)
        rw [hs, if_neg e0, if_neg e0, cki (show p < 8 by omega) (by decide), X0_howWell_eq h (by omega) he, bds, cln (by omega), b88]
        by_cases z : HW R p e < (beS R p 8).2
        · rw [if_pos z, if_pos z]
        · rw [if_neg z, if_neg z]
  | succ k ih =>
    intro c fuel hc hf
    obtain ⟨fuel, rfl⟩ : ∃ m, fuel = m + 1 := ⟨fuel - 1, by omega⟩
    have hc8 : c < 8 := by omega
    have nxt := ih (c + 1) fuel (by omega) (by omega)
    rw [f_X0_movesToEmpty_l7, if_neg (fun q => by have := (nI_lei (a := 8) (by omega) (by omega)).mp q; omega), cki hc8 (by decide), cln (by omega)]
    have b51 : ∀ a b, f_X0_movesToEmpty_b51 (f_X0_movesToEmpty_l7 fuel) (nI p) a b (nI c) R = f_X0_movesToEmpty_l7 fuel (nI p) a b (nI (c + 1)) R := fun a b => by
      show f_X0_movesToEmpty_l7 fuel (nI p) a b (nI c + 1) R = _
      rw [nI_1]
    have b45 : ∀ z, f_X0_movesToEmpty_b45 (f_X0_movesToEmpty_l7 fuel) (nI p) (nI c) z R = f_X0_movesToEmpty_l7 fuel (nI p) (nI c) z (nI (c + 1)) R := fun z => b51 _ _
    rw [beS] at nxt
    by_cases hs : R.1 2 c = -1
    · rw [if_pos hs] at nxt
      rw [if_pos hs, X0_howWell_eq h (by omega) hc8, bds, b45, b51]
      by_cases h1 : (beS R p c).1 = -1
      · rw [if_pos (Or.inl h1)] at nxt
        rw [if_pos h1]
        exact nxt
      · rw [if_neg h1]
        by_cases h2 : HW R p c ≤ (beS R p c).2
        · rw [if_neg (fun q => q.elim h1 (fun q => by rw [ilt] at q; rw [ile] at h2; omega))] at nxt
          rw [if_pos h2]
          exact nxt
        · rw [if_pos (Or.inr (by rw [ilt]; rw [ile] at h2; omega))] at nxt
          rw [if_neg h2]
          exact nxt
    · rw [if_neg hs] at nxt
      rw [if_neg hs, b51]
      exact nxt
theorem X0_mte_eq {n : Nat} {R : StT} (h : RI n R) {p : Nat} (hp : p < n) : f_X0_movesToEmpty R (nI p) = some (mtS R p) := X0_mte_l h hp 8 0 200 (by omega) (by omega)
theorem X4_be_l {n : Nat} {R M : StT} (hI : RI n R) (h : RE n R (M.1 0)) {p : Nat} (hp : p < n) : ∀ (k c fuel : Nat), c + k = 8 → k < fuel → f_X4_bestEmpty_l7 M fuel (nI p) (beS R p c).1 (beS R p c).2 (nI c) = some (beS R p 8).1 := by
  have hn := hI.1
  intro k
  induction k with
  | zero =>
    intro c fuel hc hf
    obtain ⟨fuel, rfl⟩ : ∃ m, fuel = m + 1 := ⟨fuel - 1, by omega⟩
    have e : c = 8 := by omega
    subst e
    rw [f_X4_bestEmpty_l7, if_pos (show (8 : Int32) ≤ nI 8 by decide)]
  | succ k ih =>
    intro c fuel hc hf
    obtain ⟨fuel, rfl⟩ : ∃ m, fuel = m + 1 := ⟨fuel - 1, by omega⟩
    have hc8 : c < 8 := by omega
    have nxt := ih (c + 1) fuel (by omega) (by omega)
    rw [f_X4_bestEmpty_l7, if_neg (fun q => by have := (nI_lei (a := 8) (by omega) (by omega)).mp q; omega), X4_whoIn_eq hI h hc8, bds]
    have b75 : ∀ a b, f_X4_bestEmpty_b75 (f_X4_bestEmpty_l7 M fuel) M (nI p) a b (nI c) = f_X4_bestEmpty_l7 M fuel (nI p) a b (nI (c + 1)) := fun a b => by
      show f_X4_bestEmpty_l7 M fuel (nI p) a b (nI c + 1) = _
      rw [nI_1]
    have b49 : ∀ a b v, f_X4_bestEmpty_b49 (f_X4_bestEmpty_l7 M fuel) M (nI p) a b (nI c) v 1 = f_X4_bestEmpty_l7 M fuel (nI p) (nI c) v (nI (c + 1)) := fun a b v => by
      unfold f_X4_bestEmpty_b49 f_X4_bestEmpty_b62 f_X4_bestEmpty_b74
      rw [if_neg (by decide), if_neg (by decide), b75]
    have b490 : ∀ a b v, f_X4_bestEmpty_b49 (f_X4_bestEmpty_l7 M fuel) M (nI p) a b (nI c) v 0 = f_X4_bestEmpty_l7 M fuel (nI p) a b (nI (c + 1)) := fun a b v => by
      unfold f_X4_bestEmpty_b49 f_X4_bestEmpty_b62 f_X4_bestEmpty_b74
      rw [if_pos rfl, if_pos rfl, b75]
    rw [beS] at nxt
    by_cases hs : R.1 2 c = -1
    · rw [if_pos hs] at nxt
      rw [if_pos hs, X4_sits_eq hI h hp hc8, bds]
      unfold f_X4_bestEmpty_b44
      rw [b49, b490]
      by_cases h1 : (beS R p c).1 = -1
      · rw [if_pos (Or.inl h1)] at nxt
        rw [if_pos h1]
        exact nxt
      · rw [if_neg h1]
        by_cases h2 : HW R p c ≤ (beS R p c).2
        · rw [if_neg (fun q => q.elim h1 (fun q => by rw [ilt] at q; rw [ile] at h2; omega))] at nxt
          rw [if_pos h2]
          exact nxt
        · rw [if_pos (Or.inr (by rw [ilt]; rw [ile] at h2; omega))] at nxt
          rw [if_neg h2]
          exact nxt
    · rw [if_neg hs] at nxt
      rw [if_neg hs, b75]
      exact nxt
theorem X4_be_eq {n : Nat} {R M : StT} (hI : RI n R) (h : RE n R (M.1 0)) {p : Nat} (hp : p < n) : f_X4_bestEmpty M (nI p) = some (beS R p 8).1 := X4_be_l hI h hp 8 0 200 (by omega) (by omega)
def tcS (R : StT) (p : Nat) : Int32 × StT :=
  if R.1 5 p < 0 then (0, R)
  else if R.1 2 (R.1 5 p).toNatClampNeg < 0 then (0, R)
  else if R.1 2 (R.1 5 p).toNatClampNeg = nI p then (0, R)
  else if HW R (R.1 2 (R.1 5 p).toNatClampNeg).toNatClampNeg (R.1 5 p).toNatClampNeg + GU R (R.1 2 (R.1 5 p).toNatClampNeg).toNatClampNeg ≤ HW R p (R.1 5 p).toNatClampNeg then (1, swS R p (R.1 2 (R.1 5 p).toNatClampNeg).toNatClampNeg)
  else (0, R)
theorem X0_tc_eq {n : Nat} {R : StT} (h : RI n R) {p : Nat} (hp : p < n) : f_X0_takesItsClaim R (nI p) = some (tcS R p) := by
  have hn := h.1
  unfold f_X0_takesItsClaim tcS
  simp only [nm, cki (show p < 8 by omega) (by decide : 8 < 2147483648), cln (show p < 2147483648 by omega)]
  rcases (h.2.2.2.1 p hp).2.2.1 with hs | ⟨c, hc, hs⟩
  · rw [hs, if_pos m1_neg, if_neg (by decide)]
  · have e0 : ¬ nI c < 0 := nI_n0 (by omega)
    rw [hs, if_neg e0, if_pos (nI_p0 (by omega)), cki hc (by decide), cln (by omega)]
    rcases h.sit hc with ht | ⟨q, hq, ht⟩
    · rw [ht, if_pos m1_neg, if_pos m1_neg]
    · have e1 : ¬ nI q < 0 := nI_n0 (by omega)
      rw [ht, if_neg e1, if_neg e1, cln (by omega)]
      by_cases hqp : nI q = nI p
      · rw [if_pos hqp, if_pos hqp]
      · rw [if_neg hqp, if_neg hqp, X0_howWell_eq h (by omega) hc, bds, X0_howWell_eq h (by omega) hc, bds, X0_givesUp_eq R (by omega), bds, X0_swap_eq h hp hq, bds]
        by_cases z : HW R q c + GU R q ≤ HW R p c
        · rw [if_pos z, if_pos z]
        · rw [if_neg z, if_neg z]
/-- one does what it would -/
def mvS (R : StT) (p : Nat) : Int32 × StT := if (mtS R p).1 = 0 then tcS R p else mtS R p
/-- nothing of the reference but its row changes -/
def Fr (M M2 : StT) : Prop := (∀ k, k ≠ 0 → M2.1 k = M.1 k) ∧ M2.2 = M.2
theorem Fr.rf (M : StT) : Fr M M := ⟨fun _ _ => rfl, rfl⟩
theorem Fr.tr {A B C : StT} (h : Fr A B) (h2 : Fr B C) : Fr A C := ⟨fun k a => (h2.1 k a).trans (h.1 k a), h2.2.trans h.2⟩
theorem Fr.set (M : StT) (f : Nat → Int32) : Fr M (setA M 0 f) := ⟨fun _ h => setA_o M f h, rfl⟩
theorem mt_0 {R : StT} {p : Nat} (h : (mtS R p).1 = 0) : mtS R p = (0, R) := by
  unfold mtS at h ⊢
  by_cases h1 : (beS R p 8).1 = -1
  · rw [if_pos h1]
  · rw [if_neg h1] at h ⊢
    by_cases h2 : R.1 8 p < 0
    · rw [if_pos h2] at h; exact absurd h i1n
    · rw [if_neg h2] at h ⊢
      by_cases h3 : HW R p (R.1 8 p).toNatClampNeg < (beS R p 8).2
      · rw [if_pos h3] at h; exact absurd h i1n
      · rw [if_neg h3]
theorem RI.mt {n : Nat} {R : StT} (h : RI n R) {p : Nat} (hp : p < n) : RI n (mtS R p).2 := by
  unfold mtS
  by_cases h1 : (beS R p 8).1 = -1
  · rw [if_pos h1]; exact h
  · rw [if_neg h1]
    have se : ∃ d, d < 8 ∧ (beS R p 8).1 = nI d ∧ R.1 2 d = -1 := by
      rcases be_inv R p 8 with z | ⟨d, hd, z, zz⟩
      · exact absurd (by rw [z]) h1
      · exact ⟨d, hd, by rw [z], zz⟩
    obtain ⟨d, hd, ed, zz⟩ := se
    have s : RI n (seS R p (beS R p 8).1) := by rw [ed]; exact h.seat hp hd (Or.inl zz)
    by_cases h2 : R.1 8 p < 0
    · rw [if_pos h2]; exact s
    · rw [if_neg h2]
      by_cases h3 : HW R p (R.1 8 p).toNatClampNeg < (beS R p 8).2
      · rw [if_pos h3]; exact s
      · rw [if_neg h3]; exact h
theorem RI.tc {n : Nat} {R : StT} (h : RI n R) {p : Nat} (hp : p < n) : RI n (tcS R p).2 := by
  have hn := h.1
  unfold tcS
  rcases (h.2.2.2.1 p hp).2.2.1 with hs | ⟨c, hc, hs⟩
  · rw [hs, if_pos m1_neg]; exact h
  · have e0 : ¬ nI c < 0 := nI_n0 (by omega)
    rw [hs, if_neg e0, cln (by omega)]
    rcases h.sit hc with ht | ⟨q, hq, ht⟩
    · rw [ht, if_pos m1_neg]; exact h
    · have e1 : ¬ nI q < 0 := nI_n0 (by omega)
      rw [ht, if_neg e1, cln (by omega)]
      by_cases hqp : nI q = nI p
      · rw [if_pos hqp]; exact h
      · rw [if_neg hqp]
        by_cases z : HW R q c + GU R q ≤ HW R p c
        · rw [if_pos z]; exact h.swap hp hq (fun e => hqp (by rw [e]))
        · rw [if_neg z]; exact h
theorem RI.mv {n : Nat} {R : StT} (h : RI n R) {p : Nat} (hp : p < n) : RI n (mvS R p).2 := by
  unfold mvS
  by_cases z : (mtS R p).1 = 0
  · rw [if_pos z]; exact h.tc hp
  · rw [if_neg z]; exact h.mt hp
theorem X4_moves_eq {n : Nat} {R M : StT} (hI : RI n R) (h : RE n R (M.1 0)) {p : Nat} (hp : p < n) : ∃ M2, f_X4_moves M (nI p) = some ((mvS R p).1, M2) ∧ RE n (mvS R p).2 (M2.1 0) ∧ Fr M M2 := by
  have hn := hI.1
  have e5 : f_X4_spotOf (nI p) 5 = some (nI (18 + 6 * p + 5)) := by rw [li 5, spotOf_eq]
  have b38 : ∀ x, f_X4_moves_b38 (nI p) x M = some (1, setA M 0 (upd (M.1 0) (18 + 6 * p + 5) x)) := by
    intro x
    unfold f_X4_moves_b38
    simp only [e5, bds, nm, cki (show 18 + 6 * p + 5 < 66 by omega) (by decide : 66 < 2147483648), cln (show 18 + 6 * p + 5 < 2147483648 by omega)]
  have b51 : ∃ M2, f_X4_moves_b51 (nI p) M = some ((tcS R p).1, M2) ∧ RE n (tcS R p).2 (M2.1 0) ∧ Fr M M2 := by
    unfold f_X4_moves_b51 tcS
    rw [X4_its2 h hn hp, bds]
    rcases (hI.2.2.2.1 p hp).2.2.1 with hs | ⟨c, hc, hs⟩
    · rw [hs, if_pos m1_neg, if_pos rfl]
      refine ⟨M, ?_, h, Fr.rf M⟩
      unfold f_X4_moves_b75
      rw [if_pos rfl]
    · have e0 : ¬ nI c < 0 := nI_n0 (by omega)
      have em : ¬ nI c = -1 := nI_m1 (by omega)
      rw [hs, if_neg e0, if_neg em, cln (by omega), X4_whoIn_eq hI h hc, bds]
      unfold f_X4_moves_b75
      rcases hI.sit hc with ht | ⟨q, hq, ht⟩
      · rw [ht, if_pos m1_neg, if_pos rfl]
        exact ⟨M, rfl, h, Fr.rf M⟩
      · have e1 : ¬ nI q < 0 := nI_n0 (by omega)
        have em1 : ¬ nI q = -1 := nI_m1 (by omega)
        rw [ht, if_neg e1, if_neg em1, cln (by omega)]
        by_cases hqp : nI q = nI p
        · rw [if_pos hqp, if_pos hqp]
          exact ⟨M, rfl, h, Fr.rf M⟩
        · rw [if_neg hqp, if_neg hqp, X4_sits_eq hI h hp hc, bds, X4_sits_eq hI h hq hc, bds, X4_givesUp_eq h hn hq, bds, X4_changes_eq h hn hp hq, bds]
          have key := cl_iff (HW_b hI hp hc) (HW_b hI hq hc) (GU_b hI hq)
          by_cases z : HW R q c + GU R q ≤ HW R p c
          · rw [if_pos z, if_pos (key.mp z)]
            refine ⟨_, rfl, ?_, (Fr.set _ _).tr (Fr.set _ _)⟩
            rw [setA_s]
            exact h.swap hn hp hq
          · rw [if_neg z, if_neg (fun y => z (key.mpr y))]
            exact ⟨M, rfl, h, Fr.rf M⟩
  unfold f_X4_moves
  rw [X4_its5 h hn hp, bds, X4_be_eq hI h hp, bds]
  have m0 : mtS R p = (0, R) → mvS R p = tcS R p := fun z => by unfold mvS; rw [z, if_pos rfl]
  have m1 : ∀ X, mtS R p = (1, X) → mvS R p = (1, X) := fun X z => by unfold mvS; rw [z, if_neg i1n]
  by_cases h1 : (beS R p 8).1 = -1
  · rw [if_pos h1, m0 (by unfold mtS; rw [if_pos h1])]
    exact b51
  · rw [if_neg h1]
    have se : ∃ d, d < 8 ∧ beS R p 8 = (nI d, HW R p d) ∧ R.1 2 d = -1 := by
      rcases be_inv R p 8 with z | ⟨d, hd, z, zz⟩
      · exact absurd (by rw [z]) h1
      · exact ⟨d, hd, z, zz⟩
    obtain ⟨d, hd, ed, zz⟩ := se
    have go : ∃ M2, f_X4_moves_b38 (nI p) (beS R p 8).1 M = some ((1 : Int32), M2) ∧ RE n (seS R p (beS R p 8).1) (M2.1 0) ∧ Fr M M2 := by
      refine ⟨_, b38 _, ?_, Fr.set _ _⟩
      rw [setA_s]
      exact h.seat hn hp _
    rcases (hI.2.2.2.1 p hp).2.2.2.2 with hs | ⟨e, he, hs⟩
    · rw [if_pos hs, m1 (seS R p (beS R p 8).1) (by unfold mtS; rw [if_neg h1, if_pos (by rw [hs]; exact m1_neg)])]
      exact go
    · have em : ¬ R.1 8 p = -1 := by rw [hs]; exact nI_m1 (by omega)
      have e0 : ¬ R.1 8 p < 0 := by rw [hs]; exact nI_n0 (by omega)
      have ecl : (R.1 8 p).toNatClampNeg = e := by rw [hs]; exact cln (by omega)
      have s1 : f_X4_sits M (nI p) (beS R p 8).1 = some (beS R p 8).2 := by rw [ed]; exact X4_sits_eq hI h hp hd
      have s2 : f_X4_sits M (nI p) (R.1 8 p) = some (HW R p e) := by rw [hs]; exact X4_sits_eq hI h hp he
      rw [if_neg em, s1, bds, s2, bds]
      by_cases z : (beS R p 8).2 ≤ HW R p e
      · rw [if_pos z, m0 (by unfold mtS; rw [if_neg h1, if_neg e0, ecl, if_neg (by rw [ilt]; rw [ile] at z; omega)])]
        exact b51
      · rw [if_neg z, m1 (seS R p (beS R p 8).1) (by unfold mtS; rw [if_neg h1, if_neg e0, ecl, if_pos (by rw [ilt]; rw [ile] at z; omega)])]
        exact go
