-- best: both
def pc (m : Nat) : Nat := (m.testBit 0).toNat + (m.testBit 1).toNat + (m.testBit 2).toNat + (m.testBit 3).toNat + (m.testBit 4).toNat + (m.testBit 5).toNat + (m.testBit 6).toNat + (m.testBit 7).toNat
theorem pc_ones : ∀ m, m < 256 → f_X4_ones (nI m) = some (nI (pc m)) := by decide +kernel
theorem pc_up : ∀ m, m < 256 → ∀ q, q < 8 → m.testBit q = false → pc (m ||| 2 ^ q) = pc m + 1 := by decide +kernel
theorem tg_b {n : Nat} {R : StT} (h : RI n R) {B : Int} (hB : B ≤ 1000000) : ∀ (k i : Nat) (x : Int32), i + k = n → -B + 42 * (k : Int) ≤ x.toInt → x.toInt ≤ B - 58 * (k : Int) → x.toInt - 42 * (k : Int) ≤ (tgS R k i x).toInt := by
  have hn := h.1
  intro k
  induction k with
  | zero =>
    intro i x _ h1 h2
    show x.toInt - 42 * ((0 : Nat) : Int) ≤ x.toInt
    omega
  | succ k ih =>
    intro i x hi h1 h2
    show x.toInt - 42 * ((k + 1 : Nat) : Int) ≤ (tgS R k (i + 1) (if R.1 8 i < 0 then x else x + HW R i (R.1 8 i).toNatClampNeg)).toInt
    rcases (h.2.2.2.1 i (by omega)).2.2.2.2 with hs | ⟨c, hc, hs⟩
    · rw [hs, if_pos m1_neg]
      have ih := ih (i + 1) x (by omega) (by omega) (by omega)
      omega
    · rw [hs, if_neg (nI_n0 (by omega)), cln (by omega)]
      have b := HW_b h (show i < n by omega) hc
      unfold Bd at b
      have ta : (x + HW R i c).toInt = x.toInt + (HW R i c).toInt := tadd (by omega) (by omega)
      have ih := ih (i + 1) (x + HW R i c) (by omega) (by omega) (by omega)
      omega
theorem VR.low {n : Nat} {R0 : StT} {u : Nat → Int32} {v : Int32} (h : VR n R0 u v) : ¬ v ≤ -10000 := by
  obtain ⟨R, ⟨i, -⟩, e⟩ := h
  have hn := i.1
  have q0 : (0 : Int32).toInt = 0 := rfl
  have b := tg_b i (B := 1000) (by decide) n 0 0 (by omega) (by rw [q0]; omega) (by rw [q0]; omega)
  rw [e, q0] at b
  rw [ile]
  have q : (-10000 : Int32).toInt = -10000 := by decide
  rw [q]
  omega
theorem rwU_self {n : Nat} {R : StT} {s : Nat → Int32} (e : RE n R s) (j : Nat) : rwU n s (R.1 8) j = s j := by
  unfold rwU
  by_cases y : 18 ≤ j ∧ j < 18 + 6 * n ∧ (j - 18) % 6 = 5
  · rw [if_pos y]
    have h := e.w (p := (j - 18) / 6) (w := 5) (by omega) (by decide)
    rw [← h]
    exact congrArg s (by omega)
  · rw [if_neg y]
/-- who sits, collected -/
def JB (G : Nat → StT) (i mask m : Nat) (P : Nat → Nat) (G1 : Nat → StT) : Prop :=
  mask < 256 ∧ (∀ x, x < 8 → (mask.testBit x = true ↔ x < i ∧ (G 1).1 8 x ≠ -1)) ∧ pc mask = m ∧ m ≤ i ∧ (∀ j, j < m → P j < i) ∧ (∀ a b, a < m → b < m → P a = P b → a = b) ∧ (∀ x, x < i → (G 1).1 8 x ≠ -1 → ∃ j, j < m ∧ x = P j) ∧ (∀ j, j < m → (G 1).1 8 (P j) ≠ -1) ∧ (∀ j, j < m → (G1 0).1 1 j = nI (P j)) ∧ (∀ q, q ≠ 0 → G1 q = G q) ∧ (G1 0).1 0 = (G 0).1 0 ∧ (G1 0).2 = (G 0).2
theorem best_l {G : Nat → StT} {M : StT} {n : Nat} (h : RI n (G 1)) (e : RE n (G 1) (M.1 0)) : ∀ (r i f1 f2 mask m : Nat) (P : Nat → Nat) (G1 : Nat → StT), JB G i mask m P G1 → i + r = n → r < f1 → r < f2 → ∃ f3 mask2 m2 P2 G2, f_X4_sitting_l4 M f2 (nI mask) (nI i) = some (nI mask2) ∧ f_X3_best_l4 f1 (nI m) (nI i) G1 = f_X3_best_l4 (f3 + 1) (nI m2) (nI n) G2 ∧ JB G n mask2 m2 P2 G2 := by
  have hn := h.1
  intro r
  induction r with
  | zero =>
    intro i f1 f2 mask m P G1 jb hi hf1 hf2
    obtain ⟨f1, rfl⟩ : ∃ z, f1 = z + 1 := ⟨f1 - 1, by omega⟩
    obtain ⟨f2, rfl⟩ : ∃ z, f2 = z + 1 := ⟨f2 - 1, by omega⟩
    have e2 : i = n := by omega
    subst e2
    refine ⟨f1, mask, m, P, G1, ?_, rfl, jb⟩
    rw [f_X4_sitting_l4, ck0, cl0, e.1, if_pos ((nI_lei (by omega) (by omega)).mpr (Nat.le_refl i))]
  | succ r ih =>
    intro i f1 f2 mask m P G1 jb hi hf1 hf2
    obtain ⟨f1, rfl⟩ : ∃ z, f1 = z + 1 := ⟨f1 - 1, by omega⟩
    obtain ⟨f2, rfl⟩ : ∃ z, f2 = z + 1 := ⟨f2 - 1, by omega⟩
    have nl : ¬ nI n ≤ nI i := fun q => by have := (nI_lei (by omega) (by omega)).mp q; omega
    obtain ⟨b1, b2, b3, b4, b5, b6, b7, b8, b9, b10, b11, b12⟩ := id jb
    have g1 : G1 1 = G 1 := b10 1 (by decide)
    rw [f_X4_sitting_l4, ck0, cl0, e.1, if_neg nl, X4_its5 e hn (show i < n by omega), bds, f_X3_best_l4, g1, h.2.1, if_neg nl, cki (show i < 8 by omega) (by decide), cki (show m < 8 by omega) (by decide), cln (show i < 2147483648 by omega), cln (show m < 2147483648 by omega)]
    unfold f_X3_best_b37 f_X4_sitting_b32
    simp only [nm, nI_1, or0]
    rcases (h.2.2.2.1 i (by omega)).2.2.2.2 with hs | ⟨c, hc, hs⟩
    · rw [hs, if_pos m1_neg, if_pos rfl]
      refine ih (i + 1) f1 f2 mask m P G1 ⟨b1, fun x hx => ?_, b3, by omega, fun j hj => by have := b5 j hj; omega, b6, fun x hx q => ?_, b8, b9, b10, b11, b12⟩ (by omega) (by omega) (by omega)
      · rw [b2 x hx]
        constructor
        · rintro ⟨q1, q2⟩; exact ⟨by omega, q2⟩
        · rintro ⟨q1, q2⟩
          have : x ≠ i := fun z => q2 (by rw [z]; exact hs)
          exact ⟨by omega, q2⟩
      · have : x ≠ i := fun z => q (by rw [z]; exact hs)
        exact b7 x (by omega) q
    · have nb : mask.testBit i = false := by
        cases q : mask.testBit i with
        | false => rfl
        | true => exact absurd ((b2 i (by omega)).mp q).1 (Nat.lt_irrefl i)
      obtain ⟨o1, o2⟩ := bor8 mask b1 i (by omega)
      have sit : (G 1).1 8 i ≠ -1 := by rw [hs]; exact nI_m1 (by omega)
      rw [hs, if_neg (nI_n0 (by omega)), if_neg (nI_m1 (by omega)), o1]
      refine ih (i + 1) f1 f2 (mask ||| 2 ^ i) (m + 1) (fun j => if j = m then i else P j) _ ⟨o2, fun x hx => ?_, ?_, by omega, fun j hj => ?_, fun a b ha hb => ?_, fun x hx q => ?_, fun j hj => ?_, fun j hj => ?_, fun q hq => ?_, ?_, ?_⟩ (by omega) (by omega) (by omega)
      · rw [bor_t mask b1 i (by omega) x hx, b2 x hx]
        constructor
        · rintro (⟨q1, q2⟩ | q)
          · exact ⟨by omega, q2⟩
          · rw [q]; exact ⟨by omega, sit⟩
        · rintro ⟨q1, q2⟩
          by_cases z : x = i
          · exact Or.inr z
          · exact Or.inl ⟨by omega, q2⟩
      · rw [pc_up mask b1 i (by omega) nb, b3]
      · by_cases z : j = m
        · simp only [if_pos z]; omega
        · simp only [if_neg z]
          have := b5 j (by omega)
          omega
      · by_cases za : a = m
        · by_cases zb : b = m
          · intro _; rw [za, zb]
          · simp only [if_pos za, if_neg zb]
            intro q
            have := b5 b (by omega)
            omega
        · by_cases zb : b = m
          · simp only [if_neg za, if_pos zb]
            intro q
            have := b5 a (by omega)
            omega
          · simp only [if_neg za, if_neg zb]
            exact b6 a b (by omega) (by omega)
      · by_cases z : x = i
        · exact ⟨m, by omega, by simp only [if_pos]; exact z⟩
        · obtain ⟨j, j1, j2⟩ := b7 x (by omega) q
          exact ⟨j, by omega, by simp only [if_neg (show j ≠ m by omega)]; exact j2⟩
      · by_cases z : j = m
        · simp only [if_pos z]; exact sit
        · simp only [if_neg z]; exact b8 j (by omega)
      · rw [gset_s, setA_s, upd_i]
        by_cases z : j = m
        · simp only [if_pos z]
        · simp only [if_neg z]; exact b9 j (by omega)
      · rw [gset_o _ _ hq]; exact b10 q hq
      · rw [gset_s, setA_o _ _ (by decide)]; exact b11
      · rw [gset_s, setA_2]; exact b12
/-- the chairs that are taken -/
def KB (G : Nat → StT) (M : StT) (i mm : Nat) (C : Nat → Nat) (M1 : StT) : Prop :=
  M1.2.2 1 = nI mm ∧ mm ≤ i ∧ (∀ j, j < mm → C j < i) ∧ (∀ a b, a < mm → b < mm → C a = C b → a = b) ∧ (∀ c, c < i → (G 1).1 2 c ≠ -1 → ∃ j, j < mm ∧ c = C j) ∧ (∀ j, j < mm → (G 1).1 2 (C j) ≠ -1) ∧ (∀ j, j < mm → M1.1 5 j = nI (C j)) ∧ (∀ q, q ≠ 5 → M1.1 q = M.1 q) ∧ M1.2.1 = M.2.1 ∧ ∀ q, q ≠ 1 → M1.2.2 q = M.2.2 q
theorem taken_l {G : Nat → StT} {M : StT} {n : Nat} {x : Int32} (h : RI n (G 1)) (e : RE n (G 1) (M.1 0)) : ∀ (r i f1 mm : Nat) (C : Nat → Nat) (M1 : StT), KB G M i mm C M1 → i + r = 8 → r < f1 → ∃ f3 mm2 C2 M2, f_X4_best_l28 f1 x (nI i) M1 = f_X4_best_l28 (f3 + 1) x (nI 8) M2 ∧ KB G M 8 mm2 C2 M2 := by
  intro r
  induction r with
  | zero =>
    intro i f1 mm C M1 kb hi hf1
    obtain ⟨f1, rfl⟩ : ∃ z, f1 = z + 1 := ⟨f1 - 1, by omega⟩
    have e2 : i = 8 := by omega
    subst e2
    exact ⟨f1, mm, C, M1, rfl, kb⟩
  | succ r ih =>
    intro i f1 mm C M1 kb hi hf1
    obtain ⟨f1, rfl⟩ : ∃ z, f1 = z + 1 := ⟨f1 - 1, by omega⟩
    have nl : ¬ (8 : Int32) ≤ nI i := fun q => by have := (nI_lei (a := 8) (by omega) (by omega)).mp q; omega
    obtain ⟨b1, b2, b3, b4, b5, b6, b7, b8, b9, b10⟩ := id kb
    have e1 : RE n (G 1) (M1.1 0) := by rw [b8 0 (by decide)]; exact e
    rw [f_X4_best_l28, if_neg nl, X4_whoIn_eq h e1 (show i < 8 by omega), bds, b1, cki (show mm < 8 by omega) (by decide), cln (show mm < 2147483648 by omega)]
    unfold f_X4_best_b63
    simp only [nm, nI_1]
    by_cases z : (G 1).1 2 i = -1
    · rw [if_pos z]
      refine ih (i + 1) f1 mm C M1 ⟨b1, by omega, fun j hj => by have := b3 j hj; omega, b4, fun c hc q => ?_, b6, b7, b8, b9, b10⟩ (by omega) (by omega)
      have : c ≠ i := fun y => q (by rw [y]; exact z)
      exact b5 c (by omega) q
    · rw [if_neg z, show (setA M1 5 (upd (M1.1 5) mm (nI i))).2.2 1 = nI mm from b1, nI_1]
      refine ih (i + 1) f1 (mm + 1) (fun j => if j = mm then i else C j) _ ⟨by rw [setF_s], by omega, fun j hj => ?_, fun a b ha hb => ?_, fun c hc q => ?_, fun j hj => ?_, fun j hj => ?_, fun q hq => ?_, b9, fun q hq => ?_⟩ (by omega) (by omega)
      · by_cases y : j = mm
        · simp only [if_pos y]; omega
        · simp only [if_neg y]
          have := b3 j (by omega)
          omega
      · by_cases za : a = mm
        · by_cases zb : b = mm
          · intro _; rw [za, zb]
          · simp only [if_pos za, if_neg zb]
            intro q
            have := b3 b (by omega)
            omega
        · by_cases zb : b = mm
          · simp only [if_neg za, if_pos zb]
            intro q
            have := b3 a (by omega)
            omega
          · simp only [if_neg za, if_neg zb]
            exact b4 a b (by omega) (by omega)
      · by_cases y : c = i
        · exact ⟨mm, by omega, by simp only [if_pos]; exact y⟩
        · obtain ⟨j, j1, j2⟩ := b5 c (by omega) q
          exact ⟨j, by omega, by simp only [if_neg (show j ≠ mm by omega)]; exact j2⟩
      · by_cases y : j = mm
        · simp only [if_pos y]; exact z
        · simp only [if_neg y]; exact b6 j (by omega)
      · rw [setF_1, setA_s, upd_i]
        by_cases y : j = mm
        · simp only [if_pos y]
        · simp only [if_neg y]; exact b7 j (by omega)
      · rw [setF_1, setA_o _ _ hq]; exact b8 q hq
      · rw [setF_o _ _ hq]; exact b10 q hq
