-- numbers: small ones as nI, checks, reads
theorem cki {α : Type} {p n : Nat} {A : Option α} (h : p < n) (hn : n < 2147483648) : ck (nI p) n A = A := ck_in (vp_in_nI h hn)
theorem cln {p : Nat} (h : p < 2147483648) : (nI p).toNatClampNeg = p := nI_clamp h
theorem bds {α β : Type} (a : α) (f : α → Option β) : Option.bind (some a) f = f a := rfl
theorem li (n : Nat) : (OfNat.ofNat n : Int32) = nI n := rfl
theorem tI {n : Nat} (h : n < 2147483648) : (nI n).toInt = (n : Int) := nI_toInt h
theorem ilt (a b : Int32) : a < b ↔ a.toInt < b.toInt := Int32.lt_iff_toInt_lt
theorem ile (a b : Int32) : a ≤ b ↔ a.toInt ≤ b.toInt := Int32.le_iff_toInt_le
theorem ieq (a b : Int32) : a = b ↔ a.toInt = b.toInt := Int32.toInt_inj.symm
theorem llt (a b : Int64) : a < b ↔ a.toInt < b.toInt := Int64.lt_iff_toInt_lt
theorem lle (a b : Int64) : a ≤ b ↔ a.toInt ≤ b.toInt := Int64.le_iff_toInt_le
theorem leq (a b : Int64) : a = b ↔ a.toInt = b.toInt := Int64.toInt_inj.symm
theorem nI_m1 {p : Nat} (h : p < 2147483648) : ¬ nI p = -1 := by
  rw [ieq, tI h]
  show ¬ (p : Int) = -1
  omega
theorem nI_n0 {p : Nat} (h : p < 2147483648) : ¬ nI p < 0 := by
  rw [ilt, tI h]
  show ¬ (p : Int) < 0
  omega
theorem nI_p0 {p : Nat} (h : p < 2147483648) : 0 ≤ nI p := by
  rw [ile, tI h]
  show (0 : Int) ≤ (p : Int)
  omega
theorem nI_inj {a b : Nat} (ha : a < 2147483648) (hb : b < 2147483648) : nI a = nI b ↔ a = b := by
  rw [ieq, tI ha, tI hb]; omega
theorem nI_lti {a b : Nat} (ha : a < 2147483648) (hb : b < 2147483648) : nI a < nI b ↔ a < b := by
  rw [ilt, tI ha, tI hb]; omega
theorem nI_lei {a b : Nat} (ha : a < 2147483648) (hb : b < 2147483648) : nI a ≤ nI b ↔ a ≤ b := by
  rw [ile, tI ha, tI hb]; omega
/-- an int within bounds is a small number -/
theorem of_rng {x : Int32} {n : Nat} (h0 : 0 ≤ x) (h1 : x ≤ nI n) (hn : n < 2147483648) : ∃ j, j ≤ n ∧ x = nI j := by
  rw [ile] at h0 h1
  rw [tI hn] at h1
  have e0 : (0 : Int32).toInt = 0 := rfl
  rw [e0] at h0
  refine ⟨x.toInt.toNat, by omega, ?_⟩
  rw [ieq, tI (by omega)]
  omega
def b2i (c : Prop) [Decidable c] : Int32 := if c then 1 else 0
theorem b2i_1 {c : Prop} [Decidable c] (h : c) : b2i c = 1 := if_pos h
theorem b2i_0 {c : Prop} [Decidable c] (h : ¬ c) : b2i c = 0 := if_neg h
theorem ckb_b2i {α : Type} {c : Prop} [Decidable c] {A : Option α} : ckb (b2i c) A = A := by
  unfold ckb b2i
  by_cases h : c <;> simp [h]
theorem isWithin_eq (v a b : Int32) : f_X3_isWithin v a b = some (b2i (a ≤ v ∧ v ≤ b)) := by
  unfold f_X3_isWithin b2i
  by_cases h1 : v < a
  · have h2 : ¬ a ≤ v := by rw [ilt] at h1; rw [ile]; omega
    simp [h1, h2]
  · have h2 : a ≤ v := by rw [ilt] at h1; rw [ile]; omega
    by_cases h3 : b < v
    · have h4 : ¬ v ≤ b := by rw [ilt] at h3; rw [ile]; omega
      simp [h1, h3, h4]
    · have h4 : v ≤ b := by rw [ilt] at h3; rw [ile]; omega
      simp [h1, h2, h3, h4]
theorem X3_isChair_eq (c : Int32) : f_X3_isChair c = some (b2i (0 ≤ c ∧ c ≤ 7)) := by
  unfold f_X3_isChair
  rw [isWithin_eq, bds, ckb_b2i]
theorem X3_isKind_eq (c : Int32) : f_X3_isKind c = some (b2i (0 ≤ c ∧ c ≤ 5)) := by
  unfold f_X3_isKind
  rw [isWithin_eq, bds, ckb_b2i]
theorem X3_isSheet_eq (c : Int32) : f_X3_isSheet c = some (b2i (0 ≤ c ∧ c ≤ 3)) := by
  unfold f_X3_isSheet
  rw [isWithin_eq, bds, ckb_b2i]
theorem lgc_neg (x y : Int64) : lg_cmp x y < 0 ↔ x < y := by
  unfold lg_cmp
  rw [llt]
  by_cases h : x > y
  · have h' := (llt y x).mp h
    simp only [h, if_true]
    constructor
    · intro q; exact absurd q (by decide)
    · intro q; omega
  · have h' : ¬ y.toInt < x.toInt := fun q => h ((llt y x).mpr q)
    simp only [h, if_false]
    by_cases h2 : x = y
    · subst h2
      simp only [if_true]
      constructor
      · intro q; exact absurd q (by decide)
      · intro q; omega
    · have h3 : ¬ x.toInt = y.toInt := fun q => h2 ((leq x y).mpr q)
      simp only [h2, if_false]
      constructor
      · intro _; omega
      · intro _; decide
theorem lgc_pos (x y : Int64) : 0 < lg_cmp x y ↔ y < x := by
  unfold lg_cmp
  by_cases h : x > y
  · rw [if_pos h]
    exact ⟨fun _ => h, fun _ => by decide⟩
  · rw [if_neg h]
    by_cases h2 : x = y
    · rw [if_pos h2]
      exact ⟨fun q => absurd q (by decide), fun q => absurd q h⟩
    · rw [if_neg h2]
      exact ⟨fun q => absurd q (by decide), fun q => absurd q h⟩
theorem X4_in_eq (v a b : Int64) : f_X4_in v a b = some (b2i (a ≤ v ∧ v ≤ b)) := by
  unfold f_X4_in b2i
  by_cases h1 : v < a
  · have h2 : ¬ a ≤ v := by rw [llt] at h1; rw [lle]; omega
    simp [lgc_neg, h1, h2]
  · have h2 : a ≤ v := by rw [llt] at h1; rw [lle]; omega
    by_cases h3 : b < v
    · have h4 : ¬ v ≤ b := by rw [llt] at h3; rw [lle]; omega
      simp [lgc_neg, lgc_pos, h1, h3, h4]
    · have h4 : v ≤ b := by rw [llt] at h3; rw [lle]; omega
      simp [lgc_neg, lgc_pos, h1, h2, h3, h4]
theorem b2i_congr {c d : Prop} [Decidable c] [Decidable d] (h : c ↔ d) : b2i c = b2i d := by
  unfold b2i
  by_cases hc : c
  · rw [if_pos hc, if_pos (h.mp hc)]
  · rw [if_neg hc, if_neg (fun q => hc (h.mpr q))]
theorem w64 (a b : Int32) : a.toInt64 ≤ b.toInt64 ↔ a ≤ b := by rw [lle, ile, Int32.toInt_toInt64, Int32.toInt_toInt64]
/-- in(v, a, b) of ints -/
theorem X4_inI (v a b : Int32) : f_X4_in v.toInt64 a.toInt64 b.toInt64 = some (b2i (a ≤ v ∧ v ≤ b)) := by
  rw [X4_in_eq]
  exact congrArg some (b2i_congr (by rw [w64, w64]))
theorem X4_isChair_eq (c : Int32) : f_X4_isChair c = some (b2i (0 ≤ c ∧ c ≤ 7)) := by
  unfold f_X4_isChair
  have h : f_X4_in c.toInt64 (0 : Int64) (7 : Int64) = some (b2i (0 ≤ c ∧ c ≤ 7)) := X4_inI c 0 7
  rw [h, bds, ckb_b2i]
theorem X4_isKind_eq (c : Int32) : f_X4_isKind c = some (b2i (0 ≤ c ∧ c ≤ 5)) := by
  unfold f_X4_isKind
  have h : f_X4_in c.toInt64 (0 : Int64) (5 : Int64) = some (b2i (0 ≤ c ∧ c ≤ 5)) := X4_inI c 0 5
  rw [h, bds, ckb_b2i]
theorem X4_isSoon_eq (c : Int32) : f_X4_isSoon c = some (b2i (0 ≤ c ∧ c ≤ 30)) := by
  unfold f_X4_isSoon
  have h : f_X4_in c.toInt64 (0 : Int64) (30 : Int64) = some (b2i (0 ≤ c ∧ c ≤ 30)) := X4_inI c 0 30
  rw [h, bds, ckb_b2i]
theorem X4_isOne_eq (c : Int32) : f_X4_isOne c = some (b2i (0 ≤ c ∧ c ≤ 3)) := by
  unfold f_X4_isOne
  have h : f_X4_in c.toInt64 (0 : Int64) (3 : Int64) = some (b2i (0 ≤ c ∧ c ≤ 3)) := X4_inI c 0 3
  rw [h, bds, ckb_b2i]
theorem chairAt_eq (c w : Nat) : f_X4_chairAt (nI c) (nI w) = some (nI (2 + 2 * c + w)) := by
  unfold f_X4_chairAt
  rw [li 2, pk_mul, nI_add, nI_add]
theorem spotOf_eq (p w : Nat) : f_X4_spotOf (nI p) (nI w) = some (nI (18 + 6 * p + w)) := by
  unfold f_X4_spotOf
  rw [li 18, li 6, pk_mul, nI_add, nI_add]
theorem its_eq (M : StT) {p w : Nat} (hp : p < 8) (hw : w < 6) : f_X4_its M (nI p) (nI w) = some (M.1 0 (18 + 6 * p + w)) := by
  unfold f_X4_its
  rw [spotOf_eq, bds, cki (by omega) (by decide), cln (by omega)]
