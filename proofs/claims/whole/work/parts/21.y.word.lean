-- the text: which word
def wsC (i j : Nat) : Nat := (sx_c i j).toNatClampNeg
def pf (i : Nat) : Nat → Nat
  | 0 => 0
  | j + 1 => 32 * pf i j + (wsC i j - 96)
def cd (i : Nat) : Nat := pf i (sx_n.getD i 0)
theorem ws_ok : ∀ i, i < 14 → ∀ j, j < sx_n.getD i 0 → sx_c i j = nI (wsC i j) ∧ 97 ≤ wsC i j ∧ wsC i j ≤ 122 := by decide +kernel
theorem pf_ok : ∀ i, i < 14 → ∀ j, j < 8 → pf i j ≤ CAP := by decide +kernel
theorem cd_pos : ∀ i, i < 14 → 0 < cd i ∧ cd i ≤ CAP := by decide +kernel
theorem hw_iff {B : Nat → Nat} {f t len i : Nat} (hl : ∀ j, f ≤ j → j < t → soB B len j = 1) (hi : i < 14) : ∀ (j k : Nat), j ≤ sx_n.getD i 0 → f + k ≤ t → (hwB B f k = pf i j ↔ k = j ∧ ∀ q, q < j → B (f + q) = wsC i q) := by
  have n8 := sx_n8 i hi
  have cc : CAP = 36028797018963967 := rfl
  intro j
  induction j with
  | zero =>
    intro k _ hk
    rw [pf]
    constructor
    · intro q
      refine ⟨?_, fun q h => absurd h (Nat.not_lt_zero q)⟩
      by_cases z : k = 0
      · exact z
      · have := (hwB_b hl k hk).2 z; omega
    · rintro ⟨q, -⟩
      rw [q, hwB]
  | succ j ih =>
    intro k hj hk
    obtain ⟨-, w1, w2⟩ := ws_ok i hi j (by omega)
    have pj := pf_ok i hi (j + 1) (by omega)
    rw [pf] at pj ⊢
    cases k with
    | zero =>
      rw [hwB]
      constructor
      · intro q; omega
      · rintro ⟨q, -⟩; omega
    | succ k =>
      obtain ⟨-, b1, b2⟩ := soB_1 (hl (f + k) (by omega) (by omega))
      have ihk := ih k (by omega) (by omega)
      rw [hwB]
      constructor
      · intro q
        by_cases z : hwB B f k ≤ CAP
        · rw [if_pos z] at q
          obtain ⟨e1, e2⟩ := ihk.mp (by omega)
          refine ⟨by omega, fun x hx => ?_⟩
          by_cases y : x = j
          · have hb : B (f + k) = wsC i j := by omega
            rw [e1] at hb
            rw [y]; exact hb
          · exact e2 x (by omega)
        · rw [if_neg z] at q; omega
      · rintro ⟨q, h⟩
        have e1 : k = j := by omega
        have e2 := ihk.mpr ⟨e1, fun x hx => h x (by omega)⟩
        rw [if_pos (by rw [e2]; exact pf_ok i hi j (by omega)), e2, e1, h j (by omega)]
theorem X2_isWord_l {T M : StT} {len f i : Nat} {B : Nat → Nat} (h : BT T M len B) (e3 : T.2.2 3 = nI f) (hi : i < 14) (hf : f + sx_n.getD i 0 ≤ len) : ∀ (r j fuel : Nat), j + r = sx_n.getD i 0 → r < fuel → (∀ q, q < j → B (f + q) = wsC i q) → ∃ b : Int32, f_X2_isWord_l28 i T fuel (nI j) = some b ∧ ((b = 1 ∧ ∀ q, q < sx_n.getD i 0 → B (f + q) = wsC i q) ∨ (b = 0 ∧ ¬ ∀ q, q < sx_n.getD i 0 → B (f + q) = wsC i q)) := by
  have a := h.1
  have n8 := sx_n8 i hi
  intro r
  induction r with
  | zero =>
    intro j fuel hj hf hq
    obtain ⟨fuel, rfl⟩ : ∃ z, fuel = z + 1 := ⟨fuel - 1, by omega⟩
    have e : j = sx_n.getD i 0 := by omega
    refine ⟨1, ?_, Or.inl ⟨rfl, by rw [← e]; exact hq⟩⟩
    rw [f_X2_isWord_l28, ← e, if_pos (show Int32.ofNat j ≤ nI j from (nI_lei (by omega) (by omega)).mpr (Nat.le_refl j))]
  | succ r ih =>
    intro j fuel hj hf2 hq
    obtain ⟨fuel, rfl⟩ : ∃ z, fuel = z + 1 := ⟨fuel - 1, by omega⟩
    obtain ⟨w0, w1, w2⟩ := ws_ok i hi j (by omega)
    obtain ⟨d1, d2, -⟩ := h.2.2.2 (f + j) (by omega)
    have ce : nI (B (f + j)) = nI (wsC i j) ↔ B (f + j) = wsC i j := nI_inj (by omega) (by omega)
    rw [f_X2_isWord_l28, if_neg (show ¬ Int32.ofNat (sx_n.getD i 0) ≤ nI j from fun q => by have := (nI_lei (a := sx_n.getD i 0) (by omega) (by omega)).mp q; omega), e3, nI_add, cki (show f + j < 120 by omega) (by decide), cki (show j < sx_n.getD i 0 by omega) (by omega), cln (by omega), cln (by omega), d2, w0]
    by_cases z : B (f + j) = wsC i j
    · rw [if_pos (ce.mpr z)]
      simp only [nm]
      rw [nI_1]
      refine ih (j + 1) fuel (by omega) (by omega) (fun q hq2 => ?_)
      by_cases y : q = j
      · rw [y]; exact z
      · exact hq q (by omega)
    · rw [if_neg (fun q => z (ce.mp q))]
      exact ⟨0, rfl, Or.inr ⟨rfl, fun q => z (q j (by omega))⟩⟩
theorem X2_isWord_eq {T M : StT} {len f t i : Nat} {B : Nat → Nat} (h : BT T M len B) (k : TK B len T M f t) (hi : i < 14) : f_X2_isWord i T = some (b2i (soB B len f = 1 ∧ hwB B f (t - f) = cd i)) := by
  obtain ⟨k1, k2, k3, k4, k5, k6, k7, k8, k9, k10, k11⟩ := k
  have a := h.1
  have n8 := sx_n8 i hi
  have sl := soB_lt B len f
  unfold f_X2_isWord cks
  rw [if_pos hi, k3, k4, k5]
  have c1 : nI (soB B len f) = 1 ↔ soB B len f = 1 := nI_inj (b := 1) (by omega) (by omega)
  by_cases s1 : soB B len f = 1
  · have hl : ∀ j, f ≤ j → j < t → soB B len j = 1 := fun j h1 h2 => (k9 (Or.inl s1) j h1 h2).trans s1
    have iff := hw_iff hl hi (sx_n.getD i 0) (t - f) (Nat.le_refl _) (by omega)
    rw [if_pos (c1.mpr s1), pk_sub k1]
    have ce : nI (t - f) = Int32.ofNat (sx_n.getD i 0) ↔ t - f = sx_n.getD i 0 := nI_inj (by omega) (by omega)
    by_cases z : t - f = sx_n.getD i 0
    · rw [if_pos (ce.mpr z)]
      obtain ⟨b, hb, hb2⟩ := X2_isWord_l h k4 hi (by omega) (sx_n.getD i 0) 0 200 (by omega) (by omega) (fun q hq => absurd hq (Nat.not_lt_zero q))
      have hb : f_X2_isWord_l28 i T 200 0 = some b := hb
      rw [hb]
      rcases hb2 with ⟨e1, e2⟩ | ⟨e1, e2⟩
      · rw [e1, b2i_1 ⟨s1, iff.mpr ⟨z, e2⟩⟩]
      · rw [e1, b2i_0 (fun q => e2 (iff.mp q.2).2)]
    · rw [if_neg (fun q => z (ce.mp q)), b2i_0 (fun q => z (iff.mp q.2).1)]
  · rw [if_neg (fun q => s1 (c1.mp q)), b2i_0 (fun q => s1 q.1)]
