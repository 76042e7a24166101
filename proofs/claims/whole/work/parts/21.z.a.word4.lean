-- the text: the reference's word
theorem X4_word_0 {T M : StT} {len f t : Nat} {B : Nat → Nat} (h : BT T M len B) (e4 : M.2.2 4 = nI f) (e5 : M.2.2 5 = nI t) (ht : t ≤ len) (hft : f ≤ t) (e7 : ¬ M.2.2 7 = 0 ∨ ¬ soB B len f = 1) : ∀ (r k fuel : Nat) (x : Int64), k + r = t → r < fuel → f_X4_word_l7 M fuel x (nI k) = some 0 := by
  have a := h.1
  intro r
  induction r with
  | zero =>
    intro k fuel x hk hf
    obtain ⟨fuel, rfl⟩ : ∃ z, fuel = z + 1 := ⟨fuel - 1, by omega⟩
    rw [f_X4_word_l7, e5, e4, if_pos ((nI_lei (by omega) (by omega)).mpr (by omega)), X4_byte_eq h (show f ≤ 120 by omega), bds, X4_letter_eq h, bds]
    by_cases z : M.2.2 7 = 0
    · rw [if_pos z, b2i_0 (e7.resolve_left (fun q => q z)), if_pos rfl]
    · rw [if_neg z]
  | succ r ih =>
    intro k fuel x hk hf
    obtain ⟨fuel, rfl⟩ : ∃ z, fuel = z + 1 := ⟨fuel - 1, by omega⟩
    unfold f_X4_word_l7 f_X4_word_b43
    rw [e5, if_neg (fun q => by have := (nI_lei (by omega) (by omega)).mp q; omega), cki (show k < 120 by omega) (by decide)]
    simp only [nm, nI_1]
    split
    · exact ih (k + 1) fuel _ (by omega) (by omega)
    · exact ih (k + 1) fuel _ (by omega) (by omega)
theorem X4_word_eq {T M : StT} {len f t : Nat} {B : Nat → Nat} (h : BT T M len B) (k : TK B len T M f t) (e7 : M.2.2 7 = 0) : f_X4_word M = some (nL (if soB B len f = 1 then hwB B f (t - f) else 0)) := by
  obtain ⟨k1, k2, k3, k4, k5, k6, k7, k8, k9, k10, k11⟩ := k
  have a := h.1
  unfold f_X4_word
  simp only [nm]
  rw [k7]
  by_cases s1 : soB B len f = 1
  · rw [if_pos s1]
    have l := X4_word_l h k7 k8 e7 k2 (fun j h1 h2 => (k9 (Or.inl s1) j h1 h2).trans s1) s1 (t - f) 0 200 (by omega) (by omega)
    rw [Nat.zero_add] at l
    exact l
  · rw [if_neg s1]
    exact X4_word_0 h k7 k8 k2 k1 (Or.inr s1) (t - f) f 200 0 (by omega) (by omega)
theorem X4_word_w {T M : StT} {len f t : Nat} {B : Nat → Nat} (h : BT T M len B) (e4 : M.2.2 4 = nI f) (e5 : M.2.2 5 = nI t) (ht : t ≤ len) (hft : f ≤ t) (e7 : ¬ M.2.2 7 = 0) : f_X4_word M = some 0 := by
  have a := h.1
  unfold f_X4_word
  simp only [nm]
  rw [e4]
  exact X4_word_0 h e4 e5 ht hft (Or.inl e7) (t - f) f 200 0 (by omega) (by omega)
theorem wcmp {B : Nat → Nat} {len f t i : Nat} (k2 : t ≤ len) (hf : f ≤ t) (hi : i < 14) (k9 : soB B len f = 1 → ∀ j, f ≤ j → j < t → soB B len j = 1) {c : Int64} (hc : c = nL (cd i)) : lg_cmp (nL (if soB B len f = 1 then hwB B f (t - f) else 0)) c = 0 ↔ soB B len f = 1 ∧ hwB B f (t - f) = cd i := by
  obtain ⟨p1, p2⟩ := cd_pos i hi
  have cc : CAP = 36028797018963967 := rfl
  rw [lgc_z, hc]
  by_cases s1 : soB B len f = 1
  · have b := (hwB_b (k9 s1) (t - f) (by omega)).1
    rw [if_pos s1, nL_inj (by omega) (by omega)]
    exact ⟨fun q => ⟨s1, q⟩, fun q => q.2⟩
  · rw [if_neg s1, nL_inj (by omega) (by omega)]
    exact ⟨fun q => by omega, fun q => absurd q.1 s1⟩
