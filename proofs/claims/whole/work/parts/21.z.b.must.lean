-- the text: must, numbers
theorem bsm {α : Type} (a : Option α) : (Option.bind a fun z => some z) = a := by cases a <;> rfl
theorem ckb1 {α : Type} (A : Option α) : ckb 1 A = A := by unfold ckb; rw [if_pos (Or.inr rfl)]
theorem ckb0 {α : Type} (A : Option α) : ckb 0 A = A := by unfold ckb; rw [if_pos (Or.inl rfl)]
theorem must_1 {M : StT} (h : M.2.2 7 = 0) : f_X4_must M 1 = f_X4_token M := by
  unfold f_X4_must f_X4_must_b17
  rw [if_pos h, if_neg i1n, ckb0]
  simp only [nm]
  rw [setF_id h, if_pos h, bsm]
theorem must_0 {M : StT} (h : M.2.2 7 = 0) : f_X4_must M 0 = some (setF M 7 1) := by
  unfold f_X4_must f_X4_must_b12 f_X4_must_b17
  rw [if_pos h, if_pos rfl, ckb1]
  simp only [nm]
  rw [setF_s, if_neg i1n]
theorem must_w {M : StT} (h : M.2.2 7 = 1) (b : Int32) : f_X4_must M b = some M := by
  unfold f_X4_must f_X4_must_b12 f_X4_must_b17
  rw [h, if_neg i1n, ckb1]
  simp only [nm]
  rw [setF_s, if_neg i1n, setF_id h]
theorem num_l {T M : StT} {len f t : Nat} {B : Nat → Nat} (h : BT T M len B) (e5 : M.2.2 5 = nI t) (ht : t ≤ len) (hl : ∀ j, f ≤ j → j < t → soB B len j = 2) (lo hi : Int32) : ∀ (r k fuel y : Nat), f + k + r = t → r < fuel → y ≤ 9999 → (nvB B f k ≤ 999 → y = nvB B f k) → (1000 ≤ nvB B f k → 1000 ≤ y) → ∃ y2, f_X4_number_l29 fuel lo hi 1 (nI y) (nI (f + k)) M = f_X4_number_b79 lo hi 1 (nI y2) M ∧ y2 ≤ 9999 ∧ (nvB B f (t - f) ≤ 999 → y2 = nvB B f (t - f)) ∧ (1000 ≤ nvB B f (t - f) → 1000 ≤ y2) := by
  have a := h.1
  intro r
  induction r with
  | zero =>
    intro k fuel y hk hf h1 h2 h3
    obtain ⟨fuel, rfl⟩ : ∃ z, fuel = z + 1 := ⟨fuel - 1, by omega⟩
    refine ⟨y, ?_, h1, ?_, ?_⟩
    · rw [f_X4_number_l29, e5, if_pos ((nI_lei (by omega) (by omega)).mpr (by omega))]
    · rw [show t - f = k by omega]; exact h2
    · rw [show t - f = k by omega]; exact h3
  | succ r ih =>
    intro k fuel y hk hf h1 h2 h3
    obtain ⟨fuel, rfl⟩ : ∃ z, fuel = z + 1 := ⟨fuel - 1, by omega⟩
    obtain ⟨b0, b1, b2⟩ := soB_2 (hl (f + k) (by omega) (by omega))
    have c9 : nI y ≤ 999 ↔ y ≤ 999 := nI_lei (b := 999) (by omega) (by omega)
    have nv : nvB B f (k + 1) = 10 * nvB B f k + (B (f + k) - 48) := rfl
    unfold f_X4_number_l29 f_X4_number_b71
    rw [e5, if_neg (fun q => by have := (nI_lei (by omega) (by omega)).mp q; omega), if_neg i1n, cki (show f + k < 120 by omega) (by decide), cln (by omega), (h.2.2.2 (f + k) b0).2.2]
    simp only [nm, nI_1]
    by_cases z : y ≤ 999
    · have ex : (10 : Int32) * nI y + nI (B (f + k)) - 48 = nI (10 * y + (B (f + k) - 48)) := by
        rw [li 10, li 48, pk_mul, nI_add, pk_sub (by omega)]
        exact congrArg nI (by omega)
      rw [if_pos (c9.mpr z), ex]
      exact ih (k + 1) fuel _ (by omega) (by omega) (by omega) (fun q => by have := h2 (by omega); omega) (fun q => by
        by_cases w : nvB B f k ≤ 999
        · have := h2 w; omega
        · have := h3 (by omega); omega)
    · rw [if_neg (fun q => z (c9.mp q))]
      exact ih (k + 1) fuel y (by omega) (by omega) h1 (fun q => by have := h2 (by omega); omega) (fun q => by omega)
theorem peek_l {T M : StT} {len f t : Nat} {B : Nat → Nat} (h : BT T M len B) (e5 : M.2.2 5 = nI t) (ht : t ≤ len) (hl : ∀ j, f ≤ j → j < t → soB B len j = 2) : ∀ (r k fuel y : Nat), f + k + r = t → r < fuel → y ≤ 1000 → (nvB B f k ≤ 99 → y = nvB B f k) → (100 ≤ nvB B f k → 100 ≤ y) → ∃ y2, f_X4_peeked_l30 M fuel (nI y) (nI (f + k)) = some (nI y2) ∧ y2 ≤ 1000 ∧ (nvB B f (t - f) ≤ 99 → y2 = nvB B f (t - f)) ∧ (100 ≤ nvB B f (t - f) → 100 ≤ y2) := by
  have a := h.1
  intro r
  induction r with
  | zero =>
    intro k fuel y hk hf h1 h2 h3
    obtain ⟨fuel, rfl⟩ : ∃ z, fuel = z + 1 := ⟨fuel - 1, by omega⟩
    refine ⟨y, ?_, h1, ?_, ?_⟩
    · rw [f_X4_peeked_l30, e5, if_pos ((nI_lei (by omega) (by omega)).mpr (by omega))]
    · rw [show t - f = k by omega]; exact h2
    · rw [show t - f = k by omega]; exact h3
  | succ r ih =>
    intro k fuel y hk hf h1 h2 h3
    obtain ⟨fuel, rfl⟩ : ∃ z, fuel = z + 1 := ⟨fuel - 1, by omega⟩
    obtain ⟨b0, b1, b2⟩ := soB_2 (hl (f + k) (by omega) (by omega))
    have c9 : nI y ≤ 99 ↔ y ≤ 99 := nI_lei (b := 99) (by omega) (by omega)
    have nv : nvB B f (k + 1) = 10 * nvB B f k + (B (f + k) - 48) := rfl
    unfold f_X4_peeked_l30 f_X4_peeked_b64
    rw [e5, if_neg (fun q => by have := (nI_lei (by omega) (by omega)).mp q; omega), cki (show f + k < 120 by omega) (by decide), cln (by omega), (h.2.2.2 (f + k) b0).2.2]
    simp only [nm, nI_1]
    by_cases z : y ≤ 99
    · have ex : (10 : Int32) * nI y + nI (B (f + k)) - 48 = nI (10 * y + (B (f + k) - 48)) := by
        rw [li 10, li 48, pk_mul, nI_add, pk_sub (by omega)]
        exact congrArg nI (by omega)
      rw [if_pos (c9.mpr z), ex]
      exact ih (k + 1) fuel _ (by omega) (by omega) (by omega) (fun q => by have := h2 (by omega); omega) (fun q => by
        by_cases w : nvB B f k ≤ 99
        · have := h2 w; omega
        · have := h3 (by omega); omega)
    · rw [if_neg (fun q => z (c9.mp q))]
      exact ih (k + 1) fuel 1000 (by omega) (by omega) (by omega) (fun q => by have := h2 (by omega); omega) (fun q => by omega)
