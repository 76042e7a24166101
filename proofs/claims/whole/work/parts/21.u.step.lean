-- the text: a step
theorem setF_tw (R : StT) (k : Nat) (a b : Int32) : setF (setF R k a) k b = setF R k b := by
  unfold setF
  refine Prod.ext rfl (Prod.ext rfl ?_)
  funext j
  by_cases h : j = k <;> simp [h]
theorem setF_id {R : StT} {k : Nat} {v : Int32} (h : R.2.2 k = v) : setF R k v = R := by
  unfold setF
  refine Prod.ext rfl (Prod.ext rfl ?_)
  funext j
  by_cases z : j = k
  · subst z; simp [h]
  · simp [z]
def skB (B : Nat → Nat) (len : Nat) : Nat → Nat → Nat
  | 0, e => e
  | k + 1, e => if B e = 32 then skB B len k (e + 1) else e
theorem skB_ok (B : Nat → Nat) (len : Nat) : ∀ k e, e + k = len → e ≤ skB B len k e ∧ skB B len k e ≤ len
  | 0, e, h => ⟨Nat.le_refl e, by show e ≤ len; omega⟩
  | k + 1, e, h => by
    rw [skB]
    by_cases z : B e = 32
    · rw [if_pos z]
      have := skB_ok B len k (e + 1) (by omega)
      omega
    · rw [if_neg z]; omega
def rnB (B : Nat → Nat) (len s : Nat) : Nat → Nat → Nat
  | 0, e => e
  | k + 1, e => if soB B len e = s then rnB B len s k (e + 1) else e
theorem rnB_ok (B : Nat → Nat) (len s : Nat) : ∀ k e, e + k = len → e ≤ rnB B len s k e ∧ rnB B len s k e ≤ len ∧ ∀ j, e ≤ j → j < rnB B len s k e → soB B len j = s
  | 0, e, h => ⟨Nat.le_refl e, by show e ≤ len; omega, fun j h1 h2 => by have h2 : j < e := h2; omega⟩
  | k + 1, e, h => by
    rw [rnB]
    by_cases z : soB B len e = s
    · rw [if_pos z]
      obtain ⟨h1, h2, h3⟩ := rnB_ok B len s k (e + 1) (by omega)
      refine ⟨by omega, h2, fun j j1 j2 => ?_⟩
      by_cases y : j = e
      · rw [y]; exact z
      · exact h3 j (by omega) j2
    · rw [if_neg z]
      exact ⟨Nat.le_refl e, by omega, fun j h1 h2 => by omega⟩
def nvB (B : Nat → Nat) (f : Nat) : Nat → Nat
  | 0 => 0
  | k + 1 => 10 * nvB B f k + (B (f + k) - 48)
theorem sk2 {T M : StT} {len : Nat} {B : Nat → Nat} (h : BT T M len B) : ∀ (k e fuel : Nat), e + k = len → k < fuel → f_X2_step_l0 fuel (setF T 4 (nI e)) = f_X2_step_b38 (setF T 4 (nI (skB B len k e))) := by
  obtain ⟨a, b, c, d⟩ := h
  intro k
  induction k with
  | zero =>
    intro e fuel he hf
    obtain ⟨fuel, rfl⟩ : ∃ z, fuel = z + 1 := ⟨fuel - 1, by omega⟩
    rw [f_X2_step_l0, setF_s, setF_o _ _ (by decide), b, if_pos ((nI_lei (by omega) (by omega)).mpr (by omega))]
    rfl
  | succ k ih =>
    intro e fuel he hf
    obtain ⟨fuel, rfl⟩ : ∃ z, fuel = z + 1 := ⟨fuel - 1, by omega⟩
    obtain ⟨d1, d2, -⟩ := d e (by omega)
    have c32 : nI (B e) = 32 ↔ B e = 32 := nI_inj (b := 32) (by omega) (by omega)
    rw [f_X2_step_l0, setF_s, setF_o _ _ (by decide), b, if_neg (fun q => by have := (nI_lei (by omega) (by omega)).mp q; omega), cki (show e < 120 by omega) (by decide), cln (by omega), setF_1, d2, skB]
    simp only [nm, c32, setF_tw, nI_1]
    by_cases z : B e = 32
    · rw [if_pos z, if_pos z]; exact ih (e + 1) fuel (by omega) (by omega)
    · rw [if_neg z, if_neg z]
theorem sk4 {T M : StT} {len : Nat} {B : Nat → Nat} (h : BT T M len B) : ∀ (k e fuel : Nat), e + k = len → k < fuel → f_X4_token_l8 fuel (setF M 4 (nI e)) = f_X4_token_b83 (b2i (soB B len (skB B len k e) = 1)) (b2i (soB B len (skB B len k e) = 2)) (if skB B len k e < len then nI (skB B len k e + 1) else nI (skB B len k e)) (setF M 4 (nI (skB B len k e))) := by
  have a := h.1
  have c := h.2.2.1
  have d := h.2.2.2
  have h4 : ∀ e, BT T (setF M 4 (nI e)) len B := fun e => h.of rfl rfl rfl (setF_o _ _ (by decide))
  have stop : ∀ (e fuel : Nat), e ≤ len → ¬ (e < len ∧ B e = 32) → f_X4_token_l8 (fuel + 1) (setF M 4 (nI e)) = f_X4_token_b83 (b2i (soB B len e = 1)) (b2i (soB B len e = 2)) (if e < len then nI (e + 1) else nI e) (setF M 4 (nI e)) := by
    intro e fuel he hb
    have nb : ¬ (if e < len then nI (B e) else -1) = (32 : Int32) := by
      by_cases z : e < len
      · rw [if_pos z]
        intro q
        exact hb ⟨z, (nI_inj (b := 32) (by have := (d e z).1; omega) (by omega)).mp q⟩
      · rw [if_neg z]; decide
    rw [f_X4_token_l8, setF_s, X4_byte_eq (h4 e) (show e ≤ 120 by omega), bds, if_neg nb, bds, X4_letter_eq (h4 e), bds, bds, X4_digit_eq (h4 e), bds, setF_o _ _ (by decide), c, nI_1]
    by_cases z : e < len
    · rw [if_neg (fun q => by have := (nI_lei (by omega) (by omega)).mp q; omega), if_pos z]
    · rw [if_pos ((nI_lei (by omega) (by omega)).mpr (by omega)), if_neg z]
  intro k
  induction k with
  | zero =>
    intro e fuel he hf
    obtain ⟨fuel, rfl⟩ : ∃ z, fuel = z + 1 := ⟨fuel - 1, by omega⟩
    exact stop e fuel (by omega) (by omega)
  | succ k ih =>
    intro e fuel he hf
    obtain ⟨fuel, rfl⟩ : ∃ z, fuel = z + 1 := ⟨fuel - 1, by omega⟩
    rw [skB]
    by_cases z : B e = 32
    · rw [if_pos z]
      have y : (if e < len then nI (B e) else -1) = (32 : Int32) := by rw [if_pos (by omega), z]; rfl
      rw [f_X4_token_l8, setF_s, X4_byte_eq (h4 e) (show e ≤ 120 by omega), bds, if_pos y, setF_tw, nI_1]
      exact ih (e + 1) fuel (by omega) (by omega)
    · rw [if_neg z]; exact stop e fuel (by omega) (fun q => z q.2)
