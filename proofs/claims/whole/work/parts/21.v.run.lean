-- the text: a run of letters or digits
theorem soB_lt (B : Nat → Nat) (len f : Nat) : soB B len f < 5 := by
  unfold soB
  split
  · split
    · decide
    · split
      · decide
      · split <;> decide
  · decide
theorem soB_0 {B : Nat → Nat} {len f : Nat} : soB B len f = 0 ↔ ¬ f < len := by
  unfold soB
  constructor
  · intro q
    by_cases z : f < len
    · rw [if_pos z] at q
      split at q
      · omega
      · split at q
        · omega
        · split at q <;> omega
    · exact z
  · intro z
    rw [if_neg z]
theorem soB_2 {B : Nat → Nat} {len f : Nat} (h : soB B len f = 2) : f < len ∧ 48 ≤ B f ∧ B f ≤ 57 := by
  unfold soB at h
  by_cases z : f < len
  · rw [if_pos z] at h
    split at h
    · omega
    · split at h
      · rename_i q; exact ⟨z, q⟩
      · split at h <;> omega
  · rw [if_neg z] at h; omega
theorem soB_1 {B : Nat → Nat} {len f : Nat} (h : soB B len f = 1) : f < len ∧ 97 ≤ B f ∧ B f ≤ 122 := by
  unfold soB at h
  by_cases z : f < len
  · rw [if_pos z] at h
    split at h
    · rename_i q; exact ⟨z, q⟩
    · split at h
      · omega
      · split at h <;> omega
  · rw [if_neg z] at h; omega
theorem mn10 : ∀ v d, d ≤ 9 → (if 1000 < 10 * min v 1000 + d then 1000 else 10 * min v 1000 + d) = min (10 * v + d) 1000 := by
  intro v d hd
  by_cases z : v ≤ 1000
  · rw [Nat.min_eq_left z]
    by_cases y : 1000 < 10 * v + d
    · rw [if_pos y, Nat.min_eq_right (by omega)]
    · rw [if_neg y, Nat.min_eq_left (by omega)]
  · rw [Nat.min_eq_right (by omega), if_pos (by omega), Nat.min_eq_right (by omega)]
theorem run2w {T M : StT} {len s : Nat} {B : Nat → Nat} (h : BT T M len B) (hs : T.2.2 2 = nI s) (hs2 : s ≠ 2) (hs5 : s < 5) : ∀ (k e fuel : Nat), e + k = len → k < fuel → f_X2_step_l90 fuel (setF T 4 (nI e)) = some (setF T 4 (nI (rnB B len s k e))) := by
  have a := h.1
  have b := h.2.1
  have h4 : ∀ e, BT (setF T 4 (nI e)) M len B := fun e => h.of rfl (setF_o _ _ (by decide)) rfl rfl
  intro k
  induction k with
  | zero =>
    intro e fuel he hf
    obtain ⟨fuel, rfl⟩ : ∃ z, fuel = z + 1 := ⟨fuel - 1, by omega⟩
    rw [f_X2_step_l90, setF_s, setF_o _ _ (by decide), b, if_pos ((nI_lei (by omega) (by omega)).mpr (by omega))]
    rfl
  | succ k ih =>
    intro e fuel he hf
    obtain ⟨fuel, rfl⟩ : ∃ z, fuel = z + 1 := ⟨fuel - 1, by omega⟩
    have l5 := soB_lt B len e
    have cs : nI (soB B len e) = nI s ↔ soB B len e = s := nI_inj (by omega) (by omega)
    have c2 : ¬ nI s = 2 := fun q => hs2 ((nI_inj (b := 2) (by omega) (by omega)).mp q)
    unfold f_X2_step_l90 f_X2_step_b154
    rw [setF_s, setF_o _ _ (show (0 : Nat) ≠ 4 by decide), b, if_neg (fun q => by have := (nI_lei (by omega) (by omega)).mp q; omega), X2_sort_eq (h4 e) (show e ≤ 120 by omega), bds, setF_o _ _ (show (2 : Nat) ≠ 4 by decide), hs, if_neg c2]
    simp only [nm, setF_s, setF_tw, nI_1, cs]
    rw [rnB]
    by_cases z : soB B len e = s
    · rw [if_pos z, if_pos z]; exact ih (e + 1) fuel (by omega) (by omega)
    · rw [if_neg z, if_neg z]
theorem run2n {T M : StT} {len f : Nat} {B : Nat → Nat} (h : BT T M len B) (hs : T.2.2 2 = 2) : ∀ (k e fuel : Nat), e + k = len → f ≤ e → k < fuel → f_X2_step_l90 fuel (setF (setF T 5 (nI (min (nvB B f (e - f)) 1000))) 4 (nI e)) = some (setF (setF T 5 (nI (min (nvB B f (rnB B len 2 k e - f)) 1000))) 4 (nI (rnB B len 2 k e))) := by
  have a := h.1
  have b := h.2.1
  have h4 : ∀ e x, BT (setF (setF T 5 x) 4 (nI e)) M len B := fun e x => h.of rfl (by rw [setF_o _ _ (by decide), setF_o _ _ (by decide)]) rfl rfl
  intro k
  induction k with
  | zero =>
    intro e fuel he hfe hf
    obtain ⟨fuel, rfl⟩ : ∃ z, fuel = z + 1 := ⟨fuel - 1, by omega⟩
    rw [f_X2_step_l90, setF_s, setF_o _ _ (by decide), setF_o _ _ (by decide), b, if_pos ((nI_lei (by omega) (by omega)).mpr (by omega))]
    rfl
  | succ k ih =>
    intro e fuel he hfe hf
    obtain ⟨fuel, rfl⟩ : ∃ z, fuel = z + 1 := ⟨fuel - 1, by omega⟩
    have l5 := soB_lt B len e
    have cs : nI (soB B len e) = 2 ↔ soB B len e = 2 := nI_inj (b := 2) (by omega) (by omega)
    obtain ⟨d1, d2, -⟩ := h.2.2.2 e (by omega)
    unfold f_X2_step_l90 f_X2_step_b154
    rw [setF_s, setF_o _ _ (show (0 : Nat) ≠ 4 by decide), setF_o _ _ (show (0 : Nat) ≠ 5 by decide), b, if_neg (fun q => by have := (nI_lei (by omega) (by omega)).mp q; omega), X2_sort_eq (h4 e _) (show e ≤ 120 by omega), bds, setF_o _ _ (show (2 : Nat) ≠ 4 by decide), setF_o _ _ (show (2 : Nat) ≠ 5 by decide), hs, if_pos rfl, cki (show e < 120 by omega) (by decide), cln (by omega), setF_1, setF_1, d2, setF_o _ _ (show (5 : Nat) ≠ 4 by decide), setF_s]
    rw [rnB]
    by_cases z : soB B len e = 2
    · obtain ⟨-, g1, g2⟩ := soB_2 z
      have hv : nvB B f (e + 1 - f) = 10 * nvB B f (e - f) + (B e - 48) := by
        rw [show e + 1 - f = (e - f) + 1 by omega, nvB, show f + (e - f) = e by omega]
      have m1 : min (nvB B f (e - f)) 1000 ≤ 1000 := Nat.min_le_right _ _
      have ex : (10 : Int32) * nI (min (nvB B f (e - f)) 1000) + nI (B e) - 48 = nI (10 * min (nvB B f (e - f)) 1000 + (B e - 48)) := by
        rw [li 10, li 48, pk_mul, nI_add, pk_sub (by omega)]
        exact congrArg nI (by omega)
      have key : (if (1000 : Int32) < nI (10 * min (nvB B f (e - f)) 1000 + (B e - 48)) then (1000 : Int32) else nI (10 * min (nvB B f (e - f)) 1000 + (B e - 48))) = nI (min (nvB B f (e + 1 - f)) 1000) := by
        rw [hv, ← mn10 _ _ (show B e - 48 ≤ 9 by omega)]
        have ci : (1000 : Int32) < nI (10 * min (nvB B f (e - f)) 1000 + (B e - 48)) ↔ 1000 < 10 * min (nvB B f (e - f)) 1000 + (B e - 48) := nI_lti (a := 1000) (by omega) (by omega)
        by_cases y : 1000 < 10 * min (nvB B f (e - f)) 1000 + (B e - 48)
        · rw [if_pos (ci.mpr y), if_pos y]; rfl
        · rw [if_neg (fun q => y (ci.mp q)), if_neg y]
      rw [if_pos (cs.mpr z), if_pos z, ex, key]
      have comm : ∀ x y w : Int32, setF (setF (setF (setF T 5 x) 4 y) 5 w) 4 (nI (e + 1)) = setF (setF T 5 w) 4 (nI (e + 1)) := by
        intro x y w
        unfold setF
        refine Prod.ext rfl (Prod.ext rfl ?_)
        funext j
        by_cases q : j = 4
        · simp [q]
        · by_cases q2 : j = 5 <;> simp [q, q2]
      simp only [nm]
      rw [setF_o _ _ (show (4 : Nat) ≠ 5 by decide), setF_s, nI_1, comm]
      exact ih (e + 1) fuel (by omega) (by omega) (by omega)
    · rw [if_neg (fun q => z (cs.mp q)), if_neg z]
