-- the text: a number asked for
theorem X2_isNumber_eq {T M : StT} {len f t : Nat} {B : Nat → Nat} (k : TK B len T M f t) {most : Nat} (hm : most ≤ 999) : f_X2_isNumber T (nI most) = some (b2i (soB B len f = 2 ∧ nvB B f (t - f) ≤ most)) := by
  obtain ⟨-, -, k3, -, -, k6, -⟩ := k
  have sl := soB_lt B len f
  have c2 : nI (soB B len f) = 2 ↔ soB B len f = 2 := nI_inj (b := 2) (by omega) (by omega)
  unfold f_X2_isNumber
  rw [k3, k6]
  by_cases s2 : soB B len f = 2
  · rw [if_pos (c2.mpr s2), if_pos s2]
    have m1 : min (nvB B f (t - f)) 1000 ≤ 1000 := Nat.min_le_right _ _
    have m2 : min (nvB B f (t - f)) 1000 ≤ nvB B f (t - f) := Nat.min_le_left _ _
    have ci : nI most < nI (min (nvB B f (t - f)) 1000) ↔ most < min (nvB B f (t - f)) 1000 := nI_lti (by omega) (by omega)
    by_cases z : nvB B f (t - f) ≤ most
    · rw [if_neg (fun q => by have := ci.mp q; omega), b2i_1 ⟨s2, z⟩]
    · have m3 : most < min (nvB B f (t - f)) 1000 := by rw [Nat.lt_min]; omega
      rw [if_pos (ci.mpr m3), b2i_0 (fun q => z q.2)]
  · rw [if_neg (fun q => s2 (c2.mp q)), b2i_0 (fun q => s2 q.1)]
theorem X2_isNumber_m1 {T M : StT} {len f t : Nat} {B : Nat → Nat} (k : TK B len T M f t) : f_X2_isNumber T (-1) = some 0 := by
  obtain ⟨-, -, k3, -, -, k6, -⟩ := k
  unfold f_X2_isNumber
  by_cases c : T.2.2 2 = 2
  · rw [if_pos c, k6, if_pos]
    rw [ilt, tI]
    · show (-1 : Int) < _
      omega
    · split
      · have : min (nvB B f (t - f)) 1000 ≤ 1000 := Nat.min_le_right _ _
        omega
      · omega
  · rw [if_neg c]
theorem TK.num {T M : StT} {len f t : Nat} {B : Nat → Nat} (k : TK B len T M f t) (s2 : soB B len f = 2) (hv : nvB B f (t - f) ≤ 999) : T.2.2 5 = nI (nvB B f (t - f)) := by
  obtain ⟨-, -, -, -, -, k6, -⟩ := k
  rw [k6, if_pos s2, Nat.min_eq_left (by omega)]
theorem X4_number_eq {T M : StT} {len f t : Nat} {B : Nat → Nat} (h : BT T M len B) (k : TK B len T M f t) (e7 : M.2.2 7 = 0) {most : Nat} (hm : most ≤ 999) : (soB B len f = 2 ∧ nvB B f (t - f) ≤ most ∧ f_X4_number M 0 (nI most) = f_X4_token (setF M 6 (nI (nvB B f (t - f))))) ∨ (¬ (soB B len f = 2 ∧ nvB B f (t - f) ≤ most) ∧ ∃ x, f_X4_number M 0 (nI most) = some (setF (setF M 6 x) 7 1)) := by
  obtain ⟨k1, k2, k3, k4, k5, k6, k7, k8, k9, k10, k11⟩ := k
  have a := h.1
  have w7 : ∀ x, (setF M 6 x).2.2 7 = 0 := fun x => by rw [setF_o _ _ (by decide)]; exact e7
  unfold f_X4_number
  rw [if_pos e7, k7, X4_byte_eq h (show f ≤ 120 by omega), bds, X4_digit_eq h, bds]
  simp only [nm]
  by_cases s2 : soB B len f = 2
  · obtain ⟨y, l1, l2, l3, l4⟩ := num_l h k8 k2 (fun j h1 h2 => (k9 (Or.inr s2) j h1 h2).trans s2) 0 (nI most) (t - f) 0 200 0 (by omega) (by omega) (by omega) (fun _ => rfl) (fun q => by have q : 1000 ≤ 0 := q; omega)
    have l1 : f_X4_number_l29 200 0 (nI most) 1 0 (nI f) M = f_X4_number_b79 0 (nI most) 1 (nI y) M := l1
    rw [b2i_1 s2, l1]
    unfold f_X4_number_b79
    simp only [nm]
    have ein : f_X4_in (nI y).toInt64 (Int32.toInt64 0) (nI most).toInt64 = some (b2i (0 ≤ nI y ∧ nI y ≤ nI most)) := X4_inI (nI y) 0 (nI most)
    have cle : nI y ≤ nI most ↔ y ≤ most := nI_lei (by omega) (by omega)
    rw [if_neg i1n, ein, bds]
    by_cases z : nvB B f (t - f) ≤ most
    · have ey := l3 (by omega)
      rw [b2i_1 ⟨nI_p0 (by omega), cle.mpr (by omega)⟩, if_neg i1n, bsm, must_1 (w7 _), ey]
      exact Or.inl ⟨s2, z, rfl⟩
    · have ny : ¬ y ≤ most := fun q => by
        by_cases w : nvB B f (t - f) ≤ 999
        · have := l3 w; omega
        · have := l4 (by omega); omega
      rw [b2i_0 (fun q => ny (cle.mp q.2)), if_pos rfl, bsm, must_0 (w7 _)]
      exact Or.inr ⟨fun q => z q.2, _, rfl⟩
  · refine Or.inr ⟨fun q => s2 q.1, 0, ?_⟩
    rw [b2i_0 s2, show (200 : Nat) = 199 + 1 from rfl, f_X4_number_l29]
    unfold f_X4_number_b79
    simp only [nm]
    rw [if_pos True.intro, if_pos True.intro, bsm, must_0 (w7 _), ite_self]
theorem X4_peeked_eq {T M : StT} {len f t : Nat} {B : Nat → Nat} (h : BT T M len B) (k : TK B len T M f t) (e7 : M.2.2 7 = 0) : (soB B len f = 2 ∧ nvB B f (t - f) ≤ 99 ∧ f_X4_peeked M = some (nI (nvB B f (t - f)))) ∨ (¬ (soB B len f = 2 ∧ nvB B f (t - f) ≤ 99) ∧ ∃ x, f_X4_peeked M = some x ∧ (x = -1 ∨ ∃ y, 100 ≤ y ∧ y ≤ 1000 ∧ x = nI y)) := by
  obtain ⟨k1, k2, k3, k4, k5, k6, k7, k8, k9, k10, k11⟩ := k
  have a := h.1
  unfold f_X4_peeked
  rw [if_pos e7, k7, X4_byte_eq h (show f ≤ 120 by omega), bds, X4_digit_eq h, bds]
  simp only [nm]
  by_cases s2 : soB B len f = 2
  · obtain ⟨y, l1, l2, l3, l4⟩ := peek_l h k8 k2 (fun j h1 h2 => (k9 (Or.inr s2) j h1 h2).trans s2) (t - f) 0 200 0 (by omega) (by omega) (by omega) (fun _ => rfl) (fun q => by have q : 100 ≤ 0 := q; omega)
    have l1 : f_X4_peeked_l30 M 200 0 (nI f) = some (nI y) := l1
    rw [b2i_1 s2, if_neg i1n, l1]
    by_cases z : nvB B f (t - f) ≤ 99
    · exact Or.inl ⟨s2, z, by rw [l3 z]⟩
    · exact Or.inr ⟨fun q => z q.2, _, rfl, Or.inr ⟨y, l4 (by omega), l2, rfl⟩⟩
  · rw [b2i_0 s2, if_pos rfl]
    exact Or.inr ⟨fun q => s2 q.1, _, rfl, Or.inl rfl⟩
