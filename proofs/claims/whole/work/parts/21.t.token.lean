-- the text: tokens
def soB (B : Nat → Nat) (len f : Nat) : Nat := if f < len then (if 97 ≤ B f ∧ B f ≤ 122 then 1 else if 48 ≤ B f ∧ B f ≤ 57 then 2 else if B f = 59 then 3 else 4) else 0
def BT (T M : StT) (len : Nat) (B : Nat → Nat) : Prop := len ≤ 120 ∧ T.2.2 0 = nI len ∧ M.2.2 3 = nI len ∧ ∀ j, j < len → B j < 256 ∧ T.1 0 j = nI (B j) ∧ M.1 6 j = nI (B j)
theorem BT.of {T M T2 M2 : StT} {len : Nat} {B : Nat → Nat} (h : BT T M len B) (t1 : T2.1 0 = T.1 0) (t2 : T2.2.2 0 = T.2.2 0) (m1 : M2.1 6 = M.1 6) (m2 : M2.2.2 3 = M.2.2 3) : BT T2 M2 len B := by
  obtain ⟨a, b, c, d⟩ := h
  exact ⟨a, t2.trans b, m2.trans c, fun j hj => by rw [t1, m1]; exact d j hj⟩
theorem X2_sort_eq {T M : StT} {len : Nat} {B : Nat → Nat} (h : BT T M len B) {f : Nat} (hf : f ≤ 120) : f_X2_sortAt T (nI f) = some (nI (soB B len f)) := by
  obtain ⟨a, b, c, d⟩ := h
  unfold f_X2_sortAt soB
  rw [b]
  by_cases z : f < len
  · obtain ⟨d1, d2, -⟩ := d f z
    rw [if_pos ((nI_lti (by omega) (by omega)).mpr z), if_pos z, cki (show f < 120 by omega) (by decide), cln (by omega)]
    simp only [nm]
    rw [d2]
    unfold f_X2_sortAt_b31 f_X2_sortAt_b45
    have c97 : nI (B f) < 97 ↔ B f < 97 := nI_lti (b := 97) (by omega) (by omega)
    have c122 : 122 < nI (B f) ↔ 122 < B f := nI_lti (a := 122) (by omega) (by omega)
    have c48 : nI (B f) < 48 ↔ B f < 48 := nI_lti (b := 48) (by omega) (by omega)
    have c57 : 57 < nI (B f) ↔ 57 < B f := nI_lti (a := 57) (by omega) (by omega)
    have c59 : nI (B f) = 59 ↔ B f = 59 := nI_inj (b := 59) (by omega) (by omega)
    simp only [c97, c122, c48, c57, c59]
    by_cases y1 : 97 ≤ B f ∧ B f ≤ 122
    · rw [if_pos y1, if_neg (by omega), if_neg (by omega)]; rfl
    · rw [if_neg y1]
      have low : (if B f < 97 then (if B f < 48 then (if B f = 59 then some (3 : Int32) else some 4) else if 57 < B f then (if B f = 59 then some 3 else some 4) else some 2) else if 122 < B f then (if B f < 48 then (if B f = 59 then some 3 else some 4) else if 57 < B f then (if B f = 59 then some 3 else some 4) else some 2) else some 1) = (if B f < 48 then (if B f = 59 then some (3 : Int32) else some 4) else if 57 < B f then (if B f = 59 then some 3 else some 4) else some 2) := by
        by_cases x : B f < 97
        · rw [if_pos x]
        · rw [if_neg x, if_pos (by omega)]
      rw [low]
      by_cases y2 : 48 ≤ B f ∧ B f ≤ 57
      · rw [if_pos y2, if_neg (by omega), if_neg (by omega)]; rfl
      · rw [if_neg y2]
        by_cases y3 : B f = 59
        · rw [if_pos y3, if_neg (show ¬ B f < 48 by omega), if_pos (show 57 < B f by omega), if_pos y3]; rfl
        · rw [if_neg y3, if_neg y3]
          by_cases x : B f < 48
          · rw [if_pos x]; rfl
          · rw [if_neg x, if_pos (by omega)]; rfl
  · rw [if_neg (fun q => z ((nI_lti (by omega) (by omega)).mp q)), if_neg z]; rfl
theorem X4_byte_eq {T M : StT} {len : Nat} {B : Nat → Nat} (h : BT T M len B) {f : Nat} (hf : f ≤ 120) : f_X4_byteAt M (nI f) = some (if f < len then nI (B f) else -1) := by
  obtain ⟨a, b, c, d⟩ := h
  unfold f_X4_byteAt
  rw [c]
  by_cases z : f < len
  · rw [if_neg (fun q => by have := (nI_lei (by omega) (by omega)).mp q; omega), if_pos z, cki (show f < 120 by omega) (by decide), cln (by omega), (d f z).2.2]
  · rw [if_pos ((nI_lei (by omega) (by omega)).mpr (by omega)), if_neg z]
theorem X4_letter_eq {T M : StT} {len : Nat} {B : Nat → Nat} (h : BT T M len B) {f : Nat} : f_X4_isLetter (if f < len then nI (B f) else -1) = some (b2i (soB B len f = 1)) := by
  unfold f_X4_isLetter
  have ein : ∀ x : Int32, f_X4_in x.toInt64 (97 : Int64) (122 : Int64) = some (b2i (97 ≤ x ∧ x ≤ 122)) := fun x => X4_inI x 97 122
  rw [ein, bds, ckb_b2i]
  refine congrArg some (b2i_congr ?_)
  unfold soB
  by_cases z : f < len
  · have d1 := (h.2.2.2 f z).1
    have c97 : 97 ≤ nI (B f) ↔ 97 ≤ B f := nI_lei (a := 97) (by omega) (by omega)
    have c122 : nI (B f) ≤ 122 ↔ B f ≤ 122 := nI_lei (b := 122) (by omega) (by omega)
    rw [if_pos z, if_pos z, c97, c122]
    by_cases y : 97 ≤ B f ∧ B f ≤ 122
    · rw [if_pos y]; exact ⟨fun _ => rfl, fun _ => y⟩
    · rw [if_neg y]
      refine ⟨fun q => absurd q y, fun q => ?_⟩
      split at q
      · omega
      · split at q <;> omega
  · rw [if_neg z, if_neg z]
    exact ⟨fun q => absurd q (by decide), fun q => by omega⟩
theorem X4_digit_eq {T M : StT} {len : Nat} {B : Nat → Nat} (h : BT T M len B) {f : Nat} : f_X4_isDigit (if f < len then nI (B f) else -1) = some (b2i (soB B len f = 2)) := by
  unfold f_X4_isDigit
  have ein : ∀ x : Int32, f_X4_in x.toInt64 (48 : Int64) (57 : Int64) = some (b2i (48 ≤ x ∧ x ≤ 57)) := fun x => X4_inI x 48 57
  rw [ein, bds, ckb_b2i]
  refine congrArg some (b2i_congr ?_)
  unfold soB
  by_cases z : f < len
  · have d1 := (h.2.2.2 f z).1
    have c48 : 48 ≤ nI (B f) ↔ 48 ≤ B f := nI_lei (a := 48) (by omega) (by omega)
    have c57 : nI (B f) ≤ 57 ↔ B f ≤ 57 := nI_lei (b := 57) (by omega) (by omega)
    rw [if_pos z, if_pos z, c48, c57]
    by_cases y : 48 ≤ B f ∧ B f ≤ 57
    · rw [if_neg (by omega), if_pos y]; exact ⟨fun _ => rfl, fun _ => y⟩
    · refine ⟨fun q => absurd q y, fun q => ?_⟩
      split at q
      · omega
      · split at q <;> omega
  · rw [if_neg z, if_neg z]
    exact ⟨fun q => absurd q (by decide), fun q => by omega⟩
