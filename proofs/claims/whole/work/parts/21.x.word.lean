-- the text: words
def nL (n : Nat) : Int64 := Int64.ofNat n
theorem nL_toInt {n : Nat} (h : n < 9223372036854775808) : (nL n).toInt = (n : Int) := Int64.toInt_ofNat_of_lt h
theorem nL_inj {a b : Nat} (ha : a < 9223372036854775808) (hb : b < 9223372036854775808) : nL a = nL b ↔ a = b := by
  rw [leq, nL_toInt ha, nL_toInt hb]; omega
theorem nL_le {a b : Nat} (ha : a < 9223372036854775808) (hb : b < 9223372036854775808) : nL a ≤ nL b ↔ a ≤ b := by
  rw [lle, nL_toInt ha, nL_toInt hb]; omega
theorem nI_L {b : Nat} (hb : b < 2147483648) : (nI b).toInt64 = nL b := by
  rw [leq, Int32.toInt_toInt64, tI hb, nL_toInt (by omega)]
theorem lgc_z (x y : Int64) : lg_cmp x y = 0 ↔ x = y := by
  unfold lg_cmp
  by_cases h : x > y
  · rw [if_pos h]
    refine ⟨fun q => absurd q (by decide), fun q => ?_⟩
    rw [q] at h
    exact absurd ((llt y y).mp h) (by omega)
  · rw [if_neg h]
    by_cases h2 : x = y
    · rw [if_pos h2]; exact ⟨fun _ => h2, fun _ => rfl⟩
    · rw [if_neg h2]; exact ⟨fun q => absurd q (by decide), fun q => absurd q h2⟩
theorem lgc_le (x y : Int64) : lg_cmp x y ≤ 0 ↔ x ≤ y := by
  have h := lgc_pos x y
  rw [ilt, llt] at h
  rw [ile, lle]
  have q0 : (0 : Int32).toInt = 0 := rfl
  rw [q0] at h ⊢
  omega
def CAP : Nat := 36028797018963967
def hwB (B : Nat → Nat) (f : Nat) : Nat → Nat
  | 0 => 0
  | k + 1 => if hwB B f k ≤ CAP then 32 * hwB B f k + (B (f + k) - 96) else hwB B f k
theorem hwB_b {B : Nat → Nat} {f t len : Nat} (hl : ∀ j, f ≤ j → j < t → soB B len j = 1) : ∀ k, f + k ≤ t → hwB B f k ≤ 32 * CAP + 26 ∧ (k ≠ 0 → 0 < hwB B f k)
  | 0, _ => ⟨Nat.zero_le _, fun q => absurd rfl q⟩
  | k + 1, h => by
    obtain ⟨h1, h2⟩ := hwB_b hl k (by omega)
    obtain ⟨-, b1, b2⟩ := soB_1 (hl (f + k) (by omega) (by omega))
    rw [hwB]
    by_cases z : hwB B f k ≤ CAP
    · rw [if_pos z]; exact ⟨by omega, fun _ => by omega⟩
    · rw [if_neg z]; exact ⟨h1, fun _ => by unfold CAP at z; omega⟩
theorem X4_word_l {T M : StT} {len f t : Nat} {B : Nat → Nat} (h : BT T M len B) (e4 : M.2.2 4 = nI f) (e5 : M.2.2 5 = nI t) (e7 : M.2.2 7 = 0) (ht : t ≤ len) (hl : ∀ j, f ≤ j → j < t → soB B len j = 1) (s1 : soB B len f = 1) : ∀ (r k fuel : Nat), f + k + r = t → r < fuel → f_X4_word_l7 M fuel (nL (hwB B f k)) (nI (f + k)) = some (nL (hwB B f (k + r))) := by
  have a := h.1
  intro r
  induction r with
  | zero =>
    intro k fuel hk hf
    obtain ⟨fuel, rfl⟩ : ∃ z, fuel = z + 1 := ⟨fuel - 1, by omega⟩
    rw [f_X4_word_l7, e5, e4, e7, if_pos ((nI_lei (by omega) (by omega)).mpr (by omega)), if_pos rfl, X4_byte_eq h (show f ≤ 120 by omega), bds, X4_letter_eq h, bds, b2i_1 s1, if_neg i1n]
    rfl
  | succ r ih =>
    intro k fuel hk hf
    obtain ⟨fuel, rfl⟩ : ∃ z, fuel = z + 1 := ⟨fuel - 1, by omega⟩
    obtain ⟨hb, -⟩ := hwB_b hl k (by omega)
    obtain ⟨b0, b1, b2⟩ := soB_1 (hl (f + k) (by omega) (by omega))
    have cc : CAP = 36028797018963967 := rfl
    have ih := ih (k + 1) fuel (by omega) (by omega)
    rw [show k + 1 + r = k + (r + 1) by omega, show f + (k + 1) = f + k + 1 by omega] at ih
    rw [← ih, f_X4_word_l7, e5, if_neg (fun q => by have := (nI_lei (by omega) (by omega)).mp q; omega), cki (show f + k < 120 by omega) (by decide), cln (by omega), (h.2.2.2 (f + k) b0).2.2]
    unfold f_X4_word_b43
    simp only [nm, nI_1]
    have c : lg_cmp (nL (hwB B f k)) (36028797018963967 : Int64) ≤ 0 ↔ hwB B f k ≤ CAP := by
      rw [lgc_le]
      exact nL_le (b := 36028797018963967) (by omega) (by omega)
    rw [hwB]
    by_cases z : hwB B f k ≤ CAP
    · have ev : (32 : Int64) * nL (hwB B f k) + (nI (B (f + k)) - 96).toInt64 = nL (32 * hwB B f k + (B (f + k) - 96)) := by
        rw [li 96, pk_sub (show 96 ≤ B (f + k) by omega), nI_L (by omega)]
        show Int64.ofNat 32 * Int64.ofNat (hwB B f k) + Int64.ofNat (B (f + k) - 96) = Int64.ofNat (32 * hwB B f k + (B (f + k) - 96))
        rw [Int64.ofNat_add, Int64.ofNat_mul]
      rw [if_pos (c.mpr z), if_pos z, ev]
    · rw [if_neg (fun q => z (c.mp q)), if_neg z]
