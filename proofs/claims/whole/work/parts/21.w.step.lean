-- the text: a step of both
theorem run4 {T M : StT} {len s : Nat} {B : Nat → Nat} (h : BT T M len B) : ∀ (k e fuel : Nat), e + k = len → k < fuel → f_X4_token_l86 fuel (b2i (s = 1)) (b2i (s = 2)) (setF M 5 (nI e)) = some (setF M 5 (nI (if s = 1 ∨ s = 2 then rnB B len s k e else e))) := by
  have a := h.1
  have h4 : ∀ e, BT T (setF M 5 (nI e)) len B := fun e => h.of rfl rfl rfl (setF_o _ _ (by decide))
  intro k
  induction k with
  | zero =>
    intro e fuel he hf
    obtain ⟨fuel, rfl⟩ : ∃ z, fuel = z + 1 := ⟨fuel - 1, by omega⟩
    have so : soB B len e = 0 := soB_0.mpr (by omega)
    have en : (if s = 1 ∨ s = 2 then rnB B len s 0 e else e) = e := by rw [rnB, ite_self]
    rw [en]
    unfold f_X4_token_l86 f_X4_token_b104
    rw [setF_s, X4_byte_eq (h4 e) (show e ≤ 120 by omega), bds, bds, X4_letter_eq (h4 e), bds, X4_digit_eq (h4 e), bds, so, b2i_0 (show ¬ (0 : Nat) = 1 by decide), b2i_0 (show ¬ (0 : Nat) = 2 by decide), if_pos rfl, if_pos rfl, ite_self, ite_self]
  | succ k ih =>
    intro e fuel he hf
    obtain ⟨fuel, rfl⟩ : ∃ z, fuel = z + 1 := ⟨fuel - 1, by omega⟩
    have ih := ih (e + 1) fuel (by omega) (by omega)
    unfold f_X4_token_l86 f_X4_token_b104 f_X4_token_b122
    simp only [nm]
    rw [setF_s, setF_tw, nI_1, X4_byte_eq (h4 e) (show e ≤ 120 by omega), bds, bds, X4_letter_eq (h4 e), bds, X4_digit_eq (h4 e), bds, ih]
    rw [rnB]
    by_cases s1 : s = 1
    · subst s1
      rw [b2i_1 rfl, if_neg i1n, b2i_0 (show ¬ (1 : Nat) = 2 by decide), if_pos rfl, if_pos (Or.inl rfl), if_pos (Or.inl rfl)]
      by_cases z : soB B len e = 1
      · rw [b2i_1 z, if_neg i1n, if_pos z]
      · rw [b2i_0 z, if_pos rfl, if_neg z]
    · rw [b2i_0 s1, if_pos rfl]
      by_cases s2 : s = 2
      · subst s2
        rw [b2i_1 rfl, if_neg i1n, if_pos (Or.inr rfl), if_pos (Or.inr rfl)]
        by_cases z : soB B len e = 2
        · rw [b2i_1 z, if_neg i1n, if_pos z]
        · rw [b2i_0 z, if_pos rfl, if_neg z]
      · have ns : ¬ (s = 1 ∨ s = 2) := fun q => q.elim s1 s2
        rw [b2i_0 s2, if_pos rfl, if_neg ns]
def TK (B : Nat → Nat) (len : Nat) (T M : StT) (f t : Nat) : Prop :=
  f ≤ t ∧ t ≤ len ∧ T.2.2 2 = nI (soB B len f) ∧ T.2.2 3 = nI f ∧ T.2.2 4 = nI t ∧ T.2.2 5 = nI (if soB B len f = 2 then min (nvB B f (t - f)) 1000 else 0) ∧ M.2.2 4 = nI f ∧ M.2.2 5 = nI t ∧ (soB B len f = 1 ∨ soB B len f = 2 → ∀ j, f ≤ j → j < t → soB B len j = soB B len f) ∧ (soB B len f ≠ 0 → f < t) ∧ (soB B len f = 0 → f = len)
def FT (T T2 : StT) : Prop := T2.1 = T.1 ∧ T2.2.1 = T.2.1 ∧ T2.2.2 0 = T.2.2 0 ∧ T2.2.2 1 = T.2.2 1
def FM (M M2 : StT) : Prop := M2.1 = M.1 ∧ M2.2.1 = M.2.1 ∧ ∀ q, q ≠ 4 → q ≠ 5 → M2.2.2 q = M.2.2 q
theorem step_ok {T M : StT} {len e : Nat} {B : Nat → Nat} (h : BT T M len B) (he : e ≤ len) (eT : T.2.2 4 = nI e) (eM : M.2.2 5 = nI e) : ∃ T2 M2 f t, f_X2_step T = some T2 ∧ f_X4_token M = some M2 ∧ TK B len T2 M2 f t ∧ e ≤ f ∧ FT T T2 ∧ FM M M2 := by
  have a := h.1
  have s2 := sk2 h (len - e) e 200 (by omega) (by omega)
  have s4 := sk4 h (len - e) e 200 (by omega) (by omega)
  obtain ⟨f1, f2⟩ := skB_ok B len (len - e) e (by omega)
  rw [setF_id eT] at s2
  generalize hf : skB B len (len - e) e = f at s2 s4 f1 f2
  have sl := soB_lt B len f
  have s4 : f_X4_token M = f_X4_token_b83 (b2i (soB B len f = 1)) (b2i (soB B len f = 2)) (if f < len then nI (f + 1) else nI f) (setF M 4 (nI f)) := by
    unfold f_X4_token
    simp only [nm]
    rw [eM]
    exact s4
  have s2 : f_X2_step T = f_X2_step_b38 (setF T 4 (nI f)) := s2
  have bT : BT (setF (setF T 4 (nI f)) 3 (nI f)) M len B := h.of rfl (by rw [setF_o _ _ (by decide), setF_o _ _ (by decide)]) rfl rfl
  rw [s2, s4]
  unfold f_X2_step_b38 f_X2_step_b79 f_X4_token_b83
  simp only [nm, setF_s]
  rw [X2_sort_eq bT (show f ≤ 120 by omega), bds, setF_o _ _ (show (2 : Nat) ≠ 5 by decide), setF_s]
  have c3 : nI (soB B len f) = 3 ↔ soB B len f = 3 := nI_inj (b := 3) (by omega) (by omega)
  have c4 : nI (soB B len f) = 4 ↔ soB B len f = 4 := nI_inj (b := 4) (by omega) (by omega)
  have bM : BT T (setF M 4 (nI f)) len B := h.of rfl rfl rfl (setF_o _ _ (by decide))
  -- the class' state before its run
  generalize hW : setF (setF (setF (setF T 4 (nI f)) 3 (nI f)) 2 (nI (soB B len f))) 5 0 = W
  have w2 : W.2.2 2 = nI (soB B len f) := by rw [← hW, setF_o _ _ (by decide), setF_s]
  have w3 : W.2.2 3 = nI f := by rw [← hW, setF_o _ _ (by decide), setF_o _ _ (by decide), setF_s]
  have w4 : W.2.2 4 = nI f := by rw [← hW, setF_o _ _ (by decide), setF_o _ _ (by decide), setF_o _ _ (by decide), setF_s]
  have w5 : W.2.2 5 = 0 := by rw [← hW, setF_s]
  have w0 : W.2.2 0 = T.2.2 0 := by rw [← hW, setF_o _ _ (by decide), setF_o _ _ (by decide), setF_o _ _ (by decide), setF_o _ _ (by decide)]
  have w1 : W.2.2 1 = T.2.2 1 := by rw [← hW, setF_o _ _ (by decide), setF_o _ _ (by decide), setF_o _ _ (by decide), setF_o _ _ (by decide)]
  have wa : W.1 = T.1 := by rw [← hW]; rfl
  have wl : W.2.1 = T.2.1 := by rw [← hW]; rfl
  have bW : BT W M len B := h.of (by rw [wa]) w0 rfl rfl
  have fmM : ∀ x, FM M (setF (setF M 4 (nI f)) 5 x) := fun x => ⟨rfl, rfl, fun q h4 h5 => by rw [setF_o _ _ h5, setF_o _ _ h4]⟩
  have ftW : ∀ x y, FT T (setF (setF W 5 x) 4 y) := fun x y => ⟨wa, wl, by rw [setF_o _ _ (by decide), setF_o _ _ (by decide)]; exact w0, by rw [setF_o _ _ (by decide), setF_o _ _ (by decide)]; exact w1⟩
  have fin : ∀ (t : Nat) (x : Int32), f ≤ t → t ≤ len → x = nI (if soB B len f = 2 then min (nvB B f (t - f)) 1000 else 0) → (soB B len f = 1 ∨ soB B len f = 2 → ∀ j, f ≤ j → j < t → soB B len j = soB B len f) → (soB B len f ≠ 0 → f < t) → TK B len (setF (setF W 5 x) 4 (nI t)) (setF (setF M 4 (nI f)) 5 (nI t)) f t := by
    intro t x t1 t2 t3 t4 t5
    refine ⟨t1, t2, ?_, ?_, ?_, ?_, ?_, ?_, t4, t5, fun q => ?_⟩
    · rw [setF_o _ _ (by decide), setF_o _ _ (by decide)]; exact w2
    · rw [setF_o _ _ (by decide), setF_o _ _ (by decide)]; exact w3
    · rw [setF_s]
    · rw [setF_o _ _ (by decide), setF_s]; exact t3
    · rw [setF_o _ _ (by decide), setF_s]
    · rw [setF_s]
    · have := soB_0.mp q; omega
  by_cases z : f < len
  · have nz : soB B len f ≠ 0 := fun q => soB_0.mp q z
    rw [if_pos z, run4 bM (len - (f + 1)) (f + 1) 200 (by omega) (by omega)]
    obtain ⟨r1, r2, r3⟩ := rnB_ok B len (soB B len f) (len - f) f (by omega)
    have re : rnB B len (soB B len f) (len - f) f = rnB B len (soB B len f) (len - (f + 1)) (f + 1) := by
      rw [show len - f = (len - (f + 1)) + 1 by omega, rnB, if_pos rfl]
    obtain ⟨r4, -, -⟩ := rnB_ok B len (soB B len f) (len - (f + 1)) (f + 1) (by omega)
    by_cases s34 : soB B len f = 3 ∨ soB B len f = 4
    · have e12 : ¬ (soB B len f = 1 ∨ soB B len f = 2) := by omega
      have two : (if nI (soB B len f) = 3 then some (setF W 4 (W.2.2 4 + 1)) else if nI (soB B len f) = 4 then some (setF W 4 (W.2.2 4 + 1)) else f_X2_step_l90 200 W) = some (setF (setF W 5 0) 4 (nI (f + 1))) := by
        rw [w4, nI_1, setF_id w5]
        by_cases y : soB B len f = 3
        · rw [if_pos (c3.mpr y)]
        · rw [if_neg (fun q => y (c3.mp q)), if_pos (c4.mpr (s34.resolve_left y))]
      rw [if_neg e12]
      refine ⟨_, _, f, f + 1, two, rfl, fin (f + 1) 0 (by omega) (by omega) ?_ (fun q => absurd q e12) (fun _ => by omega), f1, ftW _ _, fmM _⟩
      rw [if_neg (by omega)]; rfl
    · have e12 : soB B len f = 1 ∨ soB B len f = 2 := by omega
      have n3 : ¬ nI (soB B len f) = 3 := fun q => s34 (Or.inl (c3.mp q))
      have n4 : ¬ nI (soB B len f) = 4 := fun q => s34 (Or.inr (c4.mp q))
      rw [if_neg n3, if_neg n4, if_pos e12, ← re]
      by_cases y : soB B len f = 2
      · have l := run2n (f := f) bW (by rw [w2, y]; rfl) (len - f) f 200 (by omega) (Nat.le_refl f) (by omega)
        rw [Nat.sub_self, nvB, setF_id (show W.2.2 5 = nI (min 0 1000) from w5), setF_id w4, ← y] at l
        refine ⟨_, _, f, _, l, rfl, fin _ _ r1 r2 ?_ (fun _ => r3) (fun _ => by omega), f1, ftW _ _, fmM _⟩
        rw [if_pos y]
      · have l := run2w bW w2 y (by omega) (len - f) f 200 (by omega) (by omega)
        rw [setF_id w4] at l
        have l2 : f_X2_step_l90 200 W = some (setF (setF W 5 0) 4 (nI (rnB B len (soB B len f) (len - f) f))) := by rw [setF_id w5]; exact l
        refine ⟨_, _, f, _, l2, rfl, fin _ _ r1 r2 ?_ (fun _ => r3) (fun _ => by omega), f1, ftW _ _, fmM _⟩
        rw [if_neg y]; rfl
  · have s0 : soB B len f = 0 := soB_0.mpr z
    have fl : f = len := by omega
    have e12 : ¬ (soB B len f = 1 ∨ soB B len f = 2) := by omega
    have l := run2w bW w2 (by omega) (by omega) 0 f 200 (by omega) (by omega)
    rw [setF_id w4, rnB] at l
    have l2 : f_X2_step_l90 200 W = some (setF (setF W 5 0) 4 (nI f)) := by rw [setF_id w5]; exact l
    have r := run4 (s := soB B len f) bM 0 f 200 (by omega) (by omega)
    rw [if_neg e12] at r
    rw [if_neg (fun q => by have := c3.mp q; omega), if_neg (fun q => by have := c4.mp q; omega), if_neg z, r]
    refine ⟨_, _, f, f, l2, rfl, fin f 0 (Nat.le_refl f) (by omega) ?_ (fun q => absurd q e12) (fun q => absurd s0 q), f1, ftW _ _, fmM _⟩
    rw [if_neg (by omega)]; rfl
