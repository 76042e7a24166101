-- the text: items
theorem FLs.row {B : Nat → Nat} {len : Nat} {T M : StT} (h : FLs B len T M) (s : Nat → Int32) : FLs B len T (setA M 0 s) := by
  obtain ⟨f, t, bt, h1, h2, h3, h4, h5, h6⟩ := h
  exact ⟨f, t, bt.of rfl rfl (setA_o _ _ (by decide)) rfl, h1, h2, h3, h4, h5, h6⟩
/-- how a piece of an item ends on both sides -/
def ItN (B : Nat → Nat) (len e n : Nat) (T M : StT) (a : Option (Int32 × (StT × StT))) (b : Option StT) : Prop :=
  (∃ T2 R2 M2 f2 t2, a = some (1, (T2, R2)) ∧ b = some M2 ∧ OKs B len e T2 M2 f2 t2 ∧ RI n R2 ∧ RE n R2 (M2.1 0) ∧ FB T M T2 M2) ∨
  (∃ T2 R2 M2, a = some (0, (T2, R2)) ∧ b = some M2 ∧ FLs B len T2 M2 ∧ FB T M T2 M2)
theorem perhI {B : Nat → Nat} {len e f t w k x spot most n : Nat} {T R M : StT} {c : Int64} (o : OKs B len e T M f t) (hw : w < 14) (hc : c = nL (cd w)) (hx : x < 8) (hs : spot < 66) (hm : most ≤ 99) (i : RI n R) (r : RE n R (M.1 0)) (hv : ∀ v, v ≤ most → RI n (setA R k (upd (R.1 k) x (nI v))) ∧ RE n (setA R k (upd (R.1 k) x (nI v))) (upd (M.1 0) spot (nI v))) :
    ItN B len e n T M (tpG w k (T, R) (nI x) (nI most)) (f_X4_partItem M c (nI spot) (nI most)) := by
  rcases perh (R := R) (k := k) o hw hc hx hs hm with ⟨T2, M2, f2, t2, v, h1, h2, h3, h4, h5, h6⟩ | ⟨h1, h2⟩ | ⟨T2, M2, h1, h2, h3, h4⟩
  · refine Or.inl ⟨T2, _, _, f2, t2, h2, h3, h5.row _, (hv v h1).1, ?_, h6.tr (FB.m0 _ _ _)⟩
    rw [setA_s]
    exact (hv v h1).2
  · exact Or.inl ⟨T, R, M, f, t, h1, h2, o, i, r, FB.rf T M⟩
  · exact Or.inr ⟨T2, R, M2, h1, h2, h3, h4⟩
theorem word_fl {B : Nat → Nat} {len : Nat} {T M : StT} (h : FLs B len T M) : f_X4_word M = some 0 := by
  obtain ⟨f, t, bt, h1, h2, h3, h4, h5, h6⟩ := h
  exact X4_word_w bt h4 h5 h2 h1 (by rw [h6]; exact i1n)
theorem FLs.w {B : Nat → Nat} {len : Nat} {T M : StT} (h : FLs B len T M) : M.2.2 7 = 1 := by
  obtain ⟨f, t, bt, h1, h2, h3, h4, h5, h6⟩ := h
  exact h6
theorem part_fl {B : Nat → Nat} {len : Nat} {T M : StT} (h : FLs B len T M) {c : Int64} {w : Nat} (hw : w < 14) (hc : c = nL (cd w)) (a b : Int32) : f_X4_partItem M c a b = some M := by
  have p := cd_pos w hw
  have cc : CAP = 36028797018963967 := rfl
  unfold f_X4_partItem
  rw [word_fl h, bds, if_neg]
  rw [lgc_z, hc]
  intro q
  have q : nL 0 = nL (cd w) := q
  rw [nL_inj (by omega) (by omega)] at q
  omega
theorem tp6 : f_X2_takesPerhaps_6_4 = tpG 6 4 := rfl
theorem tp7 : f_X2_takesPerhaps_7_5 = tpG 7 5 := rfl
theorem tp10 : f_X2_takesPerhaps_10_0 = tpG 10 0 := rfl
theorem tp11 : f_X2_takesPerhaps_11_1 = tpG 11 1 := rfl
theorem chairItem_ok {B : Nat → Nat} {len e f t n : Nat} {T R M : StT} (o : OKs B len e T M f t) (i : RI n R) (r : RE n R (M.1 0)) : ItN B len e n T M (f_X2_takesChair (T, R)) (f_X4_chairItem M) := by
  have hn := i.1
  obtain ⟨T1, M1, f1, t1, s1, s2, o1, ft1, fm1⟩ := o.step
  obtain ⟨bt1, k1, he1, e71⟩ := id o1
  have hf1 : f ≤ t := o.2.1.1
  have hef : e ≤ f := o.2.2.1
  have fb1 := FB.mk2 ft1 fm1
  unfold f_X2_takesChair f_X4_chairItem
  simp only [nm, s1, bds, must_1 o.2.2.2, s2, X2_isNumber_eq k1 (show 7 ≤ 999 by omega), show (7 : Int32) = nI 7 from rfl]
  rcases X4_number_eq bt1 k1 e71 (show 7 ≤ 999 by omega) with ⟨n1, n2, n3⟩ | ⟨n1, y, n3⟩
  · obtain ⟨T3, M3, f3, t3, s3, s4, o3, ft3, fm3⟩ := (o1.six (nI (nvB B f1 (t1 - f1)))).step
    generalize hv : nvB B f1 (t1 - f1) = v at *
    have m6 : M3.2.2 6 = nI v := by rw [fm3.2.2 6 (by decide) (by decide), setF_s]
    have r0 : M3.1 0 = M.1 0 := by rw [fm3.1, setF_1, fm1.1]
    have fb3 := (fb1.tr (FB.m6 T1 M1 _)).tr (FB.mk2 ft3 fm3)
    have o3 := o3.wk (show e ≤ t1 by have := k1.1; omega)
    have hv8 : v < 8 := by omega
    have ev : T1.2.2 5 = nI v := by rw [← hv]; exact k1.num n1 (by omega)
    rw [b2i_1 ⟨n1, n2⟩, if_neg i1n, n3, s4, bds, o3.2.2.2, if_pos rfl, m6, ev, s3, bds, tp10, tp11]
    unfold f_X4_chairItem_b27
    have c0 : f_X4_chairAt (nI v) 0 = some (nI (2 + 2 * v)) := by rw [li 0, chairAt_eq, Nat.add_zero]
    have c1 : f_X4_chairAt (nI v) 1 = some (nI (2 + 2 * v + 1)) := by rw [li 1, chairAt_eq]
    rw [c0, c1, bds]
    simp only [bds, show (20 : Int32) = nI 20 from rfl, show (9 : Int32) = nI 9 from rfl]
    have p1 := perhI (w := 10) (k := 0) (c := 730295) (x := v) (spot := 2 + 2 * v) (most := 20) o3 (by decide) (by decide +kernel) hv8 (by omega) (by omega) i (by rw [r0]; exact r) (fun u hu => ⟨i.view hu, by rw [r0]; exact r.chair hn hv8 (w := 0) (by decide) (nI u)⟩)
    rcases p1 with ⟨T4, R4, M4, f4, t4, a1, a2, o4, i4, r4, fb4⟩ | ⟨T4, R4, M4, a1, a2, l4, fb4⟩
    · rw [a1, bds, a2, bds, if_neg i1n]
      have p2 := perhI (w := 11) (k := 1) (c := 4900691220) (x := v) (spot := 2 + 2 * v + 1) (most := 9) o4 (by decide) (by decide +kernel) hv8 (by omega) (by omega) i4 r4 (fun u hu => ⟨i4.draught hu, r4.chair hn hv8 (w := 1) (by decide) (nI u)⟩)
      rcases p2 with ⟨T5, R5, M5, f5, t5, b1, b2, o5, i5, r5, fb5⟩ | ⟨T5, R5, M5, b1, b2, l5, fb5⟩
      · rw [b1, bds, b2, bds, if_neg i1n]
        exact Or.inl ⟨T5, R5, M5, f5, t5, rfl, rfl, o5, i5, r5, (fb3.tr fb4).tr fb5⟩
      · rw [b1, bds, b2, bds, if_pos rfl]
        exact Or.inr ⟨T5, R5, M5, rfl, rfl, l5, (fb3.tr fb4).tr fb5⟩
    · rw [a1, bds, a2, bds, if_pos rfl, part_fl l4 (w := 11) (by decide) (by decide +kernel), bds]
      exact Or.inr ⟨T4, R4, M4, rfl, rfl, l4, fb3.tr fb4⟩
  · have l1 := (o1.six y).wrong
    rw [b2i_0 n1, if_pos rfl, n3, bds, setF_s, if_neg i1n]
    unfold f_X4_chairItem_b27
    have c0 : f_X4_chairAt 0 0 = some 2 := rfl
    have c1 : f_X4_chairAt 0 1 = some 3 := rfl
    rw [c0, c1, bds, part_fl l1 (w := 10) (by decide) (by decide +kernel), bds, bds, part_fl l1 (w := 11) (by decide) (by decide +kernel), bds]
    exact Or.inr ⟨T1, R, _, rfl, rfl, l1, (fb1.tr (FB.m6 T1 M1 y)).tr (FB.m7 T1 _ 1)⟩
