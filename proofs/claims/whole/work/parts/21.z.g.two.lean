-- the text: two quarrel, or make it up; an item
theorem X4_isPerson_eq {M : StT} {n : Nat} (h : M.1 0 0 = nI n) (p : Int32) : f_X4_isPerson M p = some (b2i (0 ≤ p ∧ p ≤ nI n - 1)) := by
  unfold f_X4_isPerson
  rw [ck0, cl0, h]
  have h : f_X4_in p.toInt64 (0 : Int64) (nI n - 1).toInt64 = some (b2i (0 ≤ p ∧ p ≤ nI n - 1)) := X4_inI p 0 (nI n - 1)
  rw [h, bds, ckb_b2i]
theorem peekP {B : Nat → Nat} {len e f t n : Nat} {T M : StT} (o : OKs B len e T M f t) (hn : n ≤ 8) (h0 : M.1 0 0 = nI n) :
    (∃ v, v < n ∧ f_X2_isNumber T (nI n - 1) = some 1 ∧ T.2.2 5 = nI v ∧ f_X4_peeked M = some (nI v) ∧ f_X4_isPerson M (nI v) = some 1) ∨
    (f_X2_isNumber T (nI n - 1) = some 0 ∧ ∃ x, f_X4_peeked M = some x ∧ f_X4_isPerson M x = some 0) := by
  by_cases z : n = 0
  · subst z
    have em : nI 0 - 1 = -1 := by decide
    refine Or.inr ⟨by rw [em]; exact X2_isNumber_m1 o.2.1, ?_⟩
    have no : ∀ x : Int32, ¬ (0 ≤ x ∧ x ≤ nI 0 - 1) := by
      intro x q
      rw [em, ile, ile] at q
      have e1 : (-1 : Int32).toInt = -1 := by decide
      have e0 : (0 : Int32).toInt = 0 := rfl
      rw [e1, e0] at q
      omega
    rcases X4_peeked_eq o.1 o.2.1 o.2.2.2 with ⟨n1, n2, n3⟩ | ⟨n1, x, n3, n4⟩
    · exact ⟨_, n3, by rw [X4_isPerson_eq h0, b2i_0 (no _)]⟩
    · exact ⟨_, n3, by rw [X4_isPerson_eq h0, b2i_0 (no _)]⟩
  · have em : nI n - 1 = nI (n - 1) := by rw [li 1, pk_sub (by omega)]
    rcases peekG (m := n - 1) o (by omega) with ⟨v, hv, q1, q2, q3⟩ | ⟨q1, x, q3, q4⟩
    · refine Or.inl ⟨v, by omega, by rw [em]; exact q1, q2, q3, ?_⟩
      rw [X4_isPerson_eq h0, em, b2i_1 ⟨nI_p0 (by omega), (nI_lei (by omega) (by omega)).mpr hv⟩]
    · refine Or.inr ⟨by rw [em]; exact q1, x, q3, ?_⟩
      rw [X4_isPerson_eq h0, em, b2i_0 q4]
theorem peek_w {M : StT} (h : M.2.2 7 = 1) : f_X4_peeked M = some (-1) := by
  unfold f_X4_peeked
  rw [h, if_neg i1n]
theorem pers_m {M : StT} {n : Nat} (hn : n ≤ 8) (h : M.1 0 0 = nI n) : f_X4_isPerson M (-1) = some 0 := by
  rw [X4_isPerson_eq h, b2i_0 (fun q => absurd q.1 (by decide))]
theorem b117_w {M : StT} (h : M.2.2 7 = 1) (a b c : Int32) : f_X4_item_b117 a b c M = some M := by
  unfold f_X4_item_b117 f_X4_item_b118
  rw [must_w h, bds, h, if_neg i1n]
theorem b117_f {M : StT} (h : M.2.2 7 = 0) (a b c : Int32) : f_X4_item_b117 a b c M = some (setF M 7 1) := by
  unfold f_X4_item_b117 f_X4_item_b118
  rw [must_0 h, bds, setF_s, if_neg i1n]
theorem b71_f {M : StT} {n : Nat} (hn : n ≤ 8) (h : M.2.2 7 = 0) (h0 : M.1 0 0 = nI n) (a : Int32) : f_X4_item_b71 a 0 M = some (setF M 7 1) := by
  have w : (setF M 7 1).2.2 7 = 1 := setF_s _ _ _
  have r : (setF M 7 1).1 0 0 = nI n := h0
  unfold f_X4_item_b71
  rw [must_0 h, bds, peek_w w, bds, pers_m hn r, bds, must_w w, bds, peek_w w, bds, pers_m hn r, bds, if_pos rfl, b117_w w]
theorem twoItem_ok {B : Nat → Nat} {len e f t n : Nat} {T R M : StT} (o : OKs B len e T M f t) (i : RI n R) (r : RE n R (M.1 0)) (b : Bool) : ItN B len e n T M (f_X2_takesTwo (T, R) (if b = true then 1 else 0)) (f_X4_item_b71 (if b = true then 1 else 0) 1 M) := by
  have hn := i.1
  obtain ⟨T1, M1, f1, t1, s1, s2, o1, ft1, fm1⟩ := o.step
  obtain ⟨bt1, k1, he1, e71⟩ := id o1
  have hf1 : f ≤ t := o.2.1.1
  have hef : e ≤ f := o.2.2.1
  have hf2 := k1.1
  have fb1 := FB.mk2 ft1 fm1
  have r1 : RE n R (M1.1 0) := by rw [fm1.1]; exact r
  unfold f_X2_takesTwo f_X4_item_b71
  generalize hb : (if b = true then (1 : Int32) else 0) = bi
  simp only [nm, s1, bds, must_1 o.2.2.2, s2, i.2.1]
  rcases peekP o1 hn r1.1 with ⟨v, hv, q1, q2, q3, q4⟩ | ⟨q1, x, q3, q4⟩
  · obtain ⟨T2, M2, f2, t2, s3, s4, o2, ft2, fm2⟩ := o1.step
    have k2 := o2.2.1.1
    have he2 := o2.2.2.1
    have fb2 := fb1.tr (FB.mk2 ft2 fm2)
    have r2 : RE n R (M2.1 0) := by rw [fm2.1]; exact r1
    rw [q1, bds, if_neg i1n, q3, bds, q4, bds, must_1 e71, s4, bds, s3, bds, q2]
    rcases peekP o2 hn r2.1 with ⟨u, hu, p1, p2, p3, p4⟩ | ⟨p1, x, p3, p4⟩
    · rw [p1, bds, if_neg i1n, p3, bds, p4, bds, if_neg i1n, p2]
      by_cases z : u = v
      · subst z
        rw [if_pos rfl, if_pos rfl, b117_f o2.2.2.2]
        exact Or.inr ⟨T2, R, _, rfl, rfl, o2.wrong, fb2.tr (FB.m7 T2 M2 1)⟩
      · have ne : ¬ nI u = nI v := fun q => z ((nI_inj (by omega) (by omega)).mp q)
        have ne2 : ¬ nI v = nI u := fun q => ne q.symm
        obtain ⟨T3, M3, f3, t3, s5, s6, o3, ft3, fm3⟩ := o2.step
        have r3 : RE n R (M3.1 0) := by rw [fm3.1]; exact r2
        have a := X0_po_eq R (show v < 8 by omega) (show u < 8 by omega) (fun q => z q.symm) b
        obtain ⟨s, y, ry⟩ := X4_po_eq (M := M3) r3 hn hv hu (fun q => z q.symm) b
        rw [hb] at a y
        unfold f_X4_item_b118
        rw [if_neg ne, if_neg ne2, a, bds, s5, bds, must_1 o2.2.2.2, s6, bds, o3.2.2.2, if_pos rfl, y, bds]
        refine Or.inl ⟨T3, _, _, f3, t3, rfl, rfl, (o3.wk (show e ≤ t2 by omega)).row s, i.po hv hu (fun q => z q.symm) b, ?_, (fb2.tr (FB.mk2 ft3 fm3)).tr (FB.m0 _ _ _)⟩
        rw [setA_s]
        exact ry
    · rw [p1, bds, if_pos rfl, p3, bds, p4, bds, if_pos rfl, b117_f o2.2.2.2]
      exact Or.inr ⟨T2, R, _, rfl, rfl, o2.wrong, fb2.tr (FB.m7 T2 M2 1)⟩
  · have w : (setF M1 7 1).2.2 7 = 1 := setF_s _ _ _
    have r0 : (setF M1 7 1).1 0 0 = nI n := r1.1
    rw [q1, bds, if_pos rfl, q3, bds, q4, bds, must_0 e71, bds, peek_w w, bds, pers_m hn r0, bds, if_pos rfl, b117_w w]
    exact Or.inr ⟨T1, R, _, rfl, rfl, o1.wrong, fb1.tr (FB.m7 T1 M1 1)⟩
theorem nameOf6 : ∀ k, k < 6 → f_X2_nameOf (nI k) = some k := by decide
theorem kinds_ok {B : Nat → Nat} {len e f t : Nat} {T M : StT} (o : OKs B len e T M f t) : (∃ k, k < 6 ∧ f_X2_kindNamed T = some (nI k) ∧ f_X4_kindHere M = some (nI k)) ∨ (f_X2_kindNamed T = some (-1) ∧ f_X4_kindHere M = some (-1)) := by
  obtain ⟨w, ew, hw⟩ := o.word
  have st : ∀ k, k < 6 → ∀ fuel, f_X2_kindNamed_l2 T (fuel + 1) (nI k) = Option.bind (f_X2_isWord k T) fun z => if z = 0 then f_X2_kindNamed_l2 T fuel (nI (k + 1)) else some (nI k) := by
    intro k hk fuel
    rw [f_X2_kindNamed_l2, if_neg (fun q => by have := (nI_lei (a := 6) (by omega) (by omega)).mp q; omega), nameOf6 k hk, bds]
    simp only [nm, nI_1]
  have en : ∀ fuel, f_X2_kindNamed_l2 T (fuel + 1) (nI 6) = some (-1) := by
    intro fuel
    rw [f_X2_kindNamed_l2, if_pos (show (6 : Int32) ≤ nI 6 by decide)]
  have z0 : f_X2_kindNamed T = Option.bind (f_X2_isWord 0 T) fun z => if z = 0 then f_X2_kindNamed_l2 T 199 (nI 1) else some (nI 0) := st 0 (by decide) 199
  have z1 := st 1 (by decide) 198
  have z2 := st 2 (by decide) 197
  have z3 := st 3 (by decide) 196
  have z4 := st 4 (by decide) 195
  have z5 := st 5 (by decide) 194
  have z6 := en 193
  unfold f_X4_kindHere
  rw [ew, bds, z0]
  rcases hw 0 (by decide) 8033908 (by decide +kernel) with ⟨a1, a2⟩ | ⟨a1, a2⟩
  · exact Or.inl ⟨0, by decide, by rw [a1, bds, if_neg i1n], by rw [if_pos a2]; rfl⟩
  rw [a1, bds, if_pos rfl, if_neg a2, z1]
  rcases hw 1 (by decide) 15748 (by decide +kernel) with ⟨a1, a2⟩ | ⟨a1, a2⟩
  · exact Or.inl ⟨1, by decide, by rw [a1, bds, if_neg i1n], by rw [if_pos a2]; rfl⟩
  rw [a1, bds, if_pos rfl, if_neg a2, z2]
  rcases hw 2 (by decide) 672541874 (by decide +kernel) with ⟨a1, a2⟩ | ⟨a1, a2⟩
  · exact Or.inl ⟨2, by decide, by rw [a1, bds, if_neg i1n], by rw [if_pos a2]; rfl⟩
  rw [a1, bds, if_pos rfl, if_neg a2, z3]
  rcases hw 3 (by decide) 136230 (by decide +kernel) with ⟨a1, a2⟩ | ⟨a1, a2⟩
  · exact Or.inl ⟨3, by decide, by rw [a1, bds, if_neg i1n], by rw [if_pos a2]; rfl⟩
  rw [a1, bds, if_pos rfl, if_neg a2, z4]
  rcases hw 4 (by decide) 18519214 (by decide +kernel) with ⟨a1, a2⟩ | ⟨a1, a2⟩
  · exact Or.inl ⟨4, by decide, by rw [a1, bds, if_neg i1n], by rw [if_pos a2]; rfl⟩
  rw [a1, bds, if_pos rfl, if_neg a2, z5]
  rcases hw 5 (by decide) 20809171122 (by decide +kernel) with ⟨a1, a2⟩ | ⟨a1, a2⟩
  · exact Or.inl ⟨5, by decide, by rw [a1, bds, if_neg i1n], by rw [if_pos a2]; rfl⟩
  rw [a1, bds, if_pos rfl, if_neg a2, z6]
  exact Or.inr ⟨rfl, rfl⟩
theorem ItN.ckb {B : Nat → Nat} {len e n : Nat} {T M : StT} {a : Option (Int32 × (StT × StT))} {b : Option StT} (h : ItN B len e n T M a b) : ItN B len e n T M (Option.bind a fun z => ckb z.1 (some (z.1, z.2))) (Option.bind b fun z => some z) := by
  rcases h with ⟨T2, R2, M2, f2, t2, h1, h2, h3⟩ | ⟨T2, R2, M2, h1, h2, h3⟩
  · rw [h1, h2, bds, bds, ckb1]
    exact Or.inl ⟨T2, R2, M2, f2, t2, rfl, rfl, h3⟩
  · rw [h1, h2, bds, bds, ckb0]
    exact Or.inr ⟨T2, R2, M2, rfl, rfl, h3⟩
theorem ItN.iff {B : Nat → Nat} {len e n : Nat} {T M : StT} {a : Option (Int32 × (StT × StT))} {b : Option StT} (h : ItN B len e n T M a b) : ItN B len e n T M (Option.bind a fun z => if z.1 = 0 then some ((0 : Int32), z.2) else some ((1 : Int32), z.2)) b := by
  rcases h with ⟨T2, R2, M2, f2, t2, h1, h2, h3⟩ | ⟨T2, R2, M2, h1, h2, h3⟩
  · rw [h1, bds, if_neg i1n]
    exact Or.inl ⟨T2, R2, M2, f2, t2, rfl, h2, h3⟩
  · rw [h1, bds, if_pos rfl]
    exact Or.inr ⟨T2, R2, M2, rfl, h2, h3⟩
theorem item_ok {B : Nat → Nat} {len e f t n : Nat} {T R M : StT} (o : OKs B len e T M f t) (i : RI n R) (r : RE n R (M.1 0)) : ∃ n2, ItN B len e n2 T M (f_X2_takesItem (T, R)) (f_X4_item M) := by
  have hn := i.1
  obtain ⟨w, ew, hw⟩ := o.word
  unfold f_X2_takesItem f_X4_item
  rcases kinds_ok o with ⟨k, hk, a1, a2⟩ | ⟨a1, a2⟩
  · have ik : f_X3_isKind (nI k) = some 1 := by rw [X3_isKind_eq, b2i_1 ⟨nI_p0 (by omega), (nI_lei (b := 5) (by omega) (by omega)).mpr (by omega)⟩]
    obtain ⟨n2, h⟩ := personItem_ok o i r hk
    refine ⟨n2, ?_⟩
    rw [a1, bds, ik, bds, if_neg i1n, a2, bds, ew, bds, if_neg (nI_n0 (by omega))]
    exact h.ckb
  · have ik : f_X3_isKind (-1) = some 0 := by rw [X3_isKind_eq, b2i_0 (by decide)]
    refine ⟨n, ?_⟩
    rw [a1, bds, ik, bds, if_pos rfl, a2, bds, ew, bds, if_pos m1_neg]
    rcases hw 9 (by decide) 3409202 (by decide +kernel) with ⟨b1, b2⟩ | ⟨b1, b2⟩
    · rw [b1, bds, if_neg i1n, if_pos b2]
      exact (chairItem_ok o i r).ckb
    · rw [b1, bds, if_pos rfl, if_neg b2]
      rcases hw 12 (by decide) 18959911084 (by decide +kernel) with ⟨c1, c2⟩ | ⟨c1, c2⟩
      · have h := (twoItem_ok o i r true).ckb
        rw [if_pos rfl, bsm] at h
        unfold f_X4_item_b50 f_X4_item_b66
        rw [c1, bds, if_neg i1n, if_pos c2, if_neg i1n]
        exact h
      · unfold f_X4_item_b50 f_X4_item_b66
        rw [c1, bds, if_pos rfl, if_neg c2, if_pos rfl]
        rcases hw 13 (by decide) 16942181 (by decide +kernel) with ⟨d1, d2⟩ | ⟨d1, d2⟩
        · have h := (twoItem_ok o i r false).iff
          rw [if_neg (by decide)] at h
          rw [d1, bds, if_neg i1n, if_pos d2]
          exact h
        · rw [d1, bds, if_pos rfl, if_neg d2, b71_f hn o.2.2.2 r.1]
          exact Or.inr ⟨T, R, _, rfl, rfl, o.wrong, FB.m7 T M 1⟩
