-- the text: one more comes in
theorem peekG {B : Nat → Nat} {len e f t m : Nat} {T M : StT} (o : OKs B len e T M f t) (hm : m ≤ 99) :
    (∃ v, v ≤ m ∧ f_X2_isNumber T (nI m) = some 1 ∧ T.2.2 5 = nI v ∧ f_X4_peeked M = some (nI v)) ∨
    (f_X2_isNumber T (nI m) = some 0 ∧ ∃ x, f_X4_peeked M = some x ∧ ¬ (0 ≤ x ∧ x ≤ nI m)) := by
  obtain ⟨bt, k, he, e7⟩ := id o
  rw [X2_isNumber_eq k (show m ≤ 999 by omega)]
  rcases X4_peeked_eq bt k e7 with ⟨n1, n2, n3⟩ | ⟨n1, x, n3, n4⟩
  · by_cases z : nvB B f (t - f) ≤ m
    · exact Or.inl ⟨_, z, by rw [b2i_1 ⟨n1, z⟩], k.num n1 (by omega), n3⟩
    · exact Or.inr ⟨by rw [b2i_0 (fun q => z q.2)], _, n3, fun q => z ((nI_lei (by omega) (by omega)).mp q.2)⟩
  · refine Or.inr ⟨by rw [b2i_0 (fun q => n1 ⟨q.1, by omega⟩)], x, n3, fun q => ?_⟩
    rcases n4 with y | ⟨y, y1, y2, y3⟩
    · rw [y] at q; exact absurd q.1 (by decide)
    · rw [y3] at q
      have := (nI_lei (by omega) (by omega)).mp q.2
      omega
def inG (x3 : Int32) (st : StT × StT) : Option (Int32 × (StT × StT)) := Option.bind (f_X2_isWord 8 st.1) fun z8 => if z8 = 0 then (some ((1 : Int32), st)) else (Option.bind (f_X2_step st.1) fun z9 => nm (z9, st.2) fun w10 => Option.bind (f_X2_isNumber w10.1 (7 : Int32)) fun z11 => if z11 = 0 then (some ((0 : Int32), w10)) else (ck (w10.1.2.2 5) 8 (if (w10.2.1 2 (Int32.toNatClampNeg (w10.1.2.2 5))) = (-1 : Int32) then (Option.bind (f_X0_seat w10.2 x3 (w10.1.2.2 5)) fun z12 => nm (w10.1, z12) fun w13 => Option.bind (f_X2_step w13.1) fun z14 => nm (z14, w13.2) fun w15 => some ((1 : Int32), w15)) else (some ((0 : Int32), w10)))))
def inH (x6 : Int32) (z10 : StT) : Option StT := Option.bind (f_X4_word z10) fun z11 => if (lg_cmp z11 (302 : Int64)) = 0 then (Option.bind (f_X4_must z10 (1 : Int32)) fun z12 => Option.bind (f_X4_peeked z12) fun z13 => Option.bind (f_X4_isChair z13) fun z14 => if z14 = 0 then (f_X4_personItem_b111 x6 z13 z12) else (Option.bind (f_X4_whoIn z12 z13) fun z26 => if z26 = (-1 : Int32) then (f_X4_personItem_b112 x6 z13 (1 : Int32) z12) else (f_X4_personItem_b111 x6 z13 z12))) else (some z10)
theorem tPer (st : StT × StT) (a2 : Int32) : f_X2_takesPerson st a2 = if (st.2.2.2 0) < (8 : Int32) then (Option.bind (f_X0_enter st.2 a2) fun z1 => Option.bind (f_X2_step st.1) fun z4 => Option.bind (tpG 6 4 (z4, z1.2) z1.1 (99 : Int32)) fun z6 => if z6.1 = 0 then (some ((0 : Int32), z6.2)) else (Option.bind (tpG 7 5 z6.2 z1.1 (7 : Int32)) fun z7 => if z7.1 = 0 then (some ((0 : Int32), z7.2)) else inG z1.1 z7.2)) else (some ((0 : Int32), st)) := rfl
theorem pIt (x1 x2 : Int32) (w3 : StT) : f_X4_personItem_b17 x1 x2 w3 = Option.bind (f_X4_must w3 x2) fun z4 => if (z4.2.2 7) = 0 then (Option.bind (f_X4_adds z4 x1) fun z5 => Option.bind (f_X4_spotOf z5.1 (1 : Int32)) fun z7 => Option.bind (f_X4_partItem z5.2 (26379859 : Int64) z7 (99 : Int32)) fun z8 => Option.bind (f_X4_spotOf z5.1 (2 : Int32)) fun z9 => Option.bind (f_X4_partItem z8 (113288627 : Int64) z9 (7 : Int32)) fun z10 => if (z10.2.2 7) = 0 then inH z5.1 z10 else (some z10)) else (some z4) := rfl
theorem b111_f {B : Nat → Nat} {len e f t p : Nat} {T M : StT} (o : OKs B len e T M f t) (hp : p < 8) (x : Int32) : ∃ M2, f_X4_personItem_b111 (nI p) x M = some M2 ∧ FLs B len T M2 ∧ FB T M T M2 := by
  unfold f_X4_personItem_b111 f_X4_personItem_b112
  have e5 : f_X4_spotOf (nI p) 5 = some (nI (18 + 6 * p + 5)) := by rw [li 5, spotOf_eq]
  rw [must_0 o.2.2.2, bds, e5, bds, setF_s, if_neg i1n, cki (show 18 + 6 * p + 5 < 66 by omega) (by decide)]
  simp only [nm]
  exact ⟨_, rfl, o.wrong.row _, (FB.m7 T M 1).tr (FB.m0 _ _ _)⟩
theorem inPart_ok {B : Nat → Nat} {len e f t n p : Nat} {T R M : StT} (o : OKs B len e T M f t) (i : RI n R) (r : RE n R (M.1 0)) (hp : p < n) : ItN B len e n T M (inG (nI p) (T, R)) (inH (nI p) M) := by
  have hn := i.1
  obtain ⟨wd, ew, hwd⟩ := o.word
  unfold inG inH
  rw [ew, bds]
  rcases hwd 8 (by decide) 302 (by decide +kernel) with ⟨a1, a2⟩ | ⟨a1, a2⟩
  · obtain ⟨T1, M1, f1, t1, s1, s2, o1, ft1, fm1⟩ := o.step
    obtain ⟨bt1, k1, he1, e71⟩ := id o1
    have hf1 : f ≤ t := o.2.1.1
    have hef : e ≤ f := o.2.2.1
    have fb1 := FB.mk2 ft1 fm1
    have r1 : RE n R (M1.1 0) := by rw [fm1.1]; exact r
    simp only [a1, bds, nm]
    rw [if_neg i1n, if_pos a2, s1, bds, must_1 o.2.2.2, s2, bds]
    rcases peekG (m := 7) o1 (by omega) with ⟨v, hv, q1, q2, q3⟩ | ⟨q1, x, q3, q4⟩
    · have q1 : f_X2_isNumber T1 7 = some 1 := q1
      have hv8 : v < 8 := by omega
      have ic : f_X4_isChair (nI v) = some 1 := by rw [X4_isChair_eq, b2i_1 ⟨nI_p0 (by omega), (nI_lei (b := 7) (by omega) (by omega)).mpr hv⟩]
      rw [q1, bds, if_neg i1n, q2, q3, bds, ic, bds, if_neg i1n, cki hv8 (by decide), cln (by omega), X4_whoIn_eq i r1 hv8, bds]
      by_cases z : R.1 2 v = -1
      · obtain ⟨T3, M3, f3, t3, s3, s4, o3, ft3, fm3⟩ := o1.step
        have r3 : RE n R (M3.1 0) := by rw [fm3.1]; exact r1
        have e5 : f_X4_spotOf (nI p) 5 = some (nI (18 + 6 * p + 5)) := by rw [li 5, spotOf_eq]
        rw [if_pos z, if_pos z, X0_seat_eq i hp (Or.inr ⟨v, hv8, rfl⟩), bds, s3, bds]
        unfold f_X4_personItem_b112
        rw [must_1 e71, s4, bds, e5, bds, o3.2.2.2, if_pos rfl, cki (show 18 + 6 * p + 5 < 66 by omega) (by decide), cln (by omega)]
        simp only [nm]
        refine Or.inl ⟨T3, _, _, f3, t3, rfl, rfl, (o3.wk (show e ≤ t1 by have := k1.1; omega)).row _, i.seat hp hv8 (Or.inl z), ?_, (fb1.tr (FB.mk2 ft3 fm3)).tr (FB.m0 _ _ _)⟩
        rw [setA_s]
        exact r3.seat hn hp (nI v)
      · obtain ⟨M3, b1, b2, b3⟩ := b111_f o1 (show p < 8 by omega) (nI v)
        rw [if_neg z, if_neg z, b1]
        exact Or.inr ⟨T1, R, M3, rfl, rfl, b2, fb1.tr b3⟩
    · have q1 : f_X2_isNumber T1 7 = some 0 := q1
      have q4 : ¬ (0 ≤ x ∧ x ≤ 7) := q4
      have ic : f_X4_isChair x = some 0 := by rw [X4_isChair_eq, b2i_0 q4]
      obtain ⟨M3, b1, b2, b3⟩ := b111_f o1 (show p < 8 by omega) x
      rw [q1, bds, if_pos rfl, q3, bds, ic, bds, if_pos rfl, b1]
      exact Or.inr ⟨T1, R, M3, rfl, rfl, b2, fb1.tr b3⟩
  · rw [a1, bds, if_pos rfl, if_neg a2]
    exact Or.inl ⟨T, R, M, f, t, rfl, rfl, o, i, r, FB.rf T M⟩
theorem personItem_ok {B : Nat → Nat} {len e f t n k : Nat} {T R M : StT} (o : OKs B len e T M f t) (i : RI n R) (r : RE n R (M.1 0)) (hk : k < 6) : ∃ n2, ItN B len e n2 T M (f_X2_takesPerson (T, R) (nI k)) (f_X4_personItem M (nI k)) := by
  have hn := i.1
  unfold f_X4_personItem
  rw [tPer, ck0, cl0, r.1, pIt, pIt]
  show ∃ n2, ItN B len e n2 T M (if R.2.2 0 < 8 then _ else _) _
  rw [i.2.1]
  by_cases h8 : n < 8
  · have c8 : ¬ 8 ≤ nI n := fun q => by have := (nI_lei (a := 8) (by omega) (by omega)).mp q; omega
    obtain ⟨T1, M1, f1, t1, s1, s2, o1, ft1, fm1⟩ := o.step
    obtain ⟨bt1, k1, he1, e71⟩ := id o1
    have hf1 : f ≤ t := o.2.1.1
    have hef : e ≤ f := o.2.2.1
    have fb1 := FB.mk2 ft1 fm1
    have r1 : RE n R (M1.1 0) := by rw [fm1.1]; exact r
    obtain ⟨i2, r2⟩ := enter_ok i r1 h8 hk
    have y1 : f_X4_spotOf (nI n) 1 = some (nI (18 + 6 * n + 1)) := by rw [li 1, spotOf_eq]
    have y2 : f_X4_spotOf (nI n) 2 = some (nI (18 + 6 * n + 2)) := by rw [li 2, spotOf_eq]
    rw [if_pos (show nI n < 8 from (nI_lti (b := 8) (by omega) (by omega)).mpr h8), if_neg c8, X0_enter_eq i h8, bds, s1, bds, must_1 o.2.2.2, s2, bds, e71, if_pos rfl, X4_adds_eq r1 h8, bds]
    generalize hR : setA (setF R 0 (nI (n + 1))) 3 (upd (R.1 3) n (nI k)) = R1 at i2 r2 ⊢
    generalize hs : (upd (upd (upd (upd (upd (upd (upd (M1.1 0) (18 + 6 * n) (nI k)) (18 + 6 * n + 1) 0) (18 + 6 * n + 2) (-1)) (18 + 6 * n + 3) 0) (18 + 6 * n + 4) 0) (18 + 6 * n + 5) (-1)) 0 (nI (n + 1))) = s at r2 ⊢
    have o2 := (o1.wk (show e ≤ t by omega)).row s
    have r2 : RE (n + 1) R1 ((setA M1 0 s).1 0) := by rw [setA_s]; exact r2
    have fb2 := fb1.tr (FB.m0 T1 M1 s)
    generalize setA M1 0 s = M2 at o2 r2 fb2 ⊢
    refine ⟨n + 1, ?_⟩
    have p1 := perhI (w := 6) (k := 4) (c := 26379859) (x := n) (spot := 18 + 6 * n + 1) (most := 99) o2 (by decide) (by decide +kernel) h8 (by omega) (by omega) i2 r2 (fun u hu => ⟨i2.age (by omega) hu, r2.pers (by omega) (by omega) (w := 1) (by decide) (nI u)⟩)
    show ItN B len e (n + 1) T M (Option.bind (tpG 6 4 (T1, R1) (nI n) (nI 99)) _) (Option.bind (f_X4_spotOf (nI n) 1) _)
    rw [y1, bds]
    show ItN B len e (n + 1) T M (Option.bind (tpG 6 4 (T1, R1) (nI n) (nI 99)) _) (Option.bind (f_X4_partItem M2 26379859 (nI (18 + 6 * n + 1)) (nI 99)) _)
    rcases p1 with ⟨T4, R4, M4, f4, t4, a1, a2, o4, i4, r4, fb4⟩ | ⟨T4, R4, M4, a1, a2, l4, fb4⟩
    · have p2 := perhI (w := 7) (k := 5) (c := 113288627) (x := n) (spot := 18 + 6 * n + 2) (most := 7) o4 (by decide) (by decide +kernel) h8 (by omega) (by omega) i4 r4 (fun u hu => ⟨i4.claim (by omega) (Or.inr ⟨u, by omega, rfl⟩), r4.pers (by omega) (by omega) (w := 2) (by decide) (nI u)⟩)
      rw [a1, bds, a2, bds, if_neg i1n]
      show ItN B len e (n + 1) T M (Option.bind (tpG 7 5 (T4, R4) (nI n) (nI 7)) _) (Option.bind (f_X4_spotOf (nI n) 2) _)
      rw [y2, bds]
      show ItN B len e (n + 1) T M (Option.bind (tpG 7 5 (T4, R4) (nI n) (nI 7)) _) (Option.bind (f_X4_partItem M4 113288627 (nI (18 + 6 * n + 2)) (nI 7)) _)
      rcases p2 with ⟨T5, R5, M5, f5, t5, b1, b2, o5, i5, r5, fb5⟩ | ⟨T5, R5, M5, b1, b2, l5, fb5⟩
      · rw [b1, bds, b2, bds, if_neg i1n, o5.2.2.2, if_pos rfl]
        rcases inPart_ok o5 i5 r5 (show n < n + 1 by omega) with ⟨T6, R6, M6, f6, t6, c1, c2, o6, i6, r6, fb6⟩ | ⟨T6, R6, M6, c1, c2, l6, fb6⟩
        · exact Or.inl ⟨T6, R6, M6, f6, t6, c1, c2, o6, i6, r6, ((fb2.tr fb4).tr fb5).tr fb6⟩
        · exact Or.inr ⟨T6, R6, M6, c1, c2, l6, ((fb2.tr fb4).tr fb5).tr fb6⟩
      · rw [b1, bds, b2, bds, if_pos rfl, l5.w, if_neg i1n]
        exact Or.inr ⟨T5, R5, M5, rfl, rfl, l5, (fb2.tr fb4).tr fb5⟩
    · rw [a1, bds, a2, bds, if_pos rfl]
      show ItN B len e (n + 1) T M _ (Option.bind (f_X4_spotOf (nI n) 2) _)
      rw [y2, bds, part_fl l4 (w := 7) (by decide) (by decide +kernel), bds, l4.w, if_neg i1n]
      exact Or.inr ⟨T4, R4, M4, rfl, rfl, l4, fb2.tr fb4⟩
  · have e8 : n = 8 := by omega
    refine ⟨n, ?_⟩
    rw [if_neg (show ¬ nI n < 8 from fun q => h8 ((nI_lti (b := 8) (by omega) (by omega)).mp q)), if_pos (show 8 ≤ nI n by rw [e8]; decide), must_0 o.2.2.2, bds, setF_s, if_neg i1n]
    exact Or.inr ⟨T, R, _, rfl, rfl, o.wrong, FB.m7 T M 1⟩
