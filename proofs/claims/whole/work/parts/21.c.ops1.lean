-- the calls, one by one: chairs and people
theorem X4_becomes_eq (M : StT) {j : Nat} (hj : j < 66) (v : Int32) : f_X4_becomes M (nI j) v = some (M.1 0 j, setA M 0 (upd (M.1 0) j v)) := by
  unfold f_X4_becomes
  simp only [nm, cki hj (by decide : 66 < 2147483648), cln (show j < 2147483648 by omega)]
theorem gset_tw (G : Nat → StT) (k : Nat) (a b : StT) : gset (gset G k a) k b = gset G k b := by
  funext j; unfold gset; by_cases h : j = k <;> simp [h]
theorem gset_id (G : Nat → StT) (k : Nat) : gset G k (G k) = G := by
  funext j; unfold gset
  by_cases h : j = k
  · subst h; simp
  · simp [h]
theorem sim_chair {G : Nat → StT} {M : StT} (h : Rel G M) (a1 a2 a3 : Int32) : SimR (f_X3_chair G a1 a2 a3) (f_X4_chair M a1 a2 a3) := by
  have F := sfnd h 0 (by decide) (a := 0) (b := -1000000001) rfl (by decide)
  obtain ⟨⟨n, i, e⟩, -⟩ := id h
  have b38n : ∀ _ : Unit, f_X4_chair_b38 a1 a2 a3 0 M = Option.bind (f_X4_finds M (-1000000001)) fun z => some (z.1, z.2) := by
    intro _
    unfold f_X4_chair_b38
    rcases chr a1 with ⟨-, c2⟩ | ⟨j, hj, e1, -, c2⟩
    · rw [c2, bds, if_pos rfl]
    · rw [c2, bds, if_neg i1n, if_pos rfl]
  have b38f : ∀ x, f_X4_isChair a1 = some 0 → f_X4_chair_b38 a1 a2 a3 x M = Option.bind (f_X4_finds M (-1000000001)) fun z => some (z.1, z.2) := by
    intro x c2
    unfold f_X4_chair_b38
    rw [c2, bds, if_pos rfl]
  unfold f_X3_chair f_X4_chair
  rcases chr a1 with ⟨c1, c2⟩ | ⟨j, hj, e1, c1, c2⟩
  · rw [c1, bds, if_pos rfl]
    by_cases h0 : a2 = 0
    · rw [if_pos h0, X4_in_eq, bds, b38f _ c2]; exact F
    · rw [if_neg h0]
      by_cases h1 : a2 = 1
      · rw [if_pos h1, X4_in_eq, bds]
        unfold f_X4_chair_b37
        rw [b38f _ c2, b38f _ c2, ite_self]; exact F
      · rw [if_neg h1]
        unfold f_X4_chair_b37
        rw [b38f _ c2]; exact F
  · rw [c1, bds, if_neg i1n, isWithin_eq, bds]
    by_cases h0 : a2 = 0
    · subst h0
      rw [b2i_1 (show (0 : Int32) ≤ 0 ∧ (0 : Int32) ≤ 1 by decide), if_neg i1n, if_pos rfl, if_pos rfl]
      unfold f_X3_chair_b43v1 f_X3_chair_b58v1
      have ein : f_X4_in a3.toInt64 (0 : Int64) (20 : Int64) = some (b2i (0 ≤ a3 ∧ a3 ≤ 20)) := X4_inI a3 0 20
      rw [if_pos rfl, isWithin_eq, bds, ein, bds]
      by_cases c : 0 ≤ a3 ∧ a3 ≤ 20
      · rw [b2i_1 c, if_neg i1n]
        obtain ⟨v, hv, ev⟩ := of_rng (n := 20) c.1 c.2 (by omega)
        unfold f_X4_chair_b38
        subst e1; subst ev
        have ec : f_X4_chairAt (nI j) 0 = some (nI (2 + 2 * j)) := by rw [li 0, chairAt_eq, Nat.add_zero]
        rw [c2, bds, if_neg i1n, if_neg i1n, ec, bds, X4_becomes_eq M (by omega), bds]
        simp only [nm, cki hj (by decide : 8 < 2147483648), cln (show j < 2147483648 by omega)]
        refine ⟨_, _, _, rfl, ?_, h.room (i.view hv) (e.chair i.1 hj (w := 0) (by decide) (nI v))⟩
        rw [(e.2.2.1 j hj).1, Nat.add_zero]
      · rw [b2i_0 c, if_pos rfl, b38n ()]; exact F
    · rw [if_neg h0]
      by_cases h1 : a2 = 1
      · subst h1
        rw [b2i_1 (show (0 : Int32) ≤ 1 ∧ (1 : Int32) ≤ 1 by decide), if_neg i1n, if_neg i1n, if_pos rfl]
        unfold f_X3_chair_b43 f_X3_chair_b58
        have ein : f_X4_in a3.toInt64 (0 : Int64) (9 : Int64) = some (b2i (0 ≤ a3 ∧ a3 ≤ 9)) := X4_inI a3 0 9
        rw [if_neg i1n, isWithin_eq, bds, ein, bds]
        by_cases c : 0 ≤ a3 ∧ a3 ≤ 9
        · rw [b2i_1 c, if_neg i1n, if_neg i1n]
          obtain ⟨v, hv, ev⟩ := of_rng (n := 9) c.1 c.2 (by omega)
          unfold f_X4_chair_b38
          subst e1; subst ev
          have ec : f_X4_chairAt (nI j) 1 = some (nI (2 + 2 * j + 1)) := by rw [li 1, chairAt_eq]
          rw [c2, bds, if_neg i1n, if_neg i1n, ec, bds, X4_becomes_eq M (by omega), bds]
          simp only [nm, cki hj (by decide : 8 < 2147483648), cln (show j < 2147483648 by omega)]
          refine ⟨_, _, _, rfl, ?_, h.room (i.draught hv) (e.chair i.1 hj (w := 1) (by decide) (nI v))⟩
          rw [(e.2.2.1 j hj).2]
        · rw [b2i_0 c, if_pos rfl, if_pos rfl]
          unfold f_X4_chair_b37
          rw [b38n ()]; exact F
      · rw [if_neg h1]
        have c : ¬ (0 ≤ a2 ∧ a2 ≤ 1) := by
          intro z
          obtain ⟨q, hq, eq⟩ := of_rng (n := 1) z.1 z.2 (by omega)
          match q, hq with
          | 0, _ => exact h0 eq
          | 1, _ => exact h1 eq
        unfold f_X4_chair_b37
        rw [b2i_0 c, if_pos rfl, if_neg h0, b38n ()]; exact F
theorem sim_chairOf {G : Nat → StT} {M : StT} (h : Rel G M) (a1 a2 : Int32) : SimR (f_X3_chairOf G a1 a2) (f_X4_chairOf M a1 a2) := by
  have F := sfnd h 0 (by decide) (a := 0) (b := -1000000001) rfl (by decide)
  obtain ⟨⟨n, i, e⟩, -⟩ := id h
  unfold f_X3_chairOf f_X4_chairOf
  rcases chr a1 with ⟨c1, c2⟩ | ⟨j, hj, e1, c1, c2⟩
  · rw [c1, c2, bds, bds, if_pos rfl, if_pos rfl]; exact F
  · subst e1
    have ein : f_X4_in a2.toInt64 (0 : Int64) (2 : Int64) = some (b2i (0 ≤ a2 ∧ a2 ≤ 2)) := X4_inI a2 0 2
    rw [c1, c2, bds, bds, if_neg i1n, if_neg i1n, ein, bds]
    simp only [cki hj (by decide : 8 < 2147483648), cln (show j < 2147483648 by omega)]
    by_cases h0 : a2 = 0
    · subst h0
      have ec : f_X4_chairAt (nI j) 0 = some (nI (2 + 2 * j)) := by rw [li 0, chairAt_eq, Nat.add_zero]
      rw [if_pos rfl, b2i_1 (by decide), if_neg i1n, if_neg (by decide), ec, bds, cki (show 2 + 2 * j < 66 by omega) (by decide), cln (by omega), (e.2.2.1 j hj).1]
      exact ⟨_, G, M, rfl, rfl, h⟩
    · rw [if_neg h0]
      by_cases h1 : a2 = 1
      · subst h1
        have ec : f_X4_chairAt (nI j) 1 = some (nI (2 + 2 * j + 1)) := by rw [li 1, chairAt_eq]
        rw [if_pos rfl, b2i_1 (by decide), if_neg i1n, if_neg (by decide), ec, bds, cki (show 2 + 2 * j + 1 < 66 by omega) (by decide), cln (by omega), (e.2.2.1 j hj).2]
        exact ⟨_, G, M, rfl, rfl, h⟩
      · rw [if_neg h1]
        by_cases h2 : a2 = 2
        · subst h2
          rw [if_pos rfl, b2i_1 (by decide), if_neg i1n, if_pos rfl, X4_whoIn_eq i e hj, bds]
          exact ⟨_, G, M, rfl, rfl, h⟩
        · rw [if_neg h2]
          have c : ¬ (0 ≤ a2 ∧ a2 ≤ 2) := by
            intro z
            obtain ⟨q, hq, eq⟩ := of_rng (n := 2) z.1 z.2 (by omega)
            match q, hq with
            | 0, _ => exact h0 eq
            | 1, _ => exact h1 eq
            | 2, _ => exact h2 eq
          rw [b2i_0 c, if_pos rfl]; exact F
/-- one more comes in -/
theorem enter_ok {n : Nat} {R : StT} {s : Nat → Int32} (i : RI n R) (e : RE n R s) (hn : n < 8) {k : Nat} (hk : k < 6) : RI (n + 1) (setA (setF R 0 (nI (n + 1))) 3 (upd (R.1 3) n (nI k))) ∧
    RE (n + 1) (setA (setF R 0 (nI (n + 1))) 3 (upd (R.1 3) n (nI k))) (upd (upd (upd (upd (upd (upd (upd s (18 + 6 * n) (nI k)) (18 + 6 * n + 1) 0) (18 + 6 * n + 2) (-1)) (18 + 6 * n + 3) 0) (18 + 6 * n + 4) 0) (18 + 6 * n + 5) (-1)) 0 (nI (n + 1))) := by
  obtain ⟨a1, a2, a3, a4, a5, a6, a7⟩ := i
  have d := a5 n (Nat.le_refl n) hn
  constructor
  · refine ⟨by omega, ?_, a3, fun p hp => ?_, fun p hp hp8 => a5 p (by omega) hp8, fun c hc => ⟨?_, fun p hp => ?_⟩, a7⟩
    · show (setF R 0 (nI (n + 1))).2.2 0 = _
      rw [setF_s]
    · rw [setA_s, upd_i]
      by_cases z : p = n
      · rw [if_pos z, z]
        refine ⟨⟨k, hk, rfl⟩, ⟨0, by omega, d.1⟩, Or.inl d.2.1, ⟨0, by omega, d.2.2.1⟩, Or.inl d.2.2.2.2⟩
      · rw [if_neg z]; exact a4 p (by omega)
    · exact (a6 c hc).1.imp id (fun ⟨p, hp, q⟩ => ⟨p, by omega, q⟩)
    · by_cases z : p = n
      · subst z
        show R.1 2 c = nI p ↔ R.1 8 p = nI c
        rw [d.2.2.2.2]
        constructor
        · intro q
          rcases (a6 c hc).1 with y | ⟨r, hr, y⟩
          · rw [y] at q; exact absurd q.symm (nI_m1 (by omega))
          · rw [y] at q; exact absurd ((nI_inj (by omega) (by omega)).mp q) (by omega)
        · intro q; exact absurd q.symm (nI_m1 (by omega))
      · exact (a6 c hc).2 p (by omega)
  · refine RE.mk (by rw [upd_s]) ?_ (fun c w hc hw => ?_) (fun p w hp hw => ?_)
    · rw [upd_o _ _ (by omega), upd_o _ _ (by omega), upd_o _ _ (by omega), upd_o _ _ (by omega), upd_o _ _ (by omega), upd_o _ _ (by omega), upd_o _ _ (by omega)]
      show _ = (setF R 0 (nI (n + 1))).2.2 1
      rw [setF_o _ _ (by decide)]; exact e.2.1
    · rw [upd_o _ _ (by omega), upd_o _ _ (by omega), upd_o _ _ (by omega), upd_o _ _ (by omega), upd_o _ _ (by omega), upd_o _ _ (by omega), upd_o _ _ (by omega), setA_o _ _ (by omega)]
      exact e.c hc hw
    · rw [upd_o _ _ (by omega)]
      by_cases z : p = n
      · subst z
        match w, hw with
        | 0, _ => rw [upd_o _ _ (by omega), upd_o _ _ (by omega), upd_o _ _ (by omega), upd_o _ _ (by omega), upd_o _ _ (by omega), Nat.add_zero, upd_s, Nat.add_zero, setA_s, upd_s]
        | 1, _ => rw [upd_o _ _ (by omega), upd_o _ _ (by omega), upd_o _ _ (by omega), upd_o _ _ (by omega), upd_s, setA_o _ _ (by decide)]; exact d.1.symm
        | 2, _ => rw [upd_o _ _ (by omega), upd_o _ _ (by omega), upd_o _ _ (by omega), upd_s, setA_o _ _ (by decide)]; exact d.2.1.symm
        | 3, _ => rw [upd_o _ _ (by omega), upd_o _ _ (by omega), upd_s, setA_o _ _ (by decide)]; exact d.2.2.1.symm
        | 4, _ => rw [upd_o _ _ (by omega), upd_s, setA_o _ _ (by decide)]; exact d.2.2.2.1.symm
        | 5, _ => rw [upd_s, setA_o _ _ (by decide)]; exact d.2.2.2.2.symm
      · rw [upd_o _ _ (by omega), upd_o _ _ (by omega), upd_o _ _ (by omega), upd_o _ _ (by omega), upd_o _ _ (by omega), upd_o _ _ (by omega), e.w (show p < n by omega) hw, setA_i]
        by_cases y : 3 + w = 3
        · rw [if_pos y, upd_o _ _ z, y]
        · rw [if_neg y]; rfl
theorem X0_enter_eq {n : Nat} {R : StT} (i : RI n R) (hn : n < 8) (x : Int32) : f_X0_enter R x = some (nI n, setA (setF R 0 (nI (n + 1))) 3 (upd (R.1 3) n x)) := by
  unfold f_X0_enter
  simp only [nm, i.2.1, nI_1, cki hn (by decide : 8 < 2147483648), cln (show n < 2147483648 by omega)]
  rfl
theorem X4_adds_eq {n : Nat} {R M : StT} (e : RE n R (M.1 0)) (hn : n < 8) (x : Int32) : f_X4_adds M x = some (nI n, setA M 0 (upd (upd (upd (upd (upd (upd (upd (M.1 0) (18 + 6 * n) x) (18 + 6 * n + 1) 0) (18 + 6 * n + 2) (-1)) (18 + 6 * n + 3) 0) (18 + 6 * n + 4) 0) (18 + 6 * n + 5) (-1)) 0 (nI (n + 1)))) := by
  have s0 : f_X4_spotOf (nI n) 0 = some (nI (18 + 6 * n)) := by rw [li 0, spotOf_eq, Nat.add_zero]
  have s1 : f_X4_spotOf (nI n) 1 = some (nI (18 + 6 * n + 1)) := by rw [li 1, spotOf_eq]
  have s2 : f_X4_spotOf (nI n) 2 = some (nI (18 + 6 * n + 2)) := by rw [li 2, spotOf_eq]
  have s3 : f_X4_spotOf (nI n) 3 = some (nI (18 + 6 * n + 3)) := by rw [li 3, spotOf_eq]
  have s4 : f_X4_spotOf (nI n) 4 = some (nI (18 + 6 * n + 4)) := by rw [li 4, spotOf_eq]
  have s5 : f_X4_spotOf (nI n) 5 = some (nI (18 + 6 * n + 5)) := by rw [li 5, spotOf_eq]
  unfold f_X4_adds
  simp only [nm, ck0, cl0, e.1, s0, s1, s2, s3, s4, s5, bds, setA_s, setA_tw,
    cki (show 18 + 6 * n < 66 by omega) (by decide : 66 < 2147483648), cki (show 18 + 6 * n + 1 < 66 by omega) (by decide : 66 < 2147483648), cki (show 18 + 6 * n + 2 < 66 by omega) (by decide : 66 < 2147483648), cki (show 18 + 6 * n + 3 < 66 by omega) (by decide : 66 < 2147483648), cki (show 18 + 6 * n + 4 < 66 by omega) (by decide : 66 < 2147483648), cki (show 18 + 6 * n + 5 < 66 by omega) (by decide : 66 < 2147483648),
    cln (show 18 + 6 * n < 2147483648 by omega), cln (show 18 + 6 * n + 1 < 2147483648 by omega), cln (show 18 + 6 * n + 2 < 2147483648 by omega), cln (show 18 + 6 * n + 3 < 2147483648 by omega), cln (show 18 + 6 * n + 4 < 2147483648 by omega), cln (show 18 + 6 * n + 5 < 2147483648 by omega),
    upd_o _ _ (show 0 ≠ 18 + 6 * n by omega), upd_o _ _ (show 0 ≠ 18 + 6 * n + 1 by omega), upd_o _ _ (show 0 ≠ 18 + 6 * n + 2 by omega), upd_o _ _ (show 0 ≠ 18 + 6 * n + 3 by omega), upd_o _ _ (show 0 ≠ 18 + 6 * n + 4 by omega), upd_o _ _ (show 0 ≠ 18 + 6 * n + 5 by omega), nI_1]
theorem knd (c : Int32) : (f_X3_isKind c = some 0 ∧ f_X4_isKind c = some 0) ∨ ∃ j, j < 6 ∧ c = nI j ∧ f_X3_isKind c = some 1 ∧ f_X4_isKind c = some 1 := by
  by_cases h : 0 ≤ c ∧ c ≤ 5
  · obtain ⟨j, hj, e⟩ := of_rng (n := 5) h.1 h.2 (by omega)
    exact Or.inr ⟨j, by omega, e, by rw [X3_isKind_eq, b2i_1 h], by rw [X4_isKind_eq, b2i_1 h]⟩
  · exact Or.inl ⟨by rw [X3_isKind_eq, b2i_0 h], by rw [X4_isKind_eq, b2i_0 h]⟩
theorem sim_person {G : Nat → StT} {M : StT} (h : Rel G M) (a1 : Int32) : SimR (f_X3_person G a1) (f_X4_person M a1) := by
  have F := sfnd h 0 (by decide) (a := 0) (b := -1000000001) rfl (by decide)
  have F1 := sfnd h 1 (by decide) (a := 1) (b := -1000000002) rfl (by decide)
  obtain ⟨⟨n, i, e⟩, -⟩ := id h
  have hn := i.1
  unfold f_X3_person f_X4_person
  rcases knd a1 with ⟨c1, c2⟩ | ⟨k, hk, e1, c1, c2⟩
  · rw [c1, c2, bds, bds, if_pos rfl, if_pos rfl]; exact F
  · subst e1
    rw [c1, c2, bds, bds, if_neg i1n, if_neg i1n, ck0, cl0, e.1, i.2.1]
    by_cases h8 : n < 8
    · rw [if_pos (show nI n < 8 from (nI_lti (b := 8) (by omega) (by omega)).mpr h8), if_neg (show ¬ nI n = 8 from fun q => by have := (nI_inj (b := 8) (by omega) (by omega)).mp q; omega), X0_enter_eq i h8, bds, X4_adds_eq e h8, bds]
      obtain ⟨i2, e2⟩ := enter_ok i e h8 hk
      exact ⟨_, _, _, rfl, rfl, h.room i2 e2⟩
    · have e8 : n = 8 := by omega
      rw [if_neg (show ¬ nI n < 8 from fun q => h8 ((nI_lti (b := 8) (by omega) (by omega)).mp q)), if_pos (show nI n = 8 by rw [e8]; rfl)]
      exact F1
theorem sim_of {G : Nat → StT} {M : StT} (h : Rel G M) (a1 a2 : Int32) : SimR (f_X3_of G a1 a2) (f_X4_of M a1 a2) := by
  have F := sfnd h 0 (by decide) (a := 0) (b := -1000000001) rfl (by decide)
  obtain ⟨⟨n, i, e⟩, -⟩ := id h
  have hn := i.1
  unfold f_X3_of f_X4_of
  rcases there i e a1 with ⟨c1, c2⟩ | ⟨p, hp, e1, c1, c2⟩
  · rw [c1, c2, bds, bds, if_pos rfl, if_pos rfl]; exact F
  · subst e1
    have ein : f_X4_in a2.toInt64 (0 : Int64) (6 : Int64) = some (b2i (0 ≤ a2 ∧ a2 ≤ 6)) := X4_inI a2 0 6
    rw [c1, c2, bds, bds, if_neg i1n, if_neg i1n, ein, bds]
    simp only [cki (show p < 8 by omega) (by decide : 8 < 2147483648), cln (show p < 2147483648 by omega)]
    by_cases c : 0 ≤ a2 ∧ a2 ≤ 6
    · obtain ⟨w, hw, ew⟩ := of_rng (n := 6) c.1 c.2 (by omega)
      subst ew
      rw [b2i_1 c, if_neg i1n]
      match w, hw with
      | 0, _ => rw [if_pos (by decide), if_neg (by decide), its_eq M (by omega) (by decide), bds, e.w hp (by decide)]; exact ⟨_, G, M, rfl, rfl, h⟩
      | 1, _ => rw [if_neg (by decide), if_pos (by decide), if_neg (by decide), its_eq M (by omega) (by decide), bds, e.w hp (by decide)]; exact ⟨_, G, M, rfl, rfl, h⟩
      | 2, _ => rw [if_neg (by decide), if_neg (by decide), if_pos (by decide), if_neg (by decide), its_eq M (by omega) (by decide), bds, e.w hp (by decide)]; exact ⟨_, G, M, rfl, rfl, h⟩
      | 3, _ => rw [if_neg (by decide), if_neg (by decide), if_neg (by decide), if_pos (by decide), if_neg (by decide), its_eq M (by omega) (by decide), bds, e.w hp (by decide)]; exact ⟨_, G, M, rfl, rfl, h⟩
      | 4, _ => rw [if_neg (by decide), if_neg (by decide), if_neg (by decide), if_neg (by decide), if_pos (by decide), if_neg (by decide), its_eq M (by omega) (by decide), bds, e.w hp (by decide)]; exact ⟨_, G, M, rfl, rfl, h⟩
      | 5, _ => rw [if_neg (by decide), if_neg (by decide), if_neg (by decide), if_neg (by decide), if_neg (by decide), if_pos (by decide), if_neg (by decide), its_eq M (by omega) (by decide), bds, e.w hp (by decide)]; exact ⟨_, G, M, rfl, rfl, h⟩
      | 6, _ => rw [if_neg (by decide), if_neg (by decide), if_neg (by decide), if_neg (by decide), if_neg (by decide), if_neg (by decide), if_pos (by decide), if_pos (by decide), X0_givesUp_eq _ (by omega), bds, X4_givesUp_eq e hn hp, bds]; exact ⟨_, G, M, rfl, rfl, h⟩
    · rw [b2i_0 c, if_pos rfl]
      have ne : ∀ k : Nat, k ≤ 6 → ¬ a2 = nI k := fun k hk z => c (by rw [z]; exact ⟨nI_p0 (by omega), (nI_lei (b := 6) (by omega) (by omega)).mpr hk⟩)
      rw [if_neg (show ¬ a2 = 0 from ne 0 (by omega)), if_neg (show ¬ a2 = 1 from ne 1 (by omega)), if_neg (show ¬ a2 = 2 from ne 2 (by omega)), if_neg (show ¬ a2 = 3 from ne 3 (by omega)), if_neg (show ¬ a2 = 4 from ne 4 (by omega)), if_neg (show ¬ a2 = 5 from ne 5 (by omega)), if_neg (show ¬ a2 = 6 from ne 6 (by omega))]
      exact F
theorem m17 {x : Int32} (h : -1 ≤ x ∧ x ≤ 7) : x = -1 ∨ ∃ c, c < 8 ∧ x = nI c := by
  by_cases z : x = -1
  · exact Or.inl z
  · have h0 : 0 ≤ x := by
      have h1 := h.1
      rw [ile] at h1 ⊢
      rw [ieq] at z
      have e1 : (-1 : Int32).toInt = -1 := by decide
      have e0 : (0 : Int32).toInt = 0 := rfl
      rw [e1] at h1 z
      rw [e0]
      omega
    obtain ⟨j, hj, e⟩ := r07 ⟨h0, h.2⟩
    exact Or.inr ⟨j, hj, e⟩
theorem sim_set {G : Nat → StT} {M : StT} (h : Rel G M) (a1 a2 a3 : Int32) : SimR (f_X3_set G a1 a2 a3) (f_X4_set M a1 a2 a3) := by
  have F := sfnd h 0 (by decide) (a := 0) (b := -1000000001) rfl (by decide)
  have F2 := F
  obtain ⟨r0, G0, M0, f1, f2, fr⟩ := F
  obtain ⟨⟨n, i, e⟩, -⟩ := id h
  have hn := i.1
  unfold f_X3_set f_X4_set f_X4_isPart
  rcases there i e a1 with ⟨c1, c2⟩ | ⟨p, hp, e1, c1, c2⟩
  · rw [c1, c2, bds, bds, if_pos rfl, if_pos rfl]; exact F2
  · subst e1
    rw [c1, c2, bds, bds, if_neg i1n, if_neg i1n]
    by_cases h1 : a2 = 1
    · subst h1
      have ein : f_X4_in a3.toInt64 (0 : Int64) (99 : Int64) = some (b2i (0 ≤ a3 ∧ a3 ≤ 99)) := X4_inI a3 0 99
      rw [if_pos rfl, if_pos rfl, ein, bds, ckb_b2i, bds]
      unfold f_X3_put_4
      rw [isWithin_eq, bds]
      by_cases c : 0 ≤ a3 ∧ a3 ≤ 99
      · obtain ⟨v, hv, ev⟩ := of_rng (n := 99) c.1 c.2 (by omega)
        subst ev
        have ec : f_X4_spotOf (nI p) 1 = some (nI (18 + 6 * p + 1)) := by rw [li 1, spotOf_eq]
        rw [b2i_1 c, if_neg i1n, if_neg i1n, ec, bds, X4_becomes_eq M (by omega), bds]
        simp only [nm, cki (show p < 8 by omega) (by decide : 8 < 2147483648), cln (show p < 2147483648 by omega), bds]
        refine ⟨_, _, _, rfl, ?_, h.room (i.age hp hv) (e.pers hn hp (w := 1) (by decide) (nI v))⟩
        rw [e.w hp (w := 1) (by decide)]
      · rw [b2i_0 c, if_pos rfl, if_pos rfl, f1, bds]
        exact ⟨r0, G0, M0, rfl, f2, fr⟩
    · rw [if_neg h1, if_neg h1]
      by_cases h2 : a2 = 2
      · subst h2
        have ein : f_X4_in a3.toInt64 (-1 : Int64) (7 : Int64) = some (b2i (-1 ≤ a3 ∧ a3 ≤ 7)) := X4_inI a3 (-1) 7
        rw [if_pos rfl, if_pos rfl, ein, bds, ckb_b2i, bds]
        unfold f_X3_put_5
        rw [isWithin_eq, bds]
        by_cases c : -1 ≤ a3 ∧ a3 ≤ 7
        · have ec : f_X4_spotOf (nI p) 2 = some (nI (18 + 6 * p + 2)) := by rw [li 2, spotOf_eq]
          rw [b2i_1 c, if_neg i1n, if_neg i1n, ec, bds, X4_becomes_eq M (by omega), bds]
          simp only [nm, cki (show p < 8 by omega) (by decide : 8 < 2147483648), cln (show p < 2147483648 by omega), bds]
          refine ⟨_, _, _, rfl, ?_, h.room (i.claim hp (m17 c)) (e.pers hn hp (w := 2) (by decide) a3)⟩
          rw [e.w hp (w := 2) (by decide)]
        · rw [b2i_0 c, if_pos rfl, if_pos rfl, f1, bds]
          exact ⟨r0, G0, M0, rfl, f2, fr⟩
      · rw [if_neg h2, if_neg h2]
        by_cases h4 : a2 = 4
        · subst h4
          have ein : f_X4_in a3.toInt64 (0 : Int64) (9999 : Int64) = some (b2i (0 ≤ a3 ∧ a3 ≤ 9999)) := X4_inI a3 0 9999
          rw [if_pos rfl, if_pos rfl, ein, bds]
          unfold f_X3_put_7
          rw [isWithin_eq, bds]
          by_cases c : 0 ≤ a3 ∧ a3 ≤ 9999
          · have ec : f_X4_spotOf (nI p) 4 = some (nI (18 + 6 * p + 4)) := by rw [li 4, spotOf_eq]
            rw [b2i_1 c, if_neg i1n, if_neg i1n, bds, if_neg i1n, ec, bds, X4_becomes_eq M (by omega), bds]
            simp only [nm, cki (show p < 8 by omega) (by decide : 8 < 2147483648), cln (show p < 2147483648 by omega), bds]
            refine ⟨_, _, _, rfl, ?_, h.room (i.gap hp a3) (e.pers hn hp (w := 4) (by decide) a3)⟩
            rw [e.w hp (w := 4) (by decide)]
          · rw [b2i_0 c, if_pos rfl, if_pos rfl, bds, if_pos rfl, f1, bds]
            exact ⟨r0, G0, M0, rfl, f2, fr⟩
        · rw [if_neg h4, if_neg h4, bds, if_pos rfl]
          exact F2
theorem sim_turn {G : Nat → StT} {M : StT} (h : Rel G M) (a1 a2 : Int32) : SimR (f_X3_turn G a1 a2) (f_X4_turn M a1 a2) := by
  have F := sfnd h 0 (by decide) (a := 0) (b := -1000000001) rfl (by decide)
  have F2 := F
  obtain ⟨r0, G0, M0, f1, f2, fr⟩ := F
  obtain ⟨⟨n, i, e⟩, -⟩ := id h
  have hn := i.1
  unfold f_X3_turn f_X4_turn f_X3_put_3
  rcases there i e a1 with ⟨c1, c2⟩ | ⟨p, hp, e1, c1, c2⟩
  · rw [c1, c2, bds, bds, if_pos rfl, if_pos rfl]; exact F2
  · subst e1
    rw [c1, c2, bds, bds, if_neg i1n, if_neg i1n, isWithin_eq, bds, X4_isKind_eq, bds]
    by_cases c : 0 ≤ a2 ∧ a2 ≤ 5
    · obtain ⟨v, hv, ev⟩ := of_rng (n := 5) c.1 c.2 (by omega)
      subst ev
      have ec : f_X4_spotOf (nI p) 0 = some (nI (18 + 6 * p)) := by rw [li 0, spotOf_eq, Nat.add_zero]
      rw [b2i_1 c, if_neg i1n, if_neg i1n, ec, bds, X4_becomes_eq M (by omega), bds]
      simp only [nm, cki (show p < 8 by omega) (by decide : 8 < 2147483648), cln (show p < 2147483648 by omega), bds]
      refine ⟨_, _, _, rfl, ?_, h.room (i.kind (p := p) (show v < 6 by omega)) (e.pers hn hp (w := 0) (by decide) (nI v))⟩
      have := e.w hp (w := 0) (by decide)
      rw [Nat.add_zero] at this ⊢
      rw [this]
    · rw [b2i_0 c, if_pos rfl, if_pos rfl, f1, bds]
      exact ⟨r0, G0, M0, rfl, f2, fr⟩
theorem und6 : ∀ k, k < 6 → ∀ j, j < 6 → f_X3_isOfKind (nI k) (nI j) = f_X4_isUnder (nI k) (nI j) ∧ (f_X4_isUnder (nI k) (nI j) = some 0 ∨ f_X4_isUnder (nI k) (nI j) = some 1) := by decide +kernel
theorem sim_as {G : Nat → StT} {M : StT} (h : Rel G M) (a1 a2 : Int32) : SimR (f_X3_as G a1 a2) (f_X4_as M a1 a2) := by
  have F := sfnd h 0 (by decide) (a := 0) (b := -1000000001) rfl (by decide)
  have F2 := sfnd h 2 (by decide) (a := 2) (b := -1000000003) rfl (by decide)
  obtain ⟨⟨n, i, e⟩, -⟩ := id h
  have hn := i.1
  unfold f_X3_as f_X4_as
  rcases there i e a1 with ⟨c1, c2⟩ | ⟨p, hp, e1, c1, c2⟩
  · rw [c1, c2, bds, bds, if_pos rfl, if_pos rfl]; exact F
  · subst e1
    rw [c1, c2, bds, bds, if_neg i1n, if_neg i1n]
    rcases knd a2 with ⟨d1, d2⟩ | ⟨j, hj, e2, d1, d2⟩
    · rw [d1, d2, bds, bds, if_pos rfl, if_pos rfl]; exact F
    · subst e2
      rw [d1, d2, bds, bds, if_neg i1n, if_neg i1n, cki (show p < 8 by omega) (by decide), cln (by omega), X4_its0 e hn hp, bds, X4_its1 e hn hp, bds]
      obtain ⟨k, hk, ek⟩ := (i.2.2.2.1 p hp).1
      rw [ek, (und6 k hk j hj).1]
      rcases (und6 k hk j hj).2 with z | z
      · rw [z, bds, bds, if_pos rfl, if_pos rfl]; exact F2
      · rw [z, bds, bds, if_neg i1n, if_neg i1n, cki (show p < 8 by omega) (by decide)]
        exact ⟨_, G, M, rfl, rfl, h⟩
theorem two {G : Nat → StT} {M : StT} {n : Nat} (i : RI n (G 1)) (e : RE n (G 1) (M.1 0)) (a b : Int32) : (f_X3_areTwo G a b = some 0 ∧ f_X4_areTwo M a b = some 0) ∨ ∃ p q, p < n ∧ q < n ∧ p ≠ q ∧ a = nI p ∧ b = nI q ∧ f_X3_areTwo G a b = some 1 ∧ f_X4_areTwo M a b = some 1 := by
  have hn := i.1
  unfold f_X3_areTwo f_X4_areTwo
  rcases there i e a with ⟨c1, c2⟩ | ⟨p, hp, e1, c1, c2⟩
  · rw [c1, c2, bds, bds, if_pos rfl, if_pos rfl]; exact Or.inl ⟨rfl, rfl⟩
  · rw [c1, c2, bds, bds, if_neg i1n, if_neg i1n]
    rcases there i e b with ⟨d1, d2⟩ | ⟨q, hq, e2, d1, d2⟩
    · rw [d1, d2, bds, if_pos rfl]; exact Or.inl ⟨rfl, rfl⟩
    · rw [d1, d2, bds, if_neg i1n]
      by_cases z : a = b
      · rw [if_pos z]; exact Or.inl ⟨rfl, rfl⟩
      · rw [if_neg z]
        exact Or.inr ⟨p, q, hp, hq, fun y => z (by rw [e1, e2, y]), e1, e2, rfl, rfl⟩
theorem sim_quarrel {G : Nat → StT} {M : StT} (h : Rel G M) (a1 a2 a3 : Int32) : SimR (f_X3_quarrel G a1 a2 a3) (f_X4_quarrel M a1 a2 a3) := by
  have F := sfnd h 0 (by decide) (a := 0) (b := -1000000001) rfl (by decide)
  obtain ⟨⟨n, i, e⟩, -⟩ := id h
  have hn := i.1
  unfold f_X3_quarrel f_X4_quarrel
  rcases two i e a1 a2 with ⟨c1, c2⟩ | ⟨p, q, hp, hq, hne, e1, e2, c1, c2⟩
  · rw [c1, c2, bds, bds, if_pos rfl, if_pos rfl]; exact F
  · subst e1; subst e2
    have ein : f_X4_in a3.toInt64 (0 : Int64) (1 : Int64) = some (b2i (0 ≤ a3 ∧ a3 ≤ 1)) := X4_inI a3 0 1
    rw [c1, c2, bds, bds, if_neg i1n, if_neg i1n, isWithin_eq, bds, ein, bds]
    by_cases c : 0 ≤ a3 ∧ a3 ≤ 1
    · rw [b2i_1 c, if_neg i1n, if_neg i1n, X0_odds_eq _ (show p < 8 by omega), bds, X4_isQuarrel_eq e hn hp, bds]
      have go : ∀ x : Int32, SimR (f_X3_quarrel_b41 (nI p) (nI q) a3 x G) (f_X4_quarrel_b40 (nI p) (nI q) a3 x M) := by
        intro x
        unfold f_X3_quarrel_b41 f_X4_quarrel_b40
        by_cases z : a3 = 1
        · rw [if_pos z, if_pos z]
          have a := X0_po_eq (G 1) (show p < 8 by omega) (show q < 8 by omega) hne true
          obtain ⟨s, b, r⟩ := X4_po_eq e hn hp hq hne true
          rw [if_pos rfl] at a b
          rw [a, bds, b, bds]
          exact ⟨_, _, _, rfl, rfl, h.room (i.po hp hq hne true) r⟩
        · rw [if_neg z, if_neg z]
          have a := X0_po_eq (G 1) (show p < 8 by omega) (show q < 8 by omega) hne false
          obtain ⟨s, b, r⟩ := X4_po_eq e hn hp hq hne false
          rw [if_neg (by decide)] at a b
          rw [a, bds, b, bds]
          exact ⟨_, _, _, rfl, rfl, h.room (i.po hp hq hne false) r⟩
      have sp : ∀ y : Int32, SimR (if y = 0 then f_X3_quarrel_b41 (nI p) (nI q) a3 0 G else f_X3_quarrel_b41 (nI p) (nI q) a3 1 G) (if y = 0 then f_X4_quarrel_b40 (nI p) (nI q) a3 0 M else f_X4_quarrel_b40 (nI p) (nI q) a3 1 M) := by
        intro y
        by_cases z : y = 0
        · rw [if_pos z, if_pos z]; exact go 0
        · rw [if_neg z, if_neg z]; exact go 1
      exact sp _
    · rw [b2i_0 c, if_pos rfl, if_pos rfl]; exact F
theorem sim_sit {G : Nat → StT} {M : StT} (h : Rel G M) (a1 a2 : Int32) : SimR (f_X3_sit G a1 a2) (f_X4_sit M a1 a2) := by
  have F := sfnd h 0 (by decide) (a := 0) (b := -1000000001) rfl (by decide)
  have F4 := sfnd h 4 (by decide) (a := 4) (b := -1000000005) rfl (by decide)
  obtain ⟨⟨n, i, e⟩, -⟩ := id h
  have hn := i.1
  unfold f_X3_sit f_X4_sit
  rcases there i e a1 with ⟨c1, c2⟩ | ⟨p, hp, e1, c1, c2⟩
  · rw [c1, c2, bds, bds, if_pos rfl, if_pos rfl]; exact F
  · subst e1
    have ein : f_X4_in a2.toInt64 (-1 : Int64) (7 : Int64) = some (b2i (-1 ≤ a2 ∧ a2 ≤ 7)) := X4_inI a2 (-1) 7
    rw [c1, c2, bds, bds, if_neg i1n, if_neg i1n, isWithin_eq, bds, ein, bds]
    by_cases c : -1 ≤ a2 ∧ a2 ≤ 7
    · rw [b2i_1 c, if_neg i1n, if_neg i1n]
      have ec : f_X4_spotOf (nI p) 5 = some (nI (18 + 6 * p + 5)) := by rw [li 5, spotOf_eq]
      have go : RI n (seS (G 1) p a2) → SimR (f_X3_sit_b59 (nI p) a2 G) (f_X4_sit_b63 (nI p) a2 M) := by
        intro r
        unfold f_X3_sit_b59 f_X4_sit_b63
        rw [ec, bds, X4_becomes_eq M (by omega), bds]
        simp only [nm, cki (show p < 8 by omega) (by decide : 8 < 2147483648), cln (show p < 2147483648 by omega), X0_seat_eq i hp (m17 c), bds]
        refine ⟨_, _, _, rfl, ?_, h.room r (e.seat hn hp a2)⟩
        rw [e.w hp (w := 5) (by decide)]
      rcases m17 c with z | ⟨d, hd, z⟩
      · subst z
        unfold f_X4_sit_b43
        rw [if_pos m1_neg, if_pos rfl, if_pos rfl]
        exact go (i.stand hp)
      · subst z
        have e0 : ¬ nI d < 0 := nI_n0 (by omega)
        have em : ¬ nI d = -1 := nI_m1 (by omega)
        rw [if_neg e0, if_neg em, X4_whoIn_eq i e hd, bds, cki hd (by decide), cki hd (by decide), cln (by omega)]
        unfold f_X4_sit_b43
        rcases i.sit hd with hs | ⟨q, hq, hs⟩
        · have r := i.seat hp hd (Or.inl hs)
          rw [hs, if_pos m1_neg, if_pos rfl]
          exact go r
        · have e1 : ¬ nI q < 0 := nI_n0 (by omega)
          have em1 : ¬ nI q = -1 := nI_m1 (by omega)
          by_cases y : nI q = nI p
          · have r := i.seat hp hd (Or.inr (hs.trans y))
            rw [hs, if_neg e1, if_neg em1, if_pos y, if_pos y]
            exact go r
          · rw [hs, if_neg e1, if_neg em1, if_neg y, if_neg y]
            exact F4
    · rw [b2i_0 c, if_pos rfl, if_pos rfl]; exact F
theorem sim_change {G : Nat → StT} {M : StT} (h : Rel G M) (a1 a2 : Int32) : SimR (f_X3_change G a1 a2) (f_X4_change M a1 a2) := by
  have F := sfnd h 0 (by decide) (a := 0) (b := -1000000001) rfl (by decide)
  obtain ⟨⟨n, i, e⟩, -⟩ := id h
  have hn := i.1
  unfold f_X3_change f_X4_change
  rcases two i e a1 a2 with ⟨c1, c2⟩ | ⟨p, q, hp, hq, hne, e1, e2, c1, c2⟩
  · rw [c1, c2, bds, bds, if_pos rfl, if_pos rfl]; exact F
  · subst e1; subst e2
    rw [c1, c2, bds, bds, if_neg i1n, if_neg i1n, X0_swap_eq i hp hq, bds, X4_changes_eq e hn hp hq, bds, setA_tw]
    exact ⟨_, _, _, rfl, rfl, h.room (i.swap hp hq hne) (e.swap hn hp hq)⟩
theorem sim_well {G : Nat → StT} {M : StT} (h : Rel G M) (a1 a2 : Int32) : SimR (f_X3_well G a1 a2) (f_X4_well M a1 a2) := by
  have F := sfnd h 0 (by decide) (a := 0) (b := -1000000001) rfl (by decide)
  obtain ⟨⟨n, i, e⟩, -⟩ := id h
  have hn := i.1
  unfold f_X3_well f_X4_well
  rcases there i e a1 with ⟨c1, c2⟩ | ⟨p, hp, e1, c1, c2⟩
  · rw [c1, c2, bds, bds, if_pos rfl, if_pos rfl]; exact F
  · subst e1
    rw [c1, c2, bds, bds, if_neg i1n, if_neg i1n]
    rcases chr a2 with ⟨d1, d2⟩ | ⟨j, hj, e2, d1, d2⟩
    · rw [d1, d2, bds, bds, if_pos rfl, if_pos rfl]; exact F
    · subst e2
      rw [d1, d2, bds, bds, if_neg i1n, if_neg i1n, X0_howWell_eq i (by omega) hj, bds, X4_sits_eq i e hp hj, bds]
      exact ⟨_, G, M, rfl, rfl, h⟩
