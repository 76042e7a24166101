-- best: the answer
theorem sim_best {G : Nat → StT} {M : StT} (h : Rel G M) : SimR (f_X3_best G) (f_X4_best M) := by
  obtain ⟨⟨n, i, e⟩, -⟩ := id h
  have hn := i.1
  have jb0 : JB G 0 0 0 (fun _ => 0) G := ⟨by decide, fun x _ => ⟨fun q => absurd q (by rw [Nat.zero_testBit]; decide), fun q => absurd q.1 (Nat.not_lt_zero x)⟩, by decide, Nat.le_refl 0, fun j hj => absurd hj (Nat.not_lt_zero j), fun a b ha => absurd ha (Nat.not_lt_zero a), fun x hx => absurd hx (Nat.not_lt_zero x), fun j hj => absurd hj (Nat.not_lt_zero j), fun j hj => absurd hj (Nat.not_lt_zero j), fun _ _ => rfl, rfl, rfl⟩
  obtain ⟨f3, mask, m, P, G2, es, eb, jb⟩ := best_l i e n 0 200 200 0 0 _ G jb0 (by omega) (by omega) (by omega)
  have es : f_X4_sitting M = some (nI mask) := es
  have eb : f_X3_best G = f_X3_best_l4 (f3 + 1) (nI m) (nI n) G2 := eb
  obtain ⟨b1, b2, b3, b4, b5, b6, b7, b8, b9, b10, b11, b12⟩ := id jb
  have gf2 : GF G G2 := ⟨fun k h0 _ => b10 k h0, b11, b12⟩
  have g21 : G2 1 = G 1 := b10 1 (by decide)
  have le := (nI_lei (a := n) (b := n) (by omega) (by omega)).mpr (Nat.le_refl n)
  rw [eb, f_X3_best_l4, g21, i.2.1, if_pos le]
  unfold f_X4_best
  rw [es, bds, pc_ones mask b1, bds, b3]
  by_cases c6 : nI m ≤ 6
  · have hm : m ≤ 6 := (nI_lei (b := 6) (by omega) (by omega)).mp c6
    rw [if_pos c6, if_pos c6]
    simp only [nm]
    -- the chairs
    have kb0 : KB G M 0 0 (fun _ => 0) (setF M 1 0) := ⟨by rw [setF_s]; rfl, Nat.le_refl 0, fun j hj => absurd hj (Nat.not_lt_zero j), fun a b ha => absurd ha (Nat.not_lt_zero a), fun x hx => absurd hx (Nat.not_lt_zero x), fun j hj => absurd hj (Nat.not_lt_zero j), fun j hj => absurd hj (Nat.not_lt_zero j), fun _ _ => rfl, rfl, fun q hq => setF_o _ _ hq⟩
    obtain ⟨f4, mm, C, M1, et, kb⟩ := taken_l (x := nI mask) i e 8 0 200 0 _ _ kb0 (by omega) (by omega)
    have et : f_X4_best_l28 200 (nI mask) 0 (setF M 1 0) = f_X4_best_l28 (f4 + 1) (nI mask) (nI 8) M1 := et
    obtain ⟨k1, k2, k3, k4, k5, k6, k7, k8, k9, k10⟩ := id kb
    rw [et, f_X4_best_l28, if_pos (show (8 : Int32) ≤ nI 8 by decide)]
    simp only [nm]
    rw [X4_laysAside_eq, bds]
    -- the class
    obtain ⟨A, ea, e8⟩ := X0_become_eq (G2 2) (G 1)
    have iA := i.e8 e8
    have eA := e.e8 hn e8
    have a8 : ∀ x, x < 8 → A.1 8 x = (G 1).1 8 x := fun x hx => e8.1 8 (by decide) x hx
    have a2 : ∀ x, x < 8 → A.1 2 x = (G 1).1 2 x := fun x hx => e8.1 2 (by decide) x hx
    have ba : gset (gset G2 2 A) 1 (G 1) = gset G2 2 A := by rw [← g21]; exact gset_1 G2 A
    have st0 : ST n A A (A.1 8) := ⟨iA, Sm.rf A, fun _ _ => rfl⟩
    have hu0 : ∀ j, j < m → A.1 8 (P j) ≠ -1 := fun j hj => by rw [a8 _ (by have := b5 j hj; omega)]; exact b8 j hj
    obtain ⟨v, G3, q1, q2, q3, mx⟩ := mp_ok (R0 := A) hn hm b5 b6 8 0 (A.1 8) (gset G2 2 A) (by rw [gset_s]; exact st0) hu0 (fun j hj => by rw [gset_o _ _ (by decide)]; exact b9 j hj) (by omega) (Or.inl rfl)
    have q1 : f_X3_mostPeace 8 (gset G2 2 A) 0 (nI m) = some (v, G3) := q1
    rw [ea, bds]
    simp only [nm]
    rw [ba, q1, bds]
    -- both sets are one
    have eD : ∀ x, DP P m 0 x ↔ DM n mask x := by
      intro x
      constructor
      · rintro ⟨j, -, j2, j3⟩
        subst j3
        have hx := b5 j j2
        exact ⟨hx, (b2 (P j) (by omega)).mpr ⟨hx, b8 j j2⟩⟩
      · rintro ⟨hx, q⟩
        obtain ⟨j, j1, j2⟩ := b7 x hx ((b2 x (by omega)).mp q).2
        exact ⟨j, Nat.zero_le j, j1, j2⟩
    have eE : ∀ c, EP P m 0 (A.1 8) c ↔ EC C mm 0 c := by
      intro c
      constructor
      · rintro ⟨x, ⟨j, -, j2, j3⟩, q⟩
        subst j3
        have hx := b5 j j2
        rcases (iA.2.2.2.1 (P j) hx).2.2.2.2 with hs | ⟨d, hd, hs⟩
        · exact absurd hs (hu0 j j2)
        · have s2 : A.1 2 d = nI (P j) := ((iA.2.2.2.2.2.1 d hd).2 (P j) hx).mpr hs
          obtain ⟨l, l1, l2⟩ := k5 d (by omega) (by rw [← a2 d hd, s2]; exact nI_m1 (by omega))
          exact ⟨l, Nat.zero_le l, l1, by rw [← q, hs, l2]⟩
      · rintro ⟨l, -, l2, l3⟩
        have hc := k3 l l2
        rcases (iA.2.2.2.2.2.1 (C l) hc).1 with hs | ⟨p, hp, hs⟩
        · exact absurd ((a2 (C l) hc).symm.trans hs) (k6 l l2)
        · have s8 : A.1 8 p = nI (C l) := ((iA.2.2.2.2.2.1 (C l) hc).2 p hp).mp hs
          obtain ⟨j, j1, j2⟩ := b7 p hp (by rw [← a8 p (by omega), s8]; exact nI_m1 (by omega))
          exact ⟨p, ⟨j, Nat.zero_le j, j1, j2⟩, by rw [s8, l3]⟩
    have to := fun (u : Nat → Int32) (b : Bj n (DP P m 0) (EP P m 0 (A.1 8)) (A.1 8) u) => b.cg eD eE
    have fro := fun (u : Nat → Int32) (b : Bj n (DM n mask) (EC C mm 0) (A.1 8) u) => b.cg (fun x => (eD x).symm) (fun c => (eE c).symm)
    have ps0 : PS n (M.1 0) (setA (setF M1 2 (-10000)) 3 (cp66 ((setF M1 2 (-10000)).1 0) ((setF M1 2 (-10000)).1 3))) (setA (setF M1 2 (-10000)) 3 (cp66 ((setF M1 2 (-10000)).1 0) ((setF M1 2 (-10000)).1 3))) (A.1 8) := by
      refine ⟨fun j _ => ?_, fun _ _ => rfl, rfl, fun _ _ => rfl⟩
      rw [rwU_self eA, setA_o _ _ (by decide), setF_1, k8 0 (by decide)]
    obtain ⟨M2, w2, z1, z2, -, -, z5, z6⟩ := pl_ok hn eA (show mm ≤ 8 by omega) k3 k4 (fun j hj => by rw [setA_o _ _ (by decide), setF_1]; exact k7 j hj) 10 0 mask (A.1 8) _ ps0 b1 (fun y hy q => ((b2 y hy).mp q).1) (Nat.zero_le mm) (by omega) ⟨A.1 8, to _ (st0.self b5 b6 hu0)⟩ (fun u b => by
      obtain ⟨v2, q, -⟩ := mx.2 u (fro u b)
      exact ⟨v2, q⟩)
    have z1 : f_X4_places 10 (setA (setF M1 2 (-10000)) 3 (cp66 ((setF M1 2 (-10000)).1 0) ((setF M1 2 (-10000)).1 3))) 0 (nI mask) = some M2 := z1
    rw [z1, bds, X4_takesBack_eq, bds]
    have vv : M2.2.2 2 = v := by
      obtain ⟨⟨u1, d1, d2⟩, up⟩ := mx
      have l1 := z5 u1 v (to u1 d1) d2
      rcases z6 with z6 | ⟨u2, d3, d4⟩
      · have z6 : M2.2.2 2 = -10000 := by rw [z6, setA_2, setF_s]
        rw [z6] at l1
        exact absurd l1 d2.low
      · obtain ⟨v2, d5, d6⟩ := up u2 (fro u2 d3)
        have dd := d4.det eA hn d5 (fun _ _ => rfl)
        rw [← dd] at d6
        exact le_as d6 l1
    rw [vv]
    have gf3 : GF G2 G3 := ⟨fun k h0 h2 => by rw [q2 k h2, gset_o _ _ h2], by rw [q2 0 (by decide), gset_o _ _ (by decide)], by rw [q2 0 (by decide), gset_o _ _ (by decide)]⟩
    refine ⟨_, G3, _, rfl, rfl, h.fr (gf2.tr gf3) ⟨fun j hj => ?_, fun k h0 h2 h3 h5 => ?_, ?_, ?_, ?_⟩⟩
    · rw [setA_s, cp_in hj, z2.2.1 3 (by decide), setA_s, cp_in hj, setF_1, k8 0 (by decide)]
    · rw [setA_o _ _ h0, z2.2.1 k h0, setA_o _ _ h3, setF_1, k8 k h5]
    · rw [setA_2, z2.2.2.1]
      show M1.2.1 0 = _
      rw [k9]
    · rw [setA_2, z2.2.2.2 0 (by decide), setA_2, setF_o _ _ (by decide), k10 0 (by decide)]
    · rw [setA_2, z2.2.2.2 3 (by decide), setA_2, setF_o _ _ (by decide), k10 3 (by decide)]
  · rw [if_neg c6, if_neg c6]
    exact sfnd (h.fr gf2 (MF.rf M)) 6 (by decide) rfl (by decide)
