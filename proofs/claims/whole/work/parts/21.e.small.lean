-- the small ones: now, image, undo, tear, count, status
theorem gset_bk (G : Nat → StT) {k j : Nat} (A : StT) (h : j ≠ k) : gset (gset G k A) j (G j) = gset G k A := by
  funext i
  unfold gset
  by_cases e : i = j
  · subst e; simp [h]
  · simp [e]
theorem setF_1 (R : StT) (k : Nat) (v : Int32) : (setF R k v).1 = R.1 := rfl
theorem setF_L (R : StT) (k : Nat) (v : Int32) : (setF R k v).2.1 = R.2.1 := rfl
theorem setA_L (R : StT) (k : Nat) (f : Nat → Int32) : (setA R k f).2.1 = R.2.1 := rfl
theorem or0 (x : Int32) : x ||| 0 = x := Int32.or_zero
theorem sitting_l {n : Nat} {R M : StT} (h : RI n R) (e : RE n R (M.1 0)) : ∀ (k i f1 f2 m : Nat), i + k = n → k < f1 → k < f2 → m < 256 → ∃ m2, m2 < 256 ∧ f_X0_whoSits_l4 R f1 (nI m) (nI i) = some (nI m2) ∧ f_X4_sitting_l4 M f2 (nI m) (nI i) = some (nI m2) := by
  have hn := h.1
  intro k
  induction k with
  | zero =>
    intro i f1 f2 m hi hf1 hf2 hm
    obtain ⟨f1, rfl⟩ : ∃ z, f1 = z + 1 := ⟨f1 - 1, by omega⟩
    obtain ⟨f2, rfl⟩ : ∃ z, f2 = z + 1 := ⟨f2 - 1, by omega⟩
    have e2 : i = n := by omega
    subst e2
    refine ⟨m, hm, ?_, ?_⟩
    · rw [f_X0_whoSits_l4, h.2.1, if_pos ((nI_lei (by omega) (by omega)).mpr (Nat.le_refl i))]
    · rw [f_X4_sitting_l4, ck0, cl0, e.1, if_pos ((nI_lei (by omega) (by omega)).mpr (Nat.le_refl i))]
  | succ k ih =>
    intro i f1 f2 m hi hf1 hf2 hm
    obtain ⟨f1, rfl⟩ : ∃ z, f1 = z + 1 := ⟨f1 - 1, by omega⟩
    obtain ⟨f2, rfl⟩ : ∃ z, f2 = z + 1 := ⟨f2 - 1, by omega⟩
    have nl : ¬ nI n ≤ nI i := fun q => by have := (nI_lei (by omega) (by omega)).mp q; omega
    rw [f_X0_whoSits_l4, h.2.1, if_neg nl, cki (show i < 8 by omega) (by decide), cln (by omega), f_X4_sitting_l4, ck0, cl0, e.1, if_neg nl, X4_its5 e hn (show i < n by omega), bds]
    unfold f_X0_whoSits_b27 f_X4_sitting_b32
    simp only [nm, nI_1, or0]
    rcases (h.2.2.2.1 i (by omega)).2.2.2.2 with hs | ⟨c, hc, hs⟩
    · rw [hs, if_pos m1_neg, if_pos rfl]
      exact ih (i + 1) f1 f2 m (by omega) (by omega) (by omega) hm
    · rw [hs, if_neg (nI_n0 (by omega)), if_neg (nI_m1 (by omega)), (bor8 m hm i (by omega)).1]
      exact ih (i + 1) f1 f2 _ (by omega) (by omega) (by omega) (bor8 m hm i (by omega)).2
theorem sitting_eq {n : Nat} {R M : StT} (h : RI n R) (e : RE n R (M.1 0)) : ∃ m2, m2 < 256 ∧ f_X0_whoSits R = some (nI m2) ∧ f_X4_sitting M = some (nI m2) := by
  have := h.1
  exact sitting_l h e n 0 200 200 0 (by omega) (by omega) (by omega) (by omega)
theorem empty_l {n : Nat} {R M : StT} (h : RI n R) (e : RE n R (M.1 0)) : ∀ (k i f1 f2 m : Nat), i + k = 8 → k < f1 → k < f2 → m < 256 → ∃ m2, m2 < 256 ∧ f_X0_emptyChairs_l4 R f1 (nI m) (nI i) = some (nI m2) ∧ f_X4_emptyOnes_l4 M f2 (nI m) (nI i) = some (nI m2) := by
  have hn := h.1
  intro k
  induction k with
  | zero =>
    intro i f1 f2 m hi hf1 hf2 hm
    obtain ⟨f1, rfl⟩ : ∃ z, f1 = z + 1 := ⟨f1 - 1, by omega⟩
    obtain ⟨f2, rfl⟩ : ∃ z, f2 = z + 1 := ⟨f2 - 1, by omega⟩
    have e2 : i = 8 := by omega
    subst e2
    refine ⟨m, hm, ?_, ?_⟩
    · rw [f_X0_emptyChairs_l4, if_pos (show (8 : Int32) ≤ nI 8 by decide)]
    · rw [f_X4_emptyOnes_l4, if_pos (show (8 : Int32) ≤ nI 8 by decide)]
  | succ k ih =>
    intro i f1 f2 m hi hf1 hf2 hm
    obtain ⟨f1, rfl⟩ : ∃ z, f1 = z + 1 := ⟨f1 - 1, by omega⟩
    obtain ⟨f2, rfl⟩ : ∃ z, f2 = z + 1 := ⟨f2 - 1, by omega⟩
    have nl : ¬ (8 : Int32) ≤ nI i := fun q => by have := (nI_lei (a := 8) (by omega) (by omega)).mp q; omega
    rw [f_X0_emptyChairs_l4, if_neg nl, cki (show i < 8 by omega) (by decide), cln (by omega), f_X4_emptyOnes_l4, if_neg nl, X4_whoIn_eq h e (show i < 8 by omega), bds]
    unfold f_X0_emptyChairs_b26 f_X4_emptyOnes_b27
    simp only [nm, nI_1, or0]
    by_cases z : R.1 2 i = -1
    · rw [if_pos z, if_pos z, (bor8 m hm i (by omega)).1]
      exact ih (i + 1) f1 f2 _ (by omega) (by omega) (by omega) (bor8 m hm i (by omega)).2
    · rw [if_neg z, if_neg z]
      exact ih (i + 1) f1 f2 m (by omega) (by omega) (by omega) hm
theorem empty_eq {n : Nat} {R M : StT} (h : RI n R) (e : RE n R (M.1 0)) : ∃ m2, m2 < 256 ∧ f_X0_emptyChairs R = some (nI m2) ∧ f_X4_emptyOnes M = some (nI m2) := empty_l h e 8 0 200 200 0 (by omega) (by omega) (by omega) (by omega)
theorem sim_now {G : Nat → StT} {M : StT} (h : Rel G M) (a1 : Int32) : SimR (f_X3_now G a1) (f_X4_now M a1) := by
  have F := sfnd h 0 (by decide) (a := 0) (b := -1000000001) rfl (by decide)
  obtain ⟨⟨n, i, e⟩, -⟩ := id h
  obtain ⟨m1, -, s1, s2⟩ := sitting_eq i e
  obtain ⟨m2, -, t1, t2⟩ := empty_eq i e
  unfold f_X3_now f_X4_now
  rw [X0_hasSun_eq, bds, X4_hourNow_eq e, bds, X4_isSunny_eq e, bds, s1, bds, s2, bds, t1, bds, t2, bds, X0_together_eq i, bds, X4_peaceNow_eq i e, bds, ck1, cl1, e.2.1]
  by_cases c0 : a1 = 0
  · rw [if_pos c0, if_pos c0]; exact ⟨_, _, _, rfl, rfl, h⟩
  rw [if_neg c0, if_neg c0]
  by_cases c1 : a1 = 1
  · rw [if_pos c1, if_pos c1]; exact ⟨_, _, _, rfl, rfl, h⟩
  rw [if_neg c1, if_neg c1]
  by_cases c2 : a1 = 2
  · rw [if_pos c2, if_pos c2]
    by_cases z : b2i (¬ ((G 1).2.2 1 - (G 1).2.2 1 / 24 * 24 < 10) ∧ ¬ (14 < (G 1).2.2 1 - (G 1).2.2 1 / 24 * 24)) = 0
    · rw [if_pos z, if_pos z]; exact ⟨_, _, _, rfl, rfl, h⟩
    · rw [if_neg z, if_neg z]; exact ⟨_, _, _, rfl, rfl, h⟩
  rw [if_neg c2, if_neg c2]
  by_cases c3 : a1 = 3
  · rw [if_pos c3, if_pos c3]; exact ⟨_, _, _, rfl, rfl, h⟩
  rw [if_neg c3, if_neg c3]
  by_cases c4 : a1 = 4
  · rw [if_pos c4, if_pos c4]; exact ⟨_, _, _, rfl, rfl, h⟩
  rw [if_neg c4, if_neg c4]
  by_cases c5 : a1 = 5
  · rw [if_pos c5, if_pos c5]; exact ⟨_, _, _, rfl, rfl, h⟩
  rw [if_neg c5, if_neg c5]
  exact F
theorem sim_image {G : Nat → StT} {M : StT} (h : Rel G M) : SimR (f_X3_image G) (f_X4_image M) := by
  obtain ⟨⟨n, i, e⟩, k, t, s, f⟩ := id h
  obtain ⟨A, ea, e8⟩ := X0_become_eq (G 3) (G 1)
  unfold f_X3_image
  rw [ea, bds, X4_image_eq]
  simp only [nm]
  rw [gset_bk G A (show (1 : Nat) ≠ 3 by decide), gset_o _ _ (show (0 : Nat) ≠ 3 by decide)]
  refine ⟨_, _, _, rfl, rfl, ⟨n, ?_, ?_⟩, ?_, ?_, ?_, ?_⟩
  · rw [gset_o _ _ (by decide), gset_o _ _ (by decide)]; exact i
  · rw [gset_o _ _ (by decide), gset_o _ _ (by decide)]
    rw [setF_1, setA_o _ _ (by decide)]; exact e
  · refine ⟨?_, Or.inr ⟨?_, n, ?_, ?_⟩⟩
    · rw [gset_s, setF_s, setF_s]
    · rw [gset_s, setF_s]
    · rw [gset_o _ _ (by decide), gset_s]; exact i.e8 e8
    · rw [gset_o _ _ (by decide), gset_s]
      rw [setF_1, setA_s]
      exact (e.e8 i.1 e8).s66 i.1 (fun j hj => cp_in hj)
  · unfold TT
    rw [gset_o _ _ (by decide), gset_o _ _ (by decide), setF_o _ _ (by decide), setF_1, setA_2, setA_o _ _ (by decide)]
    exact t
  · intro k hk
    rw [gset_o _ _ (show 5 + k ≠ 0 by omega), gset_o _ _ (show 5 + k ≠ 3 by omega)]
    rw [setF_1, setF_L, setA_L, setA_o _ _ (show (7 : Nat) ≠ 1 by decide), setA_o _ _ (show (8 : Nat) ≠ 1 by decide)]
    exact s k hk
  · intro k hk
    rw [gset_s]
    rw [setF_1, setF_1, setA_o _ _ (by decide)]
    exact f k hk
theorem sim_undo {G : Nat → StT} {M : StT} (h : Rel G M) : SimR (f_X3_undo G) (f_X4_undo M) := by
  have F := sfnd h 3 (by decide) (a := 3) (b := -1000000004) rfl (by decide)
  obtain ⟨-, ⟨k1, k2⟩, -⟩ := id h
  unfold f_X3_undo f_X4_undo
  rw [← k1]
  rcases k2 with z | ⟨z, m, mi, me⟩
  · rw [if_pos z, if_pos z]; exact F
  · have z0 : ¬ (G 0).2.2 0 = 0 := by rw [z]; decide
    obtain ⟨A, ea, e8⟩ := X0_become_eq (G 1) (G 3)
    rw [if_neg z0, if_neg z0, ea, bds, X4_undo_l0]
    simp only [nm]
    rw [gset_bk G A (show (3 : Nat) ≠ 1 by decide)]
    refine ⟨M.1 1 0, _, _, ?_, rfl, h.room (mi.e8 e8) ((me.e8 mi.1 e8).s66 mi.1 (fun j hj => cp_in hj))⟩
    rw [gset_s, e8.2.1, mi.2.1, me.1]
theorem Rel.tear {G : Nat → StT} {M : StT} (h : Rel G M) : Rel (gset G 0 (setF (G 0) 0 0)) (setF M 0 0) := by
  obtain ⟨⟨n, i, e⟩, k, t, s, f⟩ := h
  refine ⟨⟨n, ?_, ?_⟩, ⟨?_, Or.inl ?_⟩, ?_, ?_, ?_⟩
  · rw [gset_o _ _ (by decide)]; exact i
  · rw [gset_o _ _ (by decide)]; exact e
  · rw [gset_s, setF_s, setF_s]
  · rw [gset_s, setF_s]
  · unfold TT
    rw [gset_o _ _ (by decide), setF_o _ _ (by decide)]; exact t
  · intro k hk
    rw [gset_o _ _ (show 5 + k ≠ 0 by omega)]
    exact s k hk
  · intro k hk
    rw [gset_s]
    exact f k hk
theorem sim_tear {G : Nat → StT} {M : StT} (h : Rel G M) : SimR (f_X3_tear G) (f_X4_tear M) := by
  obtain ⟨-, ⟨k1, -⟩, -⟩ := id h
  unfold f_X3_tear f_X4_tear f_X3_tear_b12 f_X4_tear_b12
  simp only [nm]
  rw [← k1]
  by_cases z : (G 0).2.2 0 = 0
  · rw [if_pos z, if_pos z]; exact ⟨_, _, _, rfl, rfl, h.tear⟩
  · rw [if_neg z, if_neg z]; exact ⟨_, _, _, rfl, rfl, h.tear⟩
theorem ones8 : ∀ m, m < 256 → f_X4_ones (nI m) = f_J6_bitCount_0f7a4 (nI m) ∧ (f_J6_bitCount_0f7a4 (nI m)).isSome = true := by decide +kernel
theorem pairs_l {n : Nat} {R M : StT} (h : RI n R) (e : RE n R (M.1 0)) : ∀ (k i f1 f2 : Nat) (x : Int32), i + k = n → k < f1 → k < f2 → ∃ y, f_X0_pairsAtOdds_l4 R f1 x (nI i) = some y ∧ f_X4_pairs_l4 M f2 x (nI i) = some y := by
  have hn := h.1
  intro k
  induction k with
  | zero =>
    intro i f1 f2 x hi hf1 hf2
    obtain ⟨f1, rfl⟩ : ∃ z, f1 = z + 1 := ⟨f1 - 1, by omega⟩
    obtain ⟨f2, rfl⟩ : ∃ z, f2 = z + 1 := ⟨f2 - 1, by omega⟩
    have e2 : i = n := by omega
    subst e2
    refine ⟨x / 2, ?_, ?_⟩
    · rw [f_X0_pairsAtOdds_l4, h.2.1, if_pos ((nI_lei (by omega) (by omega)).mpr (Nat.le_refl i))]
    · rw [f_X4_pairs_l4, ck0, cl0, e.1, if_pos ((nI_lei (by omega) (by omega)).mpr (Nat.le_refl i))]
  | succ k ih =>
    intro i f1 f2 x hi hf1 hf2
    obtain ⟨f1, rfl⟩ : ∃ z, f1 = z + 1 := ⟨f1 - 1, by omega⟩
    obtain ⟨f2, rfl⟩ : ∃ z, f2 = z + 1 := ⟨f2 - 1, by omega⟩
    have nl : ¬ nI n ≤ nI i := fun q => by have := (nI_lei (by omega) (by omega)).mp q; omega
    obtain ⟨m, hm, em⟩ := h.q8 (p := i) (by omega)
    obtain ⟨o1, o2⟩ := ones8 m hm
    obtain ⟨y, hy⟩ := Option.isSome_iff_exists.mp o2
    rw [f_X0_pairsAtOdds_l4, h.2.1, if_neg nl, cki (show i < 8 by omega) (by decide), cln (by omega), f_X4_pairs_l4, ck0, cl0, e.1, if_neg nl, X4_its3 e hn (show i < n by omega), bds, em, o1, hy, bds, bds]
    simp only [nm, nI_1]
    exact ih (i + 1) f1 f2 _ (by omega) (by omega) (by omega)
theorem sim_count {G : Nat → StT} {M : StT} (h : Rel G M) (a1 : Int32) : SimR (f_X3_count G a1) (f_X4_count M a1) := by
  have F := sfnd h 0 (by decide) (a := 0) (b := -1000000001) rfl (by decide)
  obtain ⟨⟨n, i, e⟩, -, ⟨len, -, t1, t2, -⟩, -⟩ := id h
  have hn := i.1
  obtain ⟨m1, hm, s1, s2⟩ := sitting_eq i e
  obtain ⟨o1, o2⟩ := ones8 m1 hm
  obtain ⟨y, hy⟩ := Option.isSome_iff_exists.mp o2
  obtain ⟨y2, p1, p2⟩ := pairs_l i e n 0 200 200 0 (by omega) (by omega) (by omega)
  unfold f_X3_count f_X4_count f_X0_pairsAtOdds f_X4_pairs
  have p1 : f_X0_pairsAtOdds_l4 (G 1) 200 0 0 = some y2 := p1
  have p2 : f_X4_pairs_l4 M 200 0 0 = some y2 := p2
  rw [s1, bds, s2, bds, o1, hy, bds, bds, p1, bds, p2, bds, ck0, cl0, e.1, i.2.1, t1, t2]
  by_cases c0 : a1 = 0
  · rw [if_pos c0, if_pos c0]; exact ⟨_, _, _, rfl, rfl, h⟩
  rw [if_neg c0, if_neg c0]
  by_cases c1 : a1 = 1
  · rw [if_pos c1, if_pos c1]; exact ⟨_, _, _, rfl, rfl, h⟩
  rw [if_neg c1, if_neg c1]
  by_cases c2 : a1 = 2
  · rw [if_pos c2, if_pos c2]; exact ⟨_, _, _, rfl, rfl, h⟩
  rw [if_neg c2, if_neg c2]
  by_cases c3 : a1 = 3
  · rw [if_pos c3, if_pos c3]; exact ⟨_, _, _, rfl, rfl, h⟩
  rw [if_neg c3, if_neg c3]
  exact F
-- status
theorem st_m1 (M : StT) : f_X4_status_l25 200 (-1) 0 0 M = some (0 + M.1 4 0 + M.1 4 1 + M.1 4 2 + M.1 4 3 + M.1 4 4 + M.1 4 5 + M.1 4 6, M) := rfl
theorem st_x3 (G : Nat → StT) : f_X3_status_l31 200 0 0 G = some (0 + (G 0).1 0 0 + (G 0).1 0 1 + (G 0).1 0 2 + (G 0).1 0 3 + (G 0).1 0 4 + (G 0).1 0 5 + (G 0).1 0 6, G) := rfl
theorem z_add (x : Int32) : 0 + x = x := Int32.zero_add x
theorem st_l (M : StT) {p : Nat} (hp : p < 7) : ∀ (k i fuel : Nat), i + k = 7 → k < fuel → f_X4_status_l25 fuel (nI p) (if p < i then M.1 4 p else 0) (nI i) M = some (M.1 4 p, M) := by
  intro k
  induction k with
  | zero =>
    intro i fuel hi hf
    obtain ⟨fuel, rfl⟩ : ∃ z, fuel = z + 1 := ⟨fuel - 1, by omega⟩
    have e : i = 7 := by omega
    subst e
    rw [f_X4_status_l25, if_pos (show (7 : Int32) ≤ nI 7 by decide), if_pos hp]
  | succ k ih =>
    intro i fuel hi hf
    obtain ⟨fuel, rfl⟩ : ∃ z, fuel = z + 1 := ⟨fuel - 1, by omega⟩
    have nl : ¬ (7 : Int32) ≤ nI i := fun q => by have := (nI_lei (a := 7) (by omega) (by omega)).mp q; omega
    have ii := ih (i + 1) fuel (by omega) (by omega)
    rw [f_X4_status_l25, if_neg nl, if_neg (nI_n0 (by omega))]
    unfold f_X4_status_b41 f_X4_status_b51
    simp only [nm, nI_1]
    by_cases z : i = p
    · subst z
      rw [if_pos rfl, cki hp (by decide), cln (by omega), if_neg (Nat.lt_irrefl i), z_add]
      rw [if_pos (Nat.lt_succ_self i)] at ii
      exact ii
    · rw [if_neg (fun q => z ((nI_inj (by omega) (by omega)).mp q)), add0]
      by_cases y : p < i
      · rw [if_pos y]; rw [if_pos (show p < i + 1 by omega)] at ii; exact ii
      · rw [if_neg y]; rw [if_neg (show ¬ p < i + 1 by omega)] at ii; exact ii
theorem sim_status {G : Nat → StT} {M : StT} (h : Rel G M) (a1 : Int32) : SimR (f_X3_status G a1) (f_X4_status M a1) := by
  have F := sfnd h 0 (by decide) (a := 0) (b := -1000000001) rfl (by decide)
  obtain ⟨-, -, -, -, f⟩ := id h
  unfold f_X3_status f_X4_status
  have ein : f_X4_in a1.toInt64 (-1 : Int64) (6 : Int64) = some (b2i (-1 ≤ a1 ∧ a1 ≤ 6)) := X4_inI a1 (-1) 6
  rw [isWithin_eq, bds, ein, bds]
  by_cases c : -1 ≤ a1 ∧ a1 ≤ 6
  · rw [b2i_1 c, if_neg i1n, if_neg i1n]
    by_cases z : a1 < 0
    · have e1 : a1 = -1 := by
        have h1 := c.1
        rw [ile] at h1; rw [ilt] at z; rw [ieq]
        have q1 : (-1 : Int32).toInt = -1 := by decide
        have q0 : (0 : Int32).toInt = 0 := rfl
        omega
      subst e1
      rw [if_pos z, st_x3, st_m1, f 0 (by decide), f 1 (by decide), f 2 (by decide), f 3 (by decide), f 4 (by decide), f 5 (by decide), f 6 (by decide)]
      exact ⟨_, _, _, rfl, rfl, h⟩
    · obtain ⟨p, hp, ep⟩ := of_rng (n := 6) (x := a1) (by rw [ile]; rw [ilt] at z; omega) c.2 (by omega)
      subst ep
      have sl := st_l M (p := p) (by omega) 7 0 200 (by omega) (by omega)
      rw [if_neg (Nat.not_lt_zero p)] at sl
      have sl : f_X4_status_l25 200 (nI p) 0 0 M = some (M.1 4 p, M) := sl
      rw [if_neg z, cki (show p < 7 by omega) (by decide), cln (by omega), sl, f p (by omega)]
      exact ⟨_, _, _, rfl, rfl, h⟩
  · rw [b2i_0 c, if_pos rfl, if_pos rfl]; exact F
