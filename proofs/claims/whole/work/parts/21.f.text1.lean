-- bytes
theorem and255 (x : Int32) : ∃ b, b < 256 ∧ x &&& 255 = nI b := by
  refine ⟨(x &&& 255).toBitVec.toNat, ?_, ?_⟩
  · rw [Int32.toBitVec_and, BitVec.toNat_and]
    exact Nat.lt_of_le_of_lt Nat.and_le_right (by decide)
  · apply Int32.toBitVec_inj.mp
    show _ = BitVec.ofNat 32 _
    rw [BitVec.ofNat_toNat, BitVec.setWidth_eq]
theorem b255 : ∀ i, i < 32 → (255#32).getLsbD i = decide (i < 8) := by decide
theorem sh8 (x : BitVec 32) {s : Nat} (hs : s ≤ 24) : x.sshiftRight s &&& 255#32 = x >>> s &&& 255#32 := by
  apply BitVec.eq_of_getLsbD_eq
  intro i hi
  rw [BitVec.getLsbD_and, BitVec.getLsbD_and, b255 i hi, BitVec.getLsbD_sshiftRight, BitVec.getLsbD_ushiftRight]
  by_cases h : i < 8
  · rw [if_pos (by omega)]
    simp [show ¬ 32 ≤ i by omega]
  · simp [h]
theorem byte_eq (a : Int32) {t : Nat} (ht : t < 4) : (UInt32.toInt32 (Int32.toUInt32 a >>> (Int32.toUInt32 ((8 : Int32) * nI t) &&& Int32.toUInt32 31))) &&& (255 : Int32) = (a >>> (((8 : Int32) * nI t) &&& 31)) &&& (255 : Int32) := by
  apply Int32.toBitVec_inj.mp
  match t, ht with
  | 0, _ => exact (sh8 a.toBitVec (s := 0) (by decide)).symm
  | 1, _ => exact (sh8 a.toBitVec (s := 8) (by decide)).symm
  | 2, _ => exact (sh8 a.toBitVec (s := 16) (by decide)).symm
  | 3, _ => exact (sh8 a.toBitVec (s := 24) (by decide)).symm
theorem Rel.text {G : Nat → StT} {M : StT} (h : Rel G M) {A M2 : StT} (t2 : TT (gset G 4 A) M2) (m1 : ∀ k, k ≠ 6 → M2.1 k = M.1 k) (m2 : M2.2.1 = M.2.1) (m3 : M2.2.2 0 = M.2.2 0) : Rel (gset G 4 A) M2 := by
  obtain ⟨⟨n, i, e⟩, k, t, s, f⟩ := h
  refine ⟨⟨n, by rw [gset_o _ _ (by decide)]; exact i, by rw [gset_o _ _ (by decide), m1 0 (by decide)]; exact e⟩, ?_, t2, ?_, ?_⟩
  · unfold KK
    rw [gset_o _ _ (show (0 : Nat) ≠ 4 by decide), gset_o _ _ (show (3 : Nat) ≠ 4 by decide), m3, m1 1 (by decide)]
    exact k
  · intro j hj
    rw [gset_o _ _ (show 5 + j ≠ 4 by omega), m1 7 (by decide), m1 8 (by decide), m2]
    exact s j hj
  · intro j hj
    rw [gset_o _ _ (show (0 : Nat) ≠ 4 by decide), m1 4 (by decide)]
    exact f j hj
theorem sim_wipe {G : Nat → StT} {M : StT} (h : Rel G M) : SimR (f_X3_wipe G) (f_X4_wipe M) := by
  obtain ⟨-, -, ⟨len, hl, t1, t2, -⟩, -⟩ := id h
  unfold f_X3_wipe f_X4_wipe
  simp only [nm]
  rw [t1, t2]
  refine ⟨_, _, _, rfl, rfl, h.text ⟨0, by decide, by rw [gset_s, setF_s]; rfl, by rw [setF_s]; rfl, fun j hj => absurd hj (Nat.not_lt_zero j)⟩ (fun k _ => rfl) rfl (setF_o _ _ (by decide))⟩
theorem feed_l (a : Int32) : ∀ (k f1 f2 : Nat) (G : Nat → StT) (M : StT), Rel G M → k ≤ 4 → k < f1 → k < f2 → (∃ len, len + k ≤ 120 ∧ (G 4).2.2 0 = nI len) → SimR (f_X3_feed_l39 f1 a (nI k - 1) G) (f_X4_feed_l41 f2 a (nI k - 1) M) := by
  intro k
  induction k with
  | zero =>
    intro f1 f2 G M h hk hf1 hf2 _
    obtain ⟨f1, rfl⟩ : ∃ z, f1 = z + 1 := ⟨f1 - 1, by omega⟩
    obtain ⟨f2, rfl⟩ : ∃ z, f2 = z + 1 := ⟨f2 - 1, by omega⟩
    obtain ⟨-, -, ⟨len, hl, t1, t2, -⟩, -⟩ := id h
    rw [f_X3_feed_l39, f_X4_feed_l41, if_pos (show nI 0 - 1 < 0 by decide), if_pos (show nI 0 - 1 < 0 by decide), t1, t2]
    exact ⟨_, _, _, rfl, rfl, h⟩
  | succ k ih =>
    intro f1 f2 G M h hk hf1 hf2 hl
    obtain ⟨f1, rfl⟩ : ∃ z, f1 = z + 1 := ⟨f1 - 1, by omega⟩
    obtain ⟨f2, rfl⟩ : ∃ z, f2 = z + 1 := ⟨f2 - 1, by omega⟩
    obtain ⟨-, -, ⟨len, hl2, t1, t2, t3⟩, -⟩ := id h
    obtain ⟨len', hl3, t4⟩ := hl
    have el : len' = len := by
      rw [t1] at t4
      exact ((nI_inj (by omega) (by omega)).mp t4).symm
    subst el
    have es : nI (k + 1) - (1 : Int32) = nI k := by rw [li 1]; exact pk_sub (by omega)
    obtain ⟨b, hb, eb⟩ := and255 (a >>> (((8 : Int32) * nI k) &&& 31))
    rw [f_X3_feed_l39, f_X4_feed_l41, es, if_neg (nI_n0 (by omega)), if_neg (nI_n0 (by omega)), byte_eq a (show k < 4 by omega), eb]
    unfold f_X2_append
    simp only [nm]
    have g1 : ¬ (120 : Int32) ≤ nI len' := fun q => by have := (nI_lei (a := 120) (by omega) (by omega)).mp q; omega
    rw [t1, t2, if_neg g1, cki (show len' < 120 by omega) (by decide), cki (show len' < 120 by omega) (by decide), cln (by omega), bds]
    have e5 : nI k + -1 = nI k - 1 := (Int32.sub_eq_add_neg _ _).symm
    rw [e5]
    rw [show (setA (G 4) 0 (upd ((G 4).1 0) len' (nI b))).2.2 0 = nI len' from t1, show (setA M 6 (upd (M.1 6) len' (nI b))).2.2 3 = nI len' from t2, nI_1]
    refine ih f1 f2 _ _ (h.text ⟨len' + 1, by omega, by rw [gset_s, setF_s], by rw [setF_s], fun j hj => ?_⟩ (fun q hq => ?_) rfl ?_) (by omega) (by omega) (by omega) ⟨len' + 1, by omega, by rw [gset_s, setF_s]⟩
    · rw [gset_s, setF_1, setF_1, setA_s, setA_s, upd_i, upd_i]
      by_cases z : j = len'
      · rw [if_pos z, if_pos z]; exact ⟨b, hb, rfl, rfl⟩
      · rw [if_neg z, if_neg z]; exact t3 j (by omega)
    · rw [setF_1, setA_o _ _ hq]
    · rw [setF_o _ _ (by decide), setA_2]
theorem ge0_1 {x : Int32} (h : 1 ≤ x) : 0 ≤ x := by
  rw [ile] at h ⊢
  have q1 : (1 : Int32).toInt = 1 := by decide
  have q0 : (0 : Int32).toInt = 0 := rfl
  omega
theorem sim_feed {G : Nat → StT} {M : StT} (h : Rel G M) (a1 a2 : Int32) : SimR (f_X3_feed G a1 a2) (f_X4_feed M a1 a2) := by
  have F := sfnd h 0 (by decide) (a := 0) (b := -1000000001) rfl (by decide)
  have F1 := sfnd h 1 (by decide) (a := 1) (b := -1000000002) rfl (by decide)
  obtain ⟨-, -, ⟨len, hl, t1, t2, -⟩, -⟩ := id h
  unfold f_X3_feed f_X4_feed
  have ein : f_X4_in a2.toInt64 (1 : Int64) (4 : Int64) = some (b2i (1 ≤ a2 ∧ a2 ≤ 4)) := X4_inI a2 1 4
  rw [isWithin_eq, bds, ein, bds]
  by_cases c : 1 ≤ a2 ∧ a2 ≤ 4
  · have c0 := ge0_1 c.1
    obtain ⟨t, ht, et⟩ := of_rng (n := 4) (x := a2) c0 c.2 (by omega)
    subst et
    rw [b2i_1 c, if_neg i1n, if_neg i1n, t1, t2, nI_add]
    simp only [nm]
    by_cases z : nI (len + t) ≤ 120
    · rw [if_pos z, if_pos z]
      have hz : len + t ≤ 120 := (nI_lei (b := 120) (by omega) (by omega)).mp z
      exact feed_l a1 t 200 200 G M h (by omega) (by omega) (by omega) ⟨len, hz, t1⟩
    · rw [if_neg z, if_neg z]; exact F1
  · rw [b2i_0 c, if_pos rfl, if_pos rfl]; exact F
-- always
theorem always_l {G : Nat → StT} {M : StT} (h : Rel G M) {n : Nat} (hn : n ≤ 8) {G1 : Nat → StT} {M1 : StT} (o : OnR G M n G1 M1) : ∀ (k i j f1 f2 : Nat), i + k = n → k < f1 → k < f2 → j < n → SimR (f_X3_always_l56 f1 (nI j) (nI i) G1) (f_X4_always_l34 f2 (nI j) (nI i) M1) := by
  intro k
  induction k with
  | zero =>
    intro i j f1 f2 hi hf1 hf2 hj
    obtain ⟨f1, rfl⟩ : ∃ z, f1 = z + 1 := ⟨f1 - 1, by omega⟩
    obtain ⟨f2, rfl⟩ : ∃ z, f2 = z + 1 := ⟨f2 - 1, by omega⟩
    have e2 : i = n := by omega
    subst e2
    have le := (nI_lei (a := i) (b := i) (by omega) (by omega)).mpr (Nat.le_refl i)
    rw [f_X3_always_l56, f_X4_always_l34, o.1.2.1, ck0, cl0, o.2.1.1, if_pos le, if_pos le, X4_takesBack_eq, bds]
    simp only [nm]
    rw [if_pos (nI_p0 (by omega))]
    exact ⟨_, _, _, rfl, rfl, o.fin h⟩
  | succ k ih =>
    intro i j f1 f2 hi hf1 hf2 hj
    obtain ⟨f1, rfl⟩ : ∃ z, f1 = z + 1 := ⟨f1 - 1, by omega⟩
    obtain ⟨f2, rfl⟩ : ∃ z, f2 = z + 1 := ⟨f2 - 1, by omega⟩
    have nl : ¬ nI n ≤ nI i := fun q => by have := (nI_lei (by omega) (by omega)).mp q; omega
    rw [f_X3_always_l56, f_X4_always_l34, o.1.2.1, ck0, cl0, o.2.1.1, if_neg nl, if_neg nl, if_neg (nI_n0 (by omega)), X4_its4 o.2.1 hn (show i < n by omega), bds, X4_its4 o.2.1 hn hj, bds, cki (show i < 8 by omega) (by decide), cki (show j < 8 by omega) (by decide), cln (by omega), cln (by omega)]
    unfold f_X3_always_b90 f_X4_always_b65 f_X4_always_b71
    simp only [nm, nI_1]
    by_cases z : (G1 2).1 7 i ≤ (G1 2).1 7 j
    · rw [if_pos z, if_pos z]; exact ih (i + 1) j f1 f2 (by omega) (by omega) (by omega) hj
    · rw [if_neg z, if_neg z]; exact ih (i + 1) i f1 f2 (by omega) (by omega) (by omega) (by omega)
theorem sim_always {G : Nat → StT} {M : StT} (h : Rel G M) (a1 : Int32) : SimR (f_X3_always G a1) (f_X4_always M a1) := by
  have F := sfnd h 0 (by decide) (a := 0) (b := -1000000001) rfl (by decide)
  obtain ⟨⟨n, i, e⟩, -⟩ := id h
  have hn := i.1
  unfold f_X3_always f_X4_always
  have ein : f_X4_in a1.toInt64 (0 : Int64) (60 : Int64) = some (b2i (0 ≤ a1 ∧ a1 ≤ 60)) := X4_inI a1 0 60
  rw [isWithin_eq, bds, ein, bds]
  by_cases c : 0 ≤ a1 ∧ a1 ≤ 60
  · obtain ⟨t, ht, et⟩ := r60 c
    subst et
    obtain ⟨A, ea, -, el, o⟩ := on_start i e
    obtain ⟨M2, p1, p2, o2⟩ := o.pass ht
    rw [b2i_1 c, if_neg i1n, if_neg i1n, ea, bds, el, bds]
    simp only [nm, gset_1, p1, p2, bds]
    by_cases z : n = 0
    · subst z
      have F3 := sfnd (h.fr (GF.rf _) o2.back) 3 (by decide) (a := 3) (b := -1000000004) rfl (by decide)
      rw [i.2.1, if_pos (show nI 0 = 0 from rfl), show (200 : Nat) = 199 + 1 from rfl, f_X4_always_l34, ck0, cl0, o2.2.1.1, if_pos (show nI 0 ≤ 0 by decide), X4_takesBack_eq, bds]
      simp only [nm]
      rw [if_neg (by decide)]
      exact F3
    · have z0 : ¬ nI n = 0 := fun q => z ((nI_inj (b := 0) (by omega) (by omega)).mp q)
      rw [i.2.1, if_neg z0, show f_X4_always_l34 200 (-1) 0 M2 = f_X4_always_l34 (199 + 1) (-1) 0 M2 from rfl, f_X4_always_l34, ck0, cl0, o2.2.1.1, if_neg (fun q => by have := (nI_lei (b := 0) (by omega) (by omega)).mp q; omega), if_pos m1_neg]
      unfold f_X4_always_b65 f_X4_always_b71
      simp only [nm]
      exact always_l h hn o2 (n - 1) 1 0 200 199 (by omega) (by omega) (by omega) (by omega)
  · rw [b2i_0 c, if_pos rfl, if_pos rfl]; exact F
