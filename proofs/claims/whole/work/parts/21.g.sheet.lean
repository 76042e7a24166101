-- sheets
def SK (A M : StT) (k : Nat) : Prop := A.2.2 0 = M.1 7 k ∧ (A.2.2 0 = 0 ∨ A.2.2 0 = 8 ∨ A.2.2 0 = 16 ∨ A.2.2 0 = 64) ∧ (∃ z, z ≤ 40 ∧ A.2.2 1 = nI z ∧ M.1 8 k = nI z) ∧ ∀ j, j < 40 → A.2.1 0 j = M.2.1 0 (40 * k + j)
theorem Rel.sk {G : Nat → StT} {M : StT} (h : Rel G M) {k : Nat} (hk : k < 4) : SK (G (5 + k)) M k := h.2.2.2.1 k hk
theorem Rel.sheet {G : Nat → StT} {M : StT} (h : Rel G M) {k : Nat} (hk : k < 4) {A M2 : StT} (m1 : ∀ j, j ≠ 7 → j ≠ 8 → M2.1 j = M.1 j) (m2 : M2.2.2 = M.2.2) (m7 : ∀ j, j < 4 → j ≠ k → M2.1 7 j = M.1 7 j ∧ M2.1 8 j = M.1 8 j ∧ ∀ i, i < 40 → M2.2.1 0 (40 * j + i) = M.2.1 0 (40 * j + i)) (s2 : SK A M2 k) : Rel (gset G (5 + k) A) M2 := by
  obtain ⟨⟨n, i, e⟩, kk, t, s, f⟩ := h
  refine ⟨⟨n, by rw [gset_o _ _ (by omega)]; exact i, by rw [gset_o _ _ (by omega), m1 0 (by decide) (by decide)]; exact e⟩, ?_, ?_, ?_, ?_⟩
  · unfold KK
    rw [gset_o _ _ (show (0 : Nat) ≠ 5 + k by omega), gset_o _ _ (show (3 : Nat) ≠ 5 + k by omega), m2, m1 1 (by decide) (by decide)]
    exact kk
  · unfold TT
    rw [gset_o _ _ (show (4 : Nat) ≠ 5 + k by omega), m2, m1 6 (by decide) (by decide)]
    exact t
  · intro j hj
    by_cases z : j = k
    · subst z
      rw [gset_s]; exact s2
    · obtain ⟨q1, q2, q3⟩ := m7 j hj z
      obtain ⟨p1, p2, p3, p4⟩ := s j hj
      rw [gset_o _ _ (show 5 + j ≠ 5 + k by omega), q1, q2]
      exact ⟨p1, p2, p3, fun i hi => (p4 i hi).trans (q3 i hi).symm⟩
  · intro j hj
    rw [gset_o _ _ (show (0 : Nat) ≠ 5 + k by omega), m1 4 (by decide) (by decide)]
    exact f j hj
theorem sht (c : Int32) : (f_X3_isSheet c = some 0 ∧ f_X4_isOne c = some 0) ∨ ∃ j, j < 4 ∧ c = nI j ∧ f_X3_isSheet c = some 1 ∧ f_X4_isOne c = some 1 := by
  by_cases h : 0 ≤ c ∧ c ≤ 3
  · obtain ⟨j, hj, e⟩ := of_rng (n := 3) h.1 h.2 (by omega)
    exact Or.inr ⟨j, by omega, e, by rw [X3_isSheet_eq, b2i_1 h], by rw [X4_isOne_eq, b2i_1 h]⟩
  · exact Or.inl ⟨by rw [X3_isSheet_eq, b2i_0 h], by rw [X4_isOne_eq, b2i_0 h]⟩
theorem at40 (k j : Nat) : (40 : Int32) * nI k + nI j = nI (40 * k + j) := by rw [li 40, pk_mul, nI_add]
theorem setL_s (R : StT) (k : Nat) (f : Nat → Int64) : (setL R k f).2.1 k = f := by unfold setL; simp
theorem setL_o (R : StT) {k j : Nat} (f : Nat → Int64) (h : j ≠ k) : (setL R k f).2.1 j = R.2.1 j := by unfold setL; simp [h]
theorem setL_1 (R : StT) (k : Nat) (f : Nat → Int64) : (setL R k f).1 = R.1 := rfl
theorem setL_F (R : StT) (k : Nat) (f : Nat → Int64) : (setL R k f).2.2 = R.2.2 := rfl
theorem setL_tw (R : StT) (k : Nat) (f g : Nat → Int64) : setL (setL R k f) k g = setL R k g := by
  unfold setL
  refine Prod.ext rfl (Prod.ext ?_ rfl)
  funext j
  by_cases h : j = k <;> simp [h]
theorem setL_id (R : StT) (k : Nat) : setL R k (R.2.1 k) = R := by
  unfold setL
  refine Prod.ext rfl (Prod.ext ?_ rfl)
  funext j
  by_cases h : j = k
  · subst h; simp
  · simp [h]
theorem updL_i (f : Nat → Int64) (k j : Nat) (x : Int64) : vp_updL f k x j = if j = k then x else f j := rfl
/-- zeroes from 40 k on -/
def zf (f : Nat → Int64) (k i : Nat) : Nat → Int64 := fun j => if 40 * k ≤ j ∧ j < 40 * k + i then 0 else f j
theorem zf_0 (f : Nat → Int64) (k : Nat) : zf f k 0 = f := by
  funext j
  unfold zf
  rw [if_neg (by omega)]
theorem zf_s (f : Nat → Int64) (k i : Nat) : vp_updL (zf f k i) (40 * k + i) 0 = zf f k (i + 1) := by
  funext j
  rw [updL_i]
  unfold zf
  by_cases z : j = 40 * k + i
  · rw [if_pos z, if_pos (by omega)]
  · rw [if_neg z]
    by_cases y : 40 * k ≤ j ∧ j < 40 * k + i
    · rw [if_pos y, if_pos (by omega)]
    · rw [if_neg y, if_neg (by omega)]
theorem sheet_l {k : Nat} (hk : k < 4) (M : StT) : ∀ (r i fuel : Nat), i + r = 40 → r < fuel → f_X4_sheet_l85 fuel (nI k) (nI i) (setL M 0 (zf (M.2.1 0) k i)) = some (M.1 8 k, setL M 0 (zf (M.2.1 0) k 40)) := by
  intro r
  induction r with
  | zero =>
    intro i fuel hi hf
    obtain ⟨fuel, rfl⟩ : ∃ z, fuel = z + 1 := ⟨fuel - 1, by omega⟩
    have e : i = 40 := by omega
    subst e
    rw [f_X4_sheet_l85, if_pos (show (40 : Int32) ≤ nI 40 by decide), cki hk (by decide), cln (by omega)]
    rfl
  | succ r ih =>
    intro i fuel hi hf
    obtain ⟨fuel, rfl⟩ : ∃ z, fuel = z + 1 := ⟨fuel - 1, by omega⟩
    rw [f_X4_sheet_l85, if_neg (fun q => by have := (nI_lei (a := 40) (by omega) (by omega)).mp q; omega), at40, cki (show 40 * k + i < 160 by omega) (by decide), cln (by omega), setL_s, setL_tw, zf_s]
    simp only [nm]
    rw [nI_1]
    exact ih (i + 1) fuel (by omega) (by omega)
theorem sheet_ok {G : Nat → StT} {M : StT} (h : Rel G M) {k z : Nat} (hk : k < 4) (hz : z ≤ 40) {a2 v : Int32} (ha : a2 = 0 ∨ a2 = 8 ∨ a2 = 16 ∨ a2 = 64) (hv : v = nI z) : ∃ M2, f_X4_sheet_b81 (nI k) v (nI k) (setA M 7 (upd (M.1 7) k a2)) = some (v, M2) ∧ Rel (gset G (5 + k) (setF (setF (setL (G (5 + k)) 0 (flL ((G (5 + k)).2.1 0) 40 0)) 0 a2) 1 v)) M2 := by
  unfold f_X4_sheet_b81
  rw [cki hk (by decide), cln (by omega)]
  simp only [nm]
  have l := sheet_l hk (setA (setA M 7 (upd (M.1 7) k a2)) 8 (upd ((setA M 7 (upd (M.1 7) k a2)).1 8) k v)) 40 0 200 (by omega) (by omega)
  rw [zf_0, setL_id] at l
  generalize eQ : setL (setA (setA M 7 (upd (M.1 7) k a2)) 8 (upd ((setA M 7 (upd (M.1 7) k a2)).1 8) k v)) 0 (zf ((setA (setA M 7 (upd (M.1 7) k a2)) 8 (upd ((setA M 7 (upd (M.1 7) k a2)).1 8) k v)).2.1 0) k 40) = Q at l
  rw [setA_s, upd_s] at l
  refine ⟨Q, l, ?_⟩
  subst eQ
  refine h.sheet hk (fun j h7 h8 => ?_) rfl (fun j hj hjk => ⟨?_, ?_, fun i hi => ?_⟩) ⟨?_, ?_, ⟨z, hz, ?_, ?_⟩, fun j hj => ?_⟩
  · rw [setL_1, setA_o _ _ h8, setA_o _ _ h7]
  · rw [setL_1, setA_o _ _ (by decide), setA_s, upd_o _ _ hjk]
  · rw [setL_1, setA_s, upd_o _ _ hjk, setA_o _ _ (by decide)]
  · rw [setL_s]
    unfold zf
    rw [if_neg (by omega)]; rfl
  · rw [setF_o _ _ (by decide), setF_s, setL_1, setA_o _ _ (by decide), setA_s, upd_s]
  · rw [setF_o _ _ (by decide), setF_s]; exact ha
  · rw [setF_s]; exact hv
  · rw [setL_1, setA_s, upd_s]; exact hv
  · rw [setF_L, setF_L, setL_s, setL_s]
    unfold flL zf
    rw [if_pos hj, if_pos (by omega)]
theorem sheet_b {G : Nat → StT} {M : StT} (h : Rel G M) {k : Nat} (hk : k < 4) {a2 : Int32} (a3 : Int32) (ha : a2 = 0 ∨ a2 = 8 ∨ a2 = 16 ∨ a2 = 64) : SimR (f_X3_sheet_b35 (nI k) a2 a3 G) (f_X4_sheet_b36 (nI k) a2 a3 M) := by
  have F := sfnd h 0 (by decide) (a := 0) (b := -1000000001) rfl (by decide)
  have F6 := sfnd h 6 (by decide) (a := 6) (b := -1000000007) rfl (by decide)
  unfold f_X3_sheet_b35 f_X4_sheet_b36
  by_cases c : 0 ≤ a3
  · rw [if_pos c, if_pos c]
    by_cases d : a3 ≤ 40
    · obtain ⟨z, hz, ez⟩ := of_rng (n := 40) c d (by omega)
      rw [if_pos d, if_pos d, cki hk (by decide), cki hk (by decide), cln (by omega)]
      unfold f_X1_renew
      simp only [nm]
      by_cases y : a2 = 0
      · obtain ⟨M2, e1, r⟩ := sheet_ok h hk (z := 0) (by omega) ha (v := 0) rfl
        rw [if_pos y, if_pos y, bds, e1]
        exact ⟨_, _, _, rfl, rfl, r⟩
      · obtain ⟨M2, e1, r⟩ := sheet_ok h hk hz ha ez
        rw [if_neg y, if_neg y, bds, e1]
        exact ⟨_, _, _, rfl, rfl, r⟩
    · rw [if_neg d, if_neg d]; exact F
  · rw [if_neg c, if_neg c]; exact F6
theorem sim_sheet {G : Nat → StT} {M : StT} (h : Rel G M) (a1 a2 a3 : Int32) : SimR (f_X3_sheet G a1 a2 a3) (f_X4_sheet M a1 a2 a3) := by
  have F := sfnd h 0 (by decide) (a := 0) (b := -1000000001) rfl (by decide)
  unfold f_X3_sheet f_X4_sheet
  rcases sht a1 with ⟨c1, c2⟩ | ⟨k, hk, e1, c1, c2⟩
  · rw [c1, c2, bds, bds, if_pos rfl, if_pos rfl]; exact F
  · subst e1
    rw [c1, c2, bds, bds, if_neg i1n, if_neg i1n]
    by_cases z0 : a2 = 0
    · rw [if_pos z0, if_pos z0]; exact sheet_b h hk a3 (Or.inl z0)
    rw [if_neg z0, if_neg z0]
    by_cases z1 : a2 = 8
    · rw [if_pos z1, if_pos z1]; exact sheet_b h hk a3 (Or.inr (Or.inl z1))
    rw [if_neg z1, if_neg z1]
    by_cases z2 : a2 = 16
    · rw [if_pos z2, if_pos z2]; exact sheet_b h hk a3 (Or.inr (Or.inr (Or.inl z2)))
    rw [if_neg z2, if_neg z2]
    by_cases z3 : a2 = 64
    · rw [if_pos z3, if_pos z3]; exact sheet_b h hk a3 (Or.inr (Or.inr (Or.inr z3)))
    rw [if_neg z3, if_neg z3]
    exact F
