-- write, copy
theorem sub_t {z : Nat} (hz : z < 1000) {b : Int32} (h0 : 0 ≤ b.toInt) : (nI z - b).toInt = (z : Int) - b.toInt := by
  have h1 := Int32.toInt_lt b
  rw [Int32.toInt_sub, tI (by omega), Int.bmod_eq_of_le (by omega) (by omega)]
theorem sfndL {G : Nat → StT} {M : StT} (h : Rel G M) (k : Nat) (hk : k < 7) {a b : Int32} (ha : a = nI k) (hb : b = fv k) : SimR (Option.bind (f_X3_finding G a) fun z => some (Int32.toInt64 z.1, z.2)) (Option.bind (f_X4_finds M b) fun z => some (Int32.toInt64 z.1, z.2)) := by
  obtain ⟨G2, M2, e1, e2, r⟩ := fnd h hk
  subst ha; subst hb
  rw [e1, e2]
  exact ⟨(fv k).toInt64, G2, M2, rfl, rfl, r⟩
theorem lt_rng {p : Int32} {n : Nat} (hn : n ≤ 1000) (c : 0 ≤ p ∧ p ≤ nI n - 1) : ∃ j, j < n ∧ p = nI j := by
  have t : (nI n - 1).toInt = (n : Int) - 1 := by rw [li 1, pk_sub_toInt (by omega) (by omega)]; rfl
  obtain ⟨c1, c2⟩ := c
  rw [ile] at c1 c2
  have z0 : (0 : Int32).toInt = 0 := rfl
  rw [z0] at c1
  rw [t] at c2
  refine ⟨p.toInt.toNat, by omega, ?_⟩
  rw [ieq, tI (by omega)]
  omega
theorem miss_eq (A : StT) : f_X1_isMissing A = some (b2i (A.2.2 0 = 0)) := by
  unfold f_X1_isMissing b2i
  by_cases h : A.2.2 0 = 0 <;> simp [h]
theorem wrong_eq {M : StT} {k : Nat} (hk : k < 4) (h : f_X4_isOne (nI k) = some 1) : f_X4_wrongSheet M (nI k) = some (if M.1 7 k = 0 then -1000000006 else 0) := by
  unfold f_X4_wrongSheet
  rw [h, bds, if_neg i1n, cki hk (by decide), cln (by omega)]
  by_cases z : M.1 7 k = 0
  · rw [if_pos z, if_pos z]
  · rw [if_neg z, if_neg z]
theorem wrong_0 {M : StT} {a : Int32} (h : f_X4_isOne a = some 0) : f_X4_wrongSheet M a = some (-1000000001) := by
  unfold f_X4_wrongSheet
  rw [h, bds, if_pos rfl]
theorem cut_eq {A : StT} {x : Int32} (e : A.2.2 0 = x) (v : Int64) : ∃ y, f_X1_cut A v = some y ∧ f_X4_narrowed x v = some y := by
  unfold f_X1_cut f_X4_narrowed
  rw [e]
  by_cases z : x = 8
  · rw [if_pos z]; exact ⟨_, rfl, rfl⟩
  · rw [if_neg z]
    by_cases y : x = 16
    · rw [if_pos y]; exact ⟨_, rfl, rfl⟩
    · rw [if_neg y]; exact ⟨_, rfl, rfl⟩
/-- one cell of a sheet -/
theorem Rel.cell {G : Nat → StT} {M : StT} (h : Rel G M) {k j : Nat} (hk : k < 4) (hj : j < 40) (y : Int64) : Rel (gset G (5 + k) (setL (G (5 + k)) 0 (vp_updL ((G (5 + k)).2.1 0) j y))) (setL M 0 (vp_updL (M.2.1 0) (40 * k + j) y)) := by
  obtain ⟨s1, s2, s3, s4⟩ := h.sk hk
  refine h.sheet hk (fun i _ _ => rfl) rfl (fun i hi hik => ⟨rfl, rfl, fun q hq => ?_⟩) ⟨s1, s2, s3, fun i hi => ?_⟩
  · rw [setL_s, updL_i, if_neg (by omega)]
  · rw [setL_s, setL_s, updL_i, updL_i, s4 i hi]
    by_cases z : i = j
    · rw [if_pos z, if_pos (by omega)]
    · rw [if_neg z, if_neg (by omega)]
theorem sim_write {G : Nat → StT} {M : StT} (h : Rel G M) (a1 a2 : Int32) (a3 : Int64) : SimR (f_X3_write G a1 a2 a3) (f_X4_write M a1 a2 a3) := by
  have F := sfndL h 0 (by decide) (a := 0) (b := -1000000001) rfl (by decide)
  have F5 := sfndL h 5 (by decide) (a := 5) (b := -1000000006) rfl (by decide)
  unfold f_X3_write f_X4_write
  rcases sht a1 with ⟨c1, c2⟩ | ⟨k, hk, e1, c1, c2⟩
  · rw [c1, wrong_0 c2, bds, bds, if_pos rfl, if_neg (by decide)]; exact F
  · subst e1
    obtain ⟨s1, s2, ⟨z, hz, sz1, sz2⟩, s4⟩ := h.sk hk
    rw [c1, wrong_eq hk c2, bds, bds, if_neg i1n]
    simp only [nm, cki hk (by decide : 4 < 2147483648), cln (show k < 2147483648 by omega)]
    rw [miss_eq, bds, ← s1]
    by_cases m : (G (5 + k)).2.2 0 = 0
    · rw [b2i_1 m, if_neg i1n, if_pos m, if_neg (by decide)]; exact F5
    · have ein : f_X4_in a2.toInt64 (0 : Int64) (nI z - 1).toInt64 = some (b2i (0 ≤ a2 ∧ a2 ≤ nI z - 1)) := X4_inI a2 0 (nI z - 1)
      rw [b2i_0 m, if_pos rfl, if_neg m, if_pos rfl, isWithin_eq, bds, sz1, sz2, ein, bds]
      by_cases d : 0 ≤ a2 ∧ a2 ≤ nI z - 1
      · obtain ⟨j, hj, ej⟩ := lt_rng (by omega) d
        subst ej
        obtain ⟨y, y1, y2⟩ := cut_eq (A := G (5 + k)) rfl a3
        rw [b2i_1 d, if_neg i1n, if_neg i1n, at40]
        simp only [cki (show j < 40 by omega) (by decide : 40 < 2147483648), cki (show 40 * k + j < 160 by omega) (by decide : 160 < 2147483648), cln (show j < 2147483648 by omega), cln (show 40 * k + j < 2147483648 by omega), y1, y2, bds]
        refine ⟨_, _, _, rfl, ?_, h.cell hk (show j < 40 by omega) y⟩
        rw [s4 j (by omega)]
      · rw [b2i_0 d, if_pos rfl, if_pos rfl]; exact F
-- copy
def tf (f t : Nat → Int64) (a i : Nat) : Nat → Int64 := fun j => if j < i then f (a + j) else t j
def wf (t f : Nat → Int64) (b i : Nat) : Nat → Int64 := fun j => if b ≤ j ∧ j < b + i then t (j - b) else f j
theorem tf_0 (f t : Nat → Int64) (a : Nat) : tf f t a 0 = t := by
  funext j
  unfold tf
  rw [if_neg (by omega)]
theorem tf_s (f t : Nat → Int64) (a i : Nat) : vp_updL (tf f t a i) i (f (a + i)) = tf f t a (i + 1) := by
  funext j
  rw [updL_i]
  unfold tf
  by_cases z : j = i
  · rw [if_pos z, if_pos (by omega), z]
  · rw [if_neg z]
    by_cases y : j < i
    · rw [if_pos y, if_pos (by omega)]
    · rw [if_neg y, if_neg (by omega)]
theorem wf_0 (t f : Nat → Int64) (b : Nat) : wf t f b 0 = f := by
  funext j
  unfold wf
  rw [if_neg (by omega)]
theorem wf_s (t f : Nat → Int64) (b i : Nat) : vp_updL (wf t f b i) (b + i) (t i) = wf t f b (i + 1) := by
  funext j
  rw [updL_i]
  unfold wf
  by_cases z : j = b + i
  · rw [if_pos z, if_pos (by omega), z, Nat.add_sub_cancel_left]
  · rw [if_neg z]
    by_cases y : b ≤ j ∧ j < b + i
    · rw [if_pos y, if_pos (by omega)]
    · rw [if_neg y, if_neg (by omega)]
theorem setL_01 (M : StT) (f g : Nat → Int64) : setL (setL M 0 f) 0 g = setL M 0 g := setL_tw M 0 f g
theorem copy_l1 {k d n : Nat} (hk : k < 4) (hd : d + n ≤ 40) (M : StT) : ∀ (r i fuel : Nat), i + r = n → r < fuel → f_X4_copy_l157 fuel (nI k) (nI d) (nI n) (nI i) (setL M 0 (wf (M.2.1 1) (M.2.1 0) (40 * k + d) i)) = some (nI n, setL M 0 (wf (M.2.1 1) (M.2.1 0) (40 * k + d) n)) := by
  intro r
  induction r with
  | zero =>
    intro i fuel hi hf
    obtain ⟨fuel, rfl⟩ : ∃ z, fuel = z + 1 := ⟨fuel - 1, by omega⟩
    have e : i = n := by omega
    subst e
    rw [f_X4_copy_l157, if_pos ((nI_lei (by omega) (by omega)).mpr (Nat.le_refl i))]
  | succ r ih =>
    intro i fuel hi hf
    obtain ⟨fuel, rfl⟩ : ∃ z, fuel = z + 1 := ⟨fuel - 1, by omega⟩
    rw [f_X4_copy_l157, if_neg (fun q => by have := (nI_lei (by omega) (by omega)).mp q; omega), at40, nI_add, cki (show i < 40 by omega) (by decide), cki (show 40 * k + d + i < 160 by omega) (by decide), cln (by omega), cln (by omega), setL_s, setL_tw, setL_o _ _ (by decide), wf_s]
    simp only [nm]
    rw [nI_1]
    exact ih (i + 1) fuel (by omega) (by omega)
theorem copy_l0 {k s k2 d n : Nat} (hk : k < 4) (hs : s + n ≤ 40) (hk2 : k2 < 4) (hd : d + n ≤ 40) (M : StT) : ∀ (r i fuel : Nat), i + r = n → r < fuel → ∃ T, (∀ j, j < n → T j = M.2.1 0 (40 * k + s + j)) ∧ f_X4_copy_l120 fuel (nI k) (nI s) (nI k2) (nI d) (nI n) (nI i) (setL M 1 (tf (M.2.1 0) (M.2.1 1) (40 * k + s) i)) = some (nI n, setL (setL M 1 T) 0 (wf T (M.2.1 0) (40 * k2 + d) n)) := by
  intro r
  induction r with
  | zero =>
    intro i fuel hi hf
    obtain ⟨fuel, rfl⟩ : ∃ z, fuel = z + 1 := ⟨fuel - 1, by omega⟩
    have e : i = n := by omega
    subst e
    refine ⟨tf (M.2.1 0) (M.2.1 1) (40 * k + s) i, fun j hj => if_pos hj, ?_⟩
    rw [f_X4_copy_l120, if_pos ((nI_lei (by omega) (by omega)).mpr (Nat.le_refl i))]
    have l := copy_l1 hk2 hd (setL M 1 (tf (M.2.1 0) (M.2.1 1) (40 * k + s) i)) i 0 200 (by omega) (by omega)
    rw [wf_0, setL_id, setL_s, setL_o _ _ (show (0 : Nat) ≠ 1 by decide)] at l
    exact l
  | succ r ih =>
    intro i fuel hi hf
    obtain ⟨fuel, rfl⟩ : ∃ z, fuel = z + 1 := ⟨fuel - 1, by omega⟩
    rw [f_X4_copy_l120, if_neg (fun q => by have := (nI_lei (by omega) (by omega)).mp q; omega), at40, nI_add, cki (show i < 40 by omega) (by decide), cki (show 40 * k + s + i < 160 by omega) (by decide), cln (by omega), cln (by omega), setL_s, setL_tw, setL_o _ _ (show (0 : Nat) ≠ 1 by decide), tf_s]
    simp only [nm]
    rw [nI_1]
    exact ih (i + 1) fuel (by omega) (by omega)
theorem copy_ok {G : Nat → StT} {M : StT} (h : Rel G M) {k s k2 d n : Nat} (hk : k < 4) (hs : s + n ≤ 40) (hk2 : k2 < 4) (hd : d + n ≤ 40) : ∃ M2, f_X4_copy_l120 200 (nI k) (nI s) (nI k2) (nI d) (nI n) 0 M = some (nI n, M2) ∧ Rel (gset G (5 + k2) (setL (G (5 + k2)) 0 (va_cpy ((G (5 + k)).2.1 0) ((G (5 + k2)).2.1 0) s d n))) M2 := by
  obtain ⟨T, hT, l⟩ := copy_l0 hk hs hk2 hd M n 0 200 (by omega) (by omega)
  rw [tf_0, setL_id] at l
  refine ⟨_, l, ?_⟩
  obtain ⟨s1, s2, s3, s4⟩ := h.sk hk2
  obtain ⟨-, -, -, u4⟩ := h.sk hk
  refine h.sheet hk2 (fun i _ _ => rfl) rfl (fun i hi hik => ⟨rfl, rfl, fun q hq => ?_⟩) ⟨s1, s2, s3, fun i hi => ?_⟩
  · rw [setL_s]
    unfold wf
    rw [if_neg (by omega)]
  · rw [setL_s, setL_s]
    unfold wf
    by_cases z : d ≤ i ∧ i < d + n
    · rw [pk_cpy_in z.1 z.2, if_pos (by omega), hT _ (by omega), u4 _ (by omega)]
      exact congrArg (M.2.1 0) (by omega)
    · rw [pk_cpy_out (by omega), if_neg (by omega), s4 i hi]
theorem has_eq {A : StT} {z : Nat} (hz : z ≤ 40) (e : A.2.2 1 = nI z) (a b : Int32) : f_X1_has A a b = some (b2i (0 ≤ a.toInt ∧ 0 ≤ b.toInt ∧ a.toInt + b.toInt ≤ (z : Int))) := by
  have q0 : (0 : Int32).toInt = 0 := rfl
  unfold f_X1_has
  rw [e]
  by_cases c1 : a < 0
  · rw [if_pos c1]; rw [ilt, q0] at c1; rw [b2i_0 (by omega)]
  · rw [if_neg c1]; rw [ilt, q0] at c1
    by_cases c2 : b < 0
    · rw [if_pos c2]; rw [ilt, q0] at c2; rw [b2i_0 (by omega)]
    · rw [if_neg c2]; rw [ilt, q0] at c2
      by_cases c3 : nI z < b
      · rw [if_pos c3]; rw [ilt, tI (by omega)] at c3; rw [b2i_0 (by omega)]
      · rw [if_neg c3]; rw [ilt, tI (by omega)] at c3
        have t : (nI z - b).toInt = (z : Int) - b.toInt := sub_t (by omega) (by omega)
        by_cases c4 : nI z - b < a
        · rw [if_pos c4]; rw [ilt, t] at c4; rw [b2i_0 (by omega)]
        · rw [if_neg c4]; rw [ilt, t] at c4; rw [b2i_1 (by omega)]
theorem sim_copy {G : Nat → StT} {M : StT} (h : Rel G M) (a1 a2 a3 a4 a5 : Int32) : SimR (f_X3_copy G a1 a2 a3 a4 a5) (f_X4_copy M a1 a2 a3 a4 a5) := by
  have F := sfnd h 0 (by decide) (a := 0) (b := -1000000001) rfl (by decide)
  have F2 := sfnd h 2 (by decide) (a := 2) (b := -1000000003) rfl (by decide)
  have F5 := sfnd h 5 (by decide) (a := 5) (b := -1000000006) rfl (by decide)
  have q0 : (0 : Int32).toInt = 0 := rfl
  unfold f_X3_copy f_X4_copy
  rcases sht a1 with ⟨c1, c2⟩ | ⟨k, hk, e1, c1, c2⟩
  · rw [c1, c2, bds, bds, if_pos rfl, if_pos rfl]; exact F
  subst e1
  rw [c1, c2, bds, bds, if_neg i1n, if_neg i1n]
  rcases sht a3 with ⟨d1, d2⟩ | ⟨k2, hk2, e1, d1, d2⟩
  · rw [d1, d2, bds, bds, if_pos rfl, if_pos rfl]; exact F
  subst e1
  obtain ⟨s1, -, ⟨z, hz, sz1, sz2⟩, -⟩ := h.sk hk
  obtain ⟨t1, -, ⟨y, hy, ty1, ty2⟩, -⟩ := h.sk hk2
  simp only [d1, d2, bds, cki hk (by decide : 4 < 2147483648), cki hk2 (by decide : 4 < 2147483648), cln (show k < 2147483648 by omega), cln (show k2 < 2147483648 by omega), nm, miss_eq, has_eq hz sz1, has_eq hy ty1]
  rw [if_neg i1n, if_neg i1n, ← s1, ← t1, sz2, ty2]
  by_cases m : (G (5 + k)).2.2 0 = 0
  · rw [b2i_1 m, if_neg i1n, if_pos m]; exact F5
  rw [b2i_0 m, if_pos rfl, if_neg m]
  by_cases m2 : (G (5 + k2)).2.2 0 = 0
  · rw [b2i_1 m2, if_neg i1n, if_pos m2]; exact F5
  rw [b2i_0 m2, if_pos rfl, if_neg m2]
  by_cases m3 : (G (5 + k)).2.2 0 = (G (5 + k2)).2.2 0
  · rw [if_pos m3, if_pos m3]
    by_cases ok : (0 ≤ a2.toInt ∧ 0 ≤ a5.toInt ∧ a2.toInt + a5.toInt ≤ (z : Int)) ∧ (0 ≤ a4.toInt ∧ 0 ≤ a5.toInt ∧ a4.toInt + a5.toInt ≤ (y : Int))
    · obtain ⟨o1, o2⟩ := ok
      have f2 : a2 = nI a2.toInt.toNat := by rw [ieq, tI (by omega)]; omega
      have f4 : a4 = nI a4.toInt.toNat := by rw [ieq, tI (by omega)]; omega
      have f5 : a5 = nI a5.toInt.toNat := by rw [ieq, tI (by omega)]; omega
      obtain ⟨M2, l, r⟩ := copy_ok h (s := a2.toInt.toNat) (d := a4.toInt.toNat) (n := a5.toInt.toNat) hk (by omega) hk2 (by omega)
      rw [← f2, ← f4, ← f5] at l
      have u2 : (nI z - a2).toInt = (z : Int) - a2.toInt := sub_t (by omega) (by omega)
      have u4 : (nI y - a4).toInt = (y : Int) - a4.toInt := sub_t (by omega) (by omega)
      have g2 : ¬ a2 < 0 := by rw [ilt, q0]; omega
      have g4 : ¬ a4 < 0 := by rw [ilt, q0]; omega
      have g5 : ¬ a5 < 0 := by rw [ilt, q0]; omega
      have g6 : ¬ nI z - a2 < a5 := by rw [ilt, u2]; omega
      have g7 : a5 ≤ nI y - a4 := by rw [ile, u4]; omega
      have n2 : a2.toNatClampNeg = a2.toInt.toNat := rfl
      have n4 : a4.toNatClampNeg = a4.toInt.toNat := rfl
      have n5 : a5.toNatClampNeg = a5.toInt.toNat := rfl
      rw [b2i_1 o1, if_neg i1n, b2i_1 o2, if_neg i1n, if_neg g2, if_neg g4, if_neg g5, if_neg g6, if_pos g7, l]
      unfold cpk
      rw [if_neg (fun q => by rcases q with q | q | q | q | q
                              · exact g2 q
                              · exact g4 q
                              · exact g5 q
                              · rw [n2, n5] at q; omega
                              · rw [n4, n5] at q; omega)]
      exact ⟨_, _, _, rfl, rfl, r⟩
    · have e3 : (if b2i (0 ≤ a2.toInt ∧ 0 ≤ a5.toInt ∧ a2.toInt + a5.toInt ≤ (z : Int)) = 0 then (Option.bind (f_X3_finding G 0) fun z10 => some (z10.1, z10.2)) else (if b2i (0 ≤ a4.toInt ∧ 0 ≤ a5.toInt ∧ a4.toInt + a5.toInt ≤ (y : Int)) = 0 then (Option.bind (f_X3_finding G 0) fun z10 => some (z10.1, z10.2)) else (cpk a2 a4 a5 40 40 (some (a5, gset G (5 + k2) (setL (G (5 + k2)) 0 (va_cpy ((G (5 + k)).2.1 0) ((G (5 + k2)).2.1 0) (Int32.toNatClampNeg a2) (Int32.toNatClampNeg a4) (Int32.toNatClampNeg a5)))))))) = (Option.bind (f_X3_finding G 0) fun z10 => some (z10.1, z10.2)) := by
        by_cases o1 : (0 ≤ a2.toInt ∧ 0 ≤ a5.toInt ∧ a2.toInt + a5.toInt ≤ (z : Int))
        · rw [b2i_1 o1, if_neg i1n, b2i_0 (fun q => ok ⟨o1, q⟩), if_pos rfl]
        · rw [b2i_0 o1, if_pos rfl]
      rw [e3]
      by_cases g2 : a2 < 0
      · rw [if_pos g2]; exact F
      by_cases g4 : a4 < 0
      · rw [if_neg g2, if_pos g4]; exact F
      by_cases g5 : a5 < 0
      · rw [if_neg g2, if_neg g4, if_pos g5]; exact F
      rw [if_neg g2, if_neg g4, if_neg g5]
      rw [ilt, q0] at g2 g4 g5
      by_cases g6 : nI z - a2 < a5
      · rw [if_pos g6]; exact F
      rw [if_neg g6]
      have b2 := Int32.toInt_lt a2
      have b4 := Int32.toInt_lt a4
      have u2 : (nI z - a2).toInt = (z : Int) - a2.toInt := sub_t (by omega) (by omega)
      have u4 : (nI y - a4).toInt = (y : Int) - a4.toInt := sub_t (by omega) (by omega)
      have g7 : ¬ a5 ≤ nI y - a4 := by
        rw [ile, u4]; rw [ilt, u2] at g6; omega
      rw [if_neg g7]; exact F
  · rw [if_neg m3, if_neg m3]; exact F2
