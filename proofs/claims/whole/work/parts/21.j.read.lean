-- read
theorem told_l {G : Nat → StT} {M : StT} (h : Rel G M) {k p n z : Nat} (hk : k < 4) (hn : n ≤ 8) (hp : p < n) (hz : z ≤ 40) (sz : (G (5 + k)).2.2 1 = nI z) : ∀ (r i f1 f2 : Nat) (G1 : Nat → StT) (M1 : StT), OnR G M n G1 M1 → i + r = z → r < f1 → r < f2 → ∃ b G2 M2, (b = 0 ∨ b = 1) ∧ f_X3_goesAsTold_l2 k f1 (nI p) (nI i) G1 = some (b, G2) ∧ f_X4_isBook_l2 f2 (nI k) (nI p) (nI i) M1 = some (b, M2) ∧ OnR G M n G2 M2 := by
  obtain ⟨-, -, ⟨y, hy, sy1, sy2⟩, s4⟩ := h.sk hk
  have ey : nI y = nI z := sy1.symm.trans sz
  intro r
  induction r with
  | zero =>
    intro i f1 f2 G1 M1 o hi hf1 hf2
    obtain ⟨f1, rfl⟩ : ∃ z, f1 = z + 1 := ⟨f1 - 1, by omega⟩
    obtain ⟨f2, rfl⟩ : ∃ z, f2 = z + 1 := ⟨f2 - 1, by omega⟩
    have e : i = z := by omega
    subst e
    have le := (nI_lei (a := i) (b := i) (by omega) (by omega)).mpr (Nat.le_refl i)
    refine ⟨1, G1, M1, Or.inr rfl, ?_, ?_, o⟩
    · rw [f_X3_goesAsTold_l2, o.g (by omega) (by omega), sz, if_pos le]
    · rw [f_X4_isBook_l2, cki hk (by decide), cln (by omega), o.m (by decide) (by decide), sy2, ey, if_pos le]
  | succ r ih =>
    intro i f1 f2 G1 M1 o hi hf1 hf2
    obtain ⟨f1, rfl⟩ : ∃ z, f1 = z + 1 := ⟨f1 - 1, by omega⟩
    obtain ⟨f2, rfl⟩ : ∃ z, f2 = z + 1 := ⟨f2 - 1, by omega⟩
    have nl : ¬ nI z ≤ nI i := fun q => by have := (nI_lei (by omega) (by omega)).mp q; omega
    obtain ⟨M2, p1, p2, o3⟩ := o.hour
    rw [f_X3_goesAsTold_l2, f_X4_isBook_l2, cki hk (by decide), cln (show k < 2147483648 by omega), o.g (by omega) (by omega), o.m (by decide) (by decide), sz, sy2, ey, if_neg nl, if_neg nl, X4_its5 o.2.1 hn hp, bds, at40, cki (show p < 8 by omega) (by decide), cki (show i < 40 by omega) (by decide), cki (show 40 * k + i < 160 by omega) (by decide), cln (show p < 2147483648 by omega), cln (show i < 2147483648 by omega), cln (show 40 * k + i < 2147483648 by omega), show M1.2.1 0 = M.2.1 0 by rw [o.2.2.2.2.2], s4 i (by omega)]
    by_cases c : lg_cmp (M.2.1 0 (40 * k + i)) ((G1 2).1 8 p).toInt64 = 0
    · rw [if_pos c, if_pos c, p1, bds, p2, bds]
      simp only [nm]
      rw [nI_1]
      exact ih (i + 1) f1 f2 _ _ o3 (by omega) (by omega) (by omega)
    · rw [if_neg c, if_neg c]
      exact ⟨0, G1, M1, Or.inl rfl, rfl, rfl, o⟩
/-- between two of the 54: the row is as it was, and laid aside -/
def JR (G : Nat → StT) (M : StT) (G1 : Nat → StT) (M1 : StT) : Prop :=
  GF G G1 ∧ (∀ j, j < 66 → M1.1 3 j = M.1 0 j) ∧ (∀ j, j < 66 → M1.1 0 j = M.1 0 j) ∧ (∀ k, k ≠ 0 → k ≠ 3 → M1.1 k = M.1 k) ∧ M1.2 = M.2
theorem OnR.jr {G : Nat → StT} {M : StT} {n : Nat} {G1 : Nat → StT} {M1 : StT} (o : OnR G M n G1 M1) : JR G M G1 (setA M1 0 (cp66 (M1.1 3) (M1.1 0))) := by
  obtain ⟨a1, a2, a3, a4, a5, a6⟩ := o
  refine ⟨a3, fun j hj => ?_, fun j hj => ?_, fun k h0 h3 => ?_, a6⟩
  · rw [setA_o _ _ (by decide)]; exact a4 j hj
  · rw [setA_s, cp_in hj]; exact a4 j hj
  · rw [setA_o _ _ h0]; exact a5 k h0 h3
theorem JR.fin {G : Nat → StT} {M : StT} (h : Rel G M) {G1 : Nat → StT} {M1 : StT} (j : JR G M G1 M1) : Rel G1 M1 := by
  obtain ⟨a3, a4, b4, a5, a6⟩ := j
  exact h.fr a3 ⟨b4, fun k h0 _ h3 _ => a5 k h0 h3, by rw [a6], by rw [a6], by rw [a6]⟩
/-- one person with another kind and another claim -/
theorem JR.try2 {G : Nat → StT} {M : StT} {n p kd : Nat} {cl : Int32} (i : RI n (G 1)) (e : RE n (G 1) (M.1 0)) (hp : p < n) (hkd : kd < 6) (hcl : cl = -1 ∨ ∃ c, c < 8 ∧ cl = nI c) {G1 : Nat → StT} {M1 : StT} (j : JR G M G1 M1) : ∃ A, f_X0_become (G1 2, G1 1) = some (A, G1 1) ∧ OnR G M n (gset G1 2 (setA (setA A 3 (upd (A.1 3) p (nI kd))) 5 (upd (A.1 5) p cl))) (setA (setA M1 0 (upd (M1.1 0) (18 + 6 * p + 0) (nI kd))) 0 (upd (upd (M1.1 0) (18 + 6 * p + 0) (nI kd)) (18 + 6 * p + 2) cl)) := by
  obtain ⟨a3, a4, b4, a5, a6⟩ := j
  obtain ⟨A, ea, e8⟩ := X0_become_eq (G1 2) (G1 1)
  rw [a3.1 1 (by decide) (by decide)] at e8
  have hn := i.1
  have iA := i.e8 e8
  have eA : RE n A (M1.1 0) := (e.e8 hn e8).s66 hn b4
  have i2 := iA.kind (p := p) hkd
  have i3 := i2.claim hp hcl
  have e2 := eA.pers hn hp (w := 0) (by decide) (nI kd)
  have e3 := e2.pers hn hp (w := 2) (by decide) cl
  rw [setA_o _ _ (by decide)] at i3
  refine ⟨A, ea, ?_, ?_, a3.tr (GF.set2 _ _), fun j hj => ?_, fun k h0 h3 => ?_, a6⟩
  · rw [gset_s]; exact i3
  · rw [gset_s, setA_s]
    exact e3
  · rw [setA_o _ _ (by decide), setA_o _ _ (by decide)]; exact a4 j hj
  · rw [setA_o _ _ h0, setA_o _ _ h0]; exact a5 k h0 h3
theorem t54 : ∀ t, t < 54 → nI t / 9 = nI (t / 9) ∧ (nI t - nI t / 9 * 9) - 1 = nI (t % 9) - 1 := by decide
theorem c9a : ∀ c, c < 9 → (¬ (8 : Int32) ≤ nI c - 1) ∧ nI c - 1 + 1 = nI (c + 1) - 1 := by decide
theorem c9b {c : Nat} (hc : c < 9) : nI c - 1 = -1 ∨ ∃ d, d < 8 ∧ nI c - 1 = nI d := by
  by_cases z : c = 0
  · subst z; exact Or.inl (by decide)
  · exact Or.inr ⟨c - 1, by omega, by rw [li 1]; exact pk_sub (by omega)⟩
theorem read_l {G : Nat → StT} {M : StT} (h : Rel G M) {k p n z : Nat} (hk : k < 4) (hp : p < n) (i : RI n (G 1)) (e : RE n (G 1) (M.1 0)) (hz : z ≤ 40) (sz : (G (5 + k)).2.2 1 = nI z) {kd f1 : Nat} (hkd : kd < 6)
    (H : ∀ (f2 : Nat) (x : Int32) (G1 : Nat → StT) (M1 : StT), 54 - 9 * (kd + 1) < f2 → JR G M G1 M1 → SimR (f_X3_read_l53 k f1 (nI p) x (nI (kd + 1)) G1) (f_X4_read_l27 f2 (nI k) (nI p) x (nI (9 * (kd + 1))) M1)) :
    ∀ (r c f2 f3 : Nat) (x : Int32) (G1 : Nat → StT) (M1 : StT), JR G M G1 M1 → c + r = 9 → r < f3 → 54 - (9 * kd + c) < f2 → SimR (f_X3_read_l63 k (f_X3_read_l53 k f1) f3 (nI p) x (nI kd) (nI c - 1) G1) (f_X4_read_l27 f2 (nI k) (nI p) x (nI (9 * kd + c)) M1) := by
  have hn := i.1
  intro r
  induction r with
  | zero =>
    intro c f2 f3 x G1 M1 j hc hf3 hf2
    obtain ⟨f3, rfl⟩ : ∃ z, f3 = z + 1 := ⟨f3 - 1, by omega⟩
    have ec : c = 9 := by omega
    subst ec
    rw [f_X3_read_l63, if_pos (show (8 : Int32) ≤ nI 9 - 1 by decide)]
    simp only [nm]
    rw [nI_1]
    exact H f2 x G1 M1 (by omega) j
  | succ r ih =>
    intro c f2 f3 x G1 M1 j hc hf3 hf2
    obtain ⟨f3, rfl⟩ : ∃ z, f3 = z + 1 := ⟨f3 - 1, by omega⟩
    obtain ⟨f2, rfl⟩ : ∃ z, f2 = z + 1 := ⟨f2 - 1, by omega⟩
    obtain ⟨q1, q2⟩ := c9a c (by omega)
    obtain ⟨u1, u2⟩ := t54 (9 * kd + c) (by omega)
    rw [show (9 * kd + c) / 9 = kd by omega] at u1
    rw [show (9 * kd + c) % 9 = c by omega] at u2
    obtain ⟨A, ea, o⟩ := JR.try2 (kd := kd) i e hp hkd (c9b (show c < 9 by omega)) j
    obtain ⟨b, G2, M2, hb, b1, b2, o2⟩ := told_l h hk hn hp hz sz z 0 200 200 _ _ o (by omega) (by omega) (by omega)
    have e0 : f_X4_spotOf (nI p) 0 = some (nI (18 + 6 * p + 0)) := spotOf_eq p 0
    have e2 : f_X4_spotOf (nI p) 2 = some (nI (18 + 6 * p + 2)) := spotOf_eq p 2
    have nl : ¬ (54 : Int32) ≤ nI (9 * kd + c) := fun q => by have := (nI_lei (a := 54) (by omega) (by omega)).mp q; omega
    rw [f_X3_read_l63, f_X4_read_l27, if_neg q1, if_neg nl, ea, bds, u2, u1]
    simp only [nm, e0, e2, bds, cki (show 18 + 6 * p + 0 < 66 by omega) (by decide : 66 < 2147483648), cln (show 18 + 6 * p + 0 < 2147483648 by omega), cki (show p < 8 by omega) (by decide : 8 < 2147483648), cln (show p < 2147483648 by omega), gset_s, gset_tw, gset_bk G1 A (show (1 : Nat) ≠ 2 by decide), cki (show 18 + 6 * p + 2 < 66 by omega) (by decide : 66 < 2147483648), cln (show 18 + 6 * p + 2 < 2147483648 by omega), setA_s, setA_o _ _ (show (5 : Nat) ≠ 3 by decide)]
    unfold f_X3_goesAsTold f_X4_isBook
    have b1 : f_X3_goesAsTold_l2 k 200 (nI p) 0 (gset G1 2 (setA (setA A 3 (upd (A.1 3) p (nI kd))) 5 (upd (A.1 5) p (nI c - 1)))) = some (b, G2) := b1
    have b2 : f_X4_isBook_l2 200 (nI k) (nI p) 0 (setA (setA M1 0 (upd (M1.1 0) (18 + 6 * p + 0) (nI kd))) 0 (upd (upd (M1.1 0) (18 + 6 * p + 0) (nI kd)) (18 + 6 * p + 2) (nI c - 1))) = some (b, M2) := b2
    rw [b1, bds, b2, bds]
    unfold f_X3_read_b115 f_X4_read_b83
    simp only [nm, X4_takesBack_eq, bds, q2, nI_1, add0]
    rcases hb with z | z
    · subst z
      rw [if_pos rfl, if_pos rfl]
      exact ih (c + 1) f2 f3 x _ _ o2.jr (by omega) (by omega) (by omega)
    · subst z
      rw [if_neg i1n, if_neg i1n]
      exact ih (c + 1) f2 f3 (x + 1) _ _ o2.jr (by omega) (by omega) (by omega)
theorem read_o {G : Nat → StT} {M : StT} (h : Rel G M) {k p n z : Nat} (hk : k < 4) (hp : p < n) (i : RI n (G 1)) (e : RE n (G 1) (M.1 0)) (hz : z ≤ 40) (sz : (G (5 + k)).2.2 1 = nI z) :
    ∀ (r kd f1 f2 : Nat) (x : Int32) (G1 : Nat → StT) (M1 : StT), kd + r = 6 → r < f1 → 54 - 9 * kd < f2 → JR G M G1 M1 → SimR (f_X3_read_l53 k f1 (nI p) x (nI kd) G1) (f_X4_read_l27 f2 (nI k) (nI p) x (nI (9 * kd)) M1) := by
  intro r
  induction r with
  | zero =>
    intro kd f1 f2 x G1 M1 hkd hf1 hf2 j
    obtain ⟨f1, rfl⟩ : ∃ z, f1 = z + 1 := ⟨f1 - 1, by omega⟩
    obtain ⟨f2, rfl⟩ : ∃ z, f2 = z + 1 := ⟨f2 - 1, by omega⟩
    have ek : kd = 6 := by omega
    subst ek
    rw [f_X3_read_l53, f_X4_read_l27, if_pos (show (6 : Int32) ≤ nI 6 by decide), if_pos (show (54 : Int32) ≤ nI (9 * 6) by decide)]
    exact ⟨_, _, _, rfl, rfl, j.fin h⟩
  | succ r ih =>
    intro kd f1 f2 x G1 M1 hkd hf1 hf2 j
    obtain ⟨f1, rfl⟩ : ∃ z, f1 = z + 1 := ⟨f1 - 1, by omega⟩
    rw [f_X3_read_l53, if_neg (fun q => by have := (nI_lei (a := 6) (by omega) (by omega)).mp q; omega)]
    exact read_l h hk hp i e hz sz (by omega) (fun f2 x G1 M1 hf j => ih (kd + 1) f1 f2 x G1 M1 (by omega) (by omega) hf j) 9 0 f2 200 x G1 M1 j (by omega) (by omega) (by omega)
theorem sim_read {G : Nat → StT} {M : StT} (h : Rel G M) (a1 a2 : Int32) : SimR (f_X3_read G a1 a2) (f_X4_read M a1 a2) := by
  have F := sfnd h 0 (by decide) (a := 0) (b := -1000000001) rfl (by decide)
  have F5 := sfnd h 5 (by decide) (a := 5) (b := -1000000006) rfl (by decide)
  obtain ⟨⟨n, i, e⟩, -⟩ := id h
  have hn := i.1
  unfold f_X3_read f_X4_read
  rcases sht a1 with ⟨c1, c2⟩ | ⟨k, hk, e1, c1, c2⟩
  · rw [c1, wrongBook_0 c2, bds, bds, if_pos rfl, if_neg (by decide)]; exact F
  · subst e1
    obtain ⟨s1, -, ⟨z, hz, sz1, -⟩, -⟩ := h.sk hk
    rw [c1, bds, if_neg i1n, cki hk (by decide), cln (by omega)]
    simp only [nm]
    rcases there i e a2 with ⟨d1, d2⟩ | ⟨p, hp, e1, d1, d2⟩
    · rw [wrongBook_eq (G := G) hk c2 d2, bds, miss_eq, bds, ← s1, d1, bds]
      by_cases m : (G (5 + k)).2.2 0 = 0
      · rw [b2i_1 m, if_neg i1n, if_pos m, if_neg (by decide)]; exact F5
      · rw [b2i_0 m, if_pos rfl, if_neg m, if_pos rfl, if_pos rfl, if_neg (by decide)]; exact F
    · subst e1
      rw [wrongBook_eq (G := G) hk c2 d2, bds, miss_eq, bds, ← s1, d1, bds]
      by_cases m : (G (5 + k)).2.2 0 = 0
      · rw [b2i_1 m, if_neg i1n, if_pos m, if_neg (by decide)]; exact F5
      · rw [b2i_0 m, if_pos rfl, if_neg m, if_neg i1n, if_neg i1n, if_pos rfl, X4_laysAside_eq, bds]
        exact read_o h hk hp i e hz sz1 6 0 200 200 0 G _ (by omega) (by omega) (by omega) ⟨GF.rf G, fun j hj => by rw [setA_s, cp_in hj], fun j hj => by rw [setA_o _ _ (by decide)], fun k _ h3 => setA_o _ _ h3, rfl⟩
