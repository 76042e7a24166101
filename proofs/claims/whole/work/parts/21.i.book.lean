-- lays, book, read
theorem upd_id (f : Nat → Int32) (j : Nat) : upd f j (f j) = f := by
  funext i
  rw [upd_i]
  by_cases z : i = j
  · rw [if_pos z, z]
  · rw [if_neg z]
theorem v20 {v : Int64} (h : 0 ≤ v ∧ v ≤ 20) : ∃ w, w ≤ 20 ∧ v.toInt32 = nI w := by
  obtain ⟨h1, h2⟩ := h
  rw [lle] at h1 h2
  have q0 : (0 : Int64).toInt = 0 := rfl
  have q1 : (20 : Int64).toInt = 20 := by decide
  refine ⟨v.toInt.toNat, by omega, ?_⟩
  rw [ieq, tI (by omega), Int64.toInt_toInt32, Int.bmod_eq_of_le (by omega) (by omega)]
  omega
theorem lays_l {k : Nat} (hk : k < 4) : ∀ (r i f1 f2 : Nat) (x : Int32) (G : Nat → StT) (M : StT), Rel G M → i + r = 8 → r < f1 → r < f2 → SimR (f_X3_lays_l38 k f1 x (nI i) G) (f_X4_lays_l21 f2 (nI k) x (nI i) M) := by
  intro r
  induction r with
  | zero =>
    intro i f1 f2 x G M h hi hf1 hf2
    obtain ⟨f1, rfl⟩ : ∃ z, f1 = z + 1 := ⟨f1 - 1, by omega⟩
    obtain ⟨f2, rfl⟩ : ∃ z, f2 = z + 1 := ⟨f2 - 1, by omega⟩
    have e : i = 8 := by omega
    subst e
    rw [f_X3_lays_l38, f_X4_lays_l21, if_pos (show (8 : Int32) ≤ nI 8 by decide), if_pos (show (8 : Int32) ≤ nI 8 by decide), cki hk (by decide)]
    by_cases q : M.1 8 (nI k).toNatClampNeg ≤ nI 8
    · rw [if_pos q]; exact ⟨_, _, _, rfl, rfl, h⟩
    · rw [if_neg q]; exact ⟨_, _, _, rfl, rfl, h⟩
  | succ r ih =>
    intro i f1 f2 x G M h hi hf1 hf2
    obtain ⟨f1, rfl⟩ : ∃ z, f1 = z + 1 := ⟨f1 - 1, by omega⟩
    obtain ⟨f2, rfl⟩ : ∃ z, f2 = z + 1 := ⟨f2 - 1, by omega⟩
    obtain ⟨s1, -, ⟨z, hz, sz1, sz2⟩, s4⟩ := h.sk hk
    have nl : ¬ (8 : Int32) ≤ nI i := fun q => by have := (nI_lei (a := 8) (by omega) (by omega)).mp q; omega
    have ec : f_X4_chairAt (nI i) 0 = some (nI (2 + 2 * i + 0)) := chairAt_eq i 0
    rw [f_X3_lays_l38, f_X4_lays_l21, if_neg nl, if_neg nl, cki hk (by decide), cln (show k < 2147483648 by omega), sz1, sz2]
    by_cases q : nI z ≤ nI i
    · rw [if_pos q, if_pos q]; exact ⟨_, _, _, rfl, rfl, h⟩
    · obtain ⟨⟨n, ri, re⟩, -⟩ := id h
      have sv := s4 i (by omega)
      rw [if_neg q, if_neg q, at40]
      simp only [cki (show i < 40 by omega) (by decide : 40 < 2147483648), cki (show 40 * k + i < 160 by omega) (by decide : 160 < 2147483648), cln (show i < 2147483648 by omega), cln (show 40 * k + i < 2147483648 by omega)]
      rw [← sv, X4_in_eq, bds, ec, bds, bds]
      simp only [nm, lgc_neg, lgc_pos]
      unfold f_X3_lays_b95 f_X4_lays_b102 f_X4_lays_b114
      simp only [nm, nI_1, cki (show 2 + 2 * i + 0 < 66 by omega) (by decide : 66 < 2147483648), cki (show i < 8 by omega) (by decide : 8 < 2147483648), cln (show 2 + 2 * i + 0 < 2147483648 by omega)]
      generalize (G (5 + k)).2.1 0 i = v at sv ⊢
      by_cases c : 0 ≤ v ∧ v ≤ 20
      · obtain ⟨w, hw, ew⟩ := v20 c
        have c1 : ¬ v < 0 := fun y => by have := c.1; rw [lle] at this; rw [llt] at y; omega
        have c2 : ¬ 20 < v := fun y => by have := c.2; rw [lle] at this; rw [llt] at y; omega
        rw [if_neg c1, if_neg c2, b2i_1 c, if_neg i1n, if_neg i1n, ew]
        refine ih (i + 1) f1 f2 _ _ _ ?_ (by omega) (by omega) (by omega)
        exact h.room (ri.view hw) (re.chair ri.1 (by omega) (by decide) (nI w))
      · rw [b2i_0 c, if_pos rfl, if_pos rfl, upd_id, setA_id, add0]
        have ii := ih (i + 1) f1 f2 x G M h (by omega) (by omega) (by omega)
        by_cases c1 : v < 0
        · rw [if_pos c1]; exact ii
        · have c2 : 20 < v := by
            rw [llt] at c1 ⊢
            rw [lle, lle] at c
            omega
          rw [if_neg c1, if_pos c2]; exact ii
theorem sim_lays {G : Nat → StT} {M : StT} (h : Rel G M) (a1 : Int32) : SimR (f_X3_lays G a1) (f_X4_lays M a1) := by
  have F := sfnd h 0 (by decide) (a := 0) (b := -1000000001) rfl (by decide)
  have F5 := sfnd h 5 (by decide) (a := 5) (b := -1000000006) rfl (by decide)
  unfold f_X3_lays f_X4_lays
  rcases sht a1 with ⟨c1, c2⟩ | ⟨k, hk, e1, c1, c2⟩
  · rw [c1, wrong_0 c2, bds, bds, if_pos rfl, if_neg (by decide)]; exact F
  · subst e1
    obtain ⟨s1, -⟩ := h.sk hk
    rw [c1, wrong_eq hk c2, bds, bds, if_neg i1n, cki hk (by decide), cln (by omega)]
    simp only [nm]
    rw [miss_eq, bds, ← s1]
    by_cases m : (G (5 + k)).2.2 0 = 0
    · rw [b2i_1 m, if_neg i1n, if_pos m, if_neg (by decide)]; exact F5
    · rw [b2i_0 m, if_pos rfl, if_neg m, if_pos rfl]
      exact lays_l hk 8 0 200 200 0 G M h (by omega) (by omega) (by omega)
-- book
theorem nar_m1 : f_X4_narrowed 8 (Int32.toInt64 (-1)) = some (Int32.toInt64 (-1)) ∧ f_X4_narrowed 16 (Int32.toInt64 (-1)) = some (Int32.toInt64 (-1)) ∧ f_X4_narrowed 64 (Int32.toInt64 (-1)) = some (Int32.toInt64 (-1)) := by decide
theorem nar_c : ∀ c, c < 8 → f_X4_narrowed 8 (Int32.toInt64 (nI c)) = some (Int32.toInt64 (nI c)) ∧ f_X4_narrowed 16 (Int32.toInt64 (nI c)) = some (Int32.toInt64 (nI c)) ∧ f_X4_narrowed 64 (Int32.toInt64 (nI c)) = some (Int32.toInt64 (nI c)) := by decide
theorem nar_ok {x k : Int32} (hx : x = -1 ∨ ∃ c, c < 8 ∧ x = nI c) (hk : k = 8 ∨ k = 16 ∨ k = 64) : f_X4_narrowed k x.toInt64 = some x.toInt64 := by
  rcases hx with e | ⟨c, hc, e⟩
  · subst e
    rcases hk with e | e | e
    · subst e; exact nar_m1.1
    · subst e; exact nar_m1.2.1
    · subst e; exact nar_m1.2.2
  · subst e
    obtain ⟨q1, q2, q3⟩ := nar_c c hc
    rcases hk with e | e | e
    · subst e; exact q1
    · subst e; exact q2
    · subst e; exact q3
theorem OnR.g {G : Nat → StT} {M : StT} {n : Nat} {G1 : Nat → StT} {M1 : StT} (o : OnR G M n G1 M1) {k : Nat} (h0 : k ≠ 0) (h2 : k ≠ 2) : G1 k = G k := o.2.2.1.1 k h0 h2
theorem OnR.m {G : Nat → StT} {M : StT} {n : Nat} {G1 : Nat → StT} {M1 : StT} (o : OnR G M n G1 M1) {k : Nat} (h0 : k ≠ 0) (h3 : k ≠ 3) : M1.1 k = M.1 k := o.2.2.2.2.1 k h0 h3
theorem OnR.cell {G : Nat → StT} {M : StT} {n : Nat} {G1 : Nat → StT} {M1 : StT} (o : OnR G M n G1 M1) {k : Nat} (A : StT) (f : Nat → Int64) : OnR (gset G (5 + k) A) (setL M 0 f) n (gset G1 (5 + k) A) (setL M1 0 f) := by
  obtain ⟨a1, a2, a3, a4, a5, a6⟩ := o
  refine ⟨by rw [gset_o _ _ (by omega)]; exact a1, by rw [gset_o _ _ (by omega)]; exact a2, ⟨fun j h0 h2 => ?_, ?_, ?_⟩, a4, a5, ?_⟩
  · by_cases z : j = 5 + k
    · rw [z, gset_s, gset_s]
    · rw [gset_o _ _ z, gset_o _ _ z]; exact a3.1 j h0 h2
  · rw [gset_o _ _ (by omega), gset_o _ _ (by omega)]; exact a3.2.1
  · rw [gset_o _ _ (by omega), gset_o _ _ (by omega)]; exact a3.2.2
  · unfold setL
    rw [a6]
theorem book_l {k p n z : Nat} (hk : k < 4) (hn : n ≤ 8) (hp : p < n) (hz : z ≤ 40) : ∀ (r i f1 f2 : Nat) (G : Nat → StT) (M : StT) (G1 : Nat → StT) (M1 : StT), Rel G M → OnR G M n G1 M1 → (G (5 + k)).2.2 1 = nI z → ¬ (G (5 + k)).2.2 0 = 0 → i + r = z → r < f1 → r < f2 → SimR (f_X3_book_l61 k f1 (nI p) (nI i) G1) (f_X4_book_l24 f2 (nI k) (nI p) (nI i) M1) := by
  intro r
  induction r with
  | zero =>
    intro i f1 f2 G M G1 M1 h o sz nz hi hf1 hf2
    obtain ⟨f1, rfl⟩ : ∃ z, f1 = z + 1 := ⟨f1 - 1, by omega⟩
    obtain ⟨f2, rfl⟩ : ∃ z, f2 = z + 1 := ⟨f2 - 1, by omega⟩
    have e : i = z := by omega
    subst e
    obtain ⟨-, -, ⟨y, hy, sy1, sy2⟩, -⟩ := h.sk hk
    have ey : nI y = nI i := sy1.symm.trans sz
    have le := (nI_lei (a := i) (b := i) (by omega) (by omega)).mpr (Nat.le_refl i)
    rw [f_X3_book_l61, f_X4_book_l24]
    simp only [cki hk (by decide : 4 < 2147483648), cln (show k < 2147483648 by omega)]
    rw [o.g (by omega) (by omega), o.m (by decide) (by decide), sz, sy2, ey, if_pos le, if_pos le, X4_takesBack_eq, bds]
    exact ⟨_, _, _, rfl, rfl, o.fin h⟩
  | succ r ih =>
    intro i f1 f2 G M G1 M1 h o sz nz hi hf1 hf2
    obtain ⟨f1, rfl⟩ : ∃ z, f1 = z + 1 := ⟨f1 - 1, by omega⟩
    obtain ⟨f2, rfl⟩ : ∃ z, f2 = z + 1 := ⟨f2 - 1, by omega⟩
    obtain ⟨s1, s2, ⟨y, hy, sy1, sy2⟩, -⟩ := h.sk hk
    have ey : nI y = nI z := sy1.symm.trans sz
    have nl : ¬ nI z ≤ nI i := fun q => by have := (nI_lei (by omega) (by omega)).mp q; omega
    have seat := (o.1.2.2.2.1 p hp).2.2.2.2
    have nar := nar_ok seat (k := (G (5 + k)).2.2 0) (s2.elim (fun q => absurd q nz) id)
    have e5 : G1 (5 + k) = G (5 + k) := o.g (by omega) (by omega)
    have o2 := o.cell (k := k) (setL (G (5 + k)) 0 (vp_updL ((G (5 + k)).2.1 0) i ((G1 2).1 8 p).toInt64)) (vp_updL (M.2.1 0) (40 * k + i) ((G1 2).1 8 p).toInt64)
    have h2 := h.cell hk (show i < 40 by omega) ((G1 2).1 8 p).toInt64
    obtain ⟨M2, p1, p2, o3⟩ := o2.hour
    rw [gset_o _ _ (show (2 : Nat) ≠ 5 + k by omega)] at p1 p2 o3
    rw [f_X3_book_l61, f_X4_book_l24]
    simp only [cki hk (by decide : 4 < 2147483648), cln (show k < 2147483648 by omega)]
    rw [e5, o.m (by decide) (by decide), o.m (k := 7) (by decide) (by decide), sz, sy2, ey, if_neg nl, if_neg nl, X4_its5 o.2.1 hn hp, bds, ← s1, nar, bds, at40, cki (show p < 8 by omega) (by decide), cki (show i < 40 by omega) (by decide), cki (show 40 * k + i < 160 by omega) (by decide), cln (show p < 2147483648 by omega), cln (show i < 2147483648 by omega), cln (show 40 * k + i < 2147483648 by omega), show M1.2.1 0 = M.2.1 0 by rw [o.2.2.2.2.2]]
    simp only [nm]
    rw [gset_o _ _ (show (2 : Nat) ≠ 5 + k by omega), p1, bds, p2, bds, nI_1]
    refine ih (i + 1) f1 f2 _ _ _ _ h2 o3 ?_ ?_ (by omega) (by omega) (by omega)
    · rw [gset_s]; exact sz
    · rw [gset_s]; exact nz
theorem wrongBook_eq {G : Nat → StT} {M : StT} {k : Nat} (hk : k < 4) (h : f_X4_isOne (nI k) = some 1) {a : Int32} {b : Int32} (hb : f_X4_isPerson M a = some b) : f_X4_wrongBook M (nI k) a = some (if M.1 7 k = 0 then -1000000006 else if b = 0 then -1000000001 else 0) := by
  unfold f_X4_wrongBook
  rw [wrong_eq hk h, bds, hb, bds]
  by_cases z : M.1 7 k = 0
  · rw [if_pos z, if_pos z, if_neg (by decide)]
  · rw [if_neg z, if_neg z, if_pos rfl]
    by_cases y : b = 0
    · rw [if_pos y, if_pos y]
    · rw [if_neg y, if_neg y]
theorem wrongBook_0 {M : StT} {a b : Int32} (h : f_X4_isOne a = some 0) : f_X4_wrongBook M a b = some (-1000000001) := by
  unfold f_X4_wrongBook
  rw [wrong_0 h, bds, if_neg (by decide)]
theorem sim_book {G : Nat → StT} {M : StT} (h : Rel G M) (a1 a2 : Int32) : SimR (f_X3_book G a1 a2) (f_X4_book M a1 a2) := by
  have F := sfnd h 0 (by decide) (a := 0) (b := -1000000001) rfl (by decide)
  have F5 := sfnd h 5 (by decide) (a := 5) (b := -1000000006) rfl (by decide)
  obtain ⟨⟨n, i, e⟩, -⟩ := id h
  have hn := i.1
  unfold f_X3_book f_X4_book
  rcases sht a1 with ⟨c1, c2⟩ | ⟨k, hk, e1, c1, c2⟩
  · rw [c1, wrongBook_0 c2, bds, bds, if_pos rfl, if_neg (by decide)]; exact F
  · subst e1
    obtain ⟨s1, -, ⟨z, hz, sz1, -⟩, -⟩ := h.sk hk
    rw [c1, bds, if_neg i1n, cki hk (by decide), cln (by omega)]
    simp only [nm]
    rcases there i e a2 with ⟨d1, d2⟩ | ⟨p, hp, e1, d1, d2⟩
    · rw [wrongBook_eq (G := G) hk c2 d2, bds, miss_eq, bds, ← s1, d1, bds]
      by_cases m : (G (5 + k)).2.2 0 = 0
      · rw [b2i_1 m, if_neg i1n, if_pos m, if_neg (by decide)]; exact F5
      · rw [b2i_0 m, if_pos rfl, if_neg m, if_pos rfl, if_pos rfl, if_neg (by decide)]; exact F
    · subst e1
      rw [wrongBook_eq (G := G) hk c2 d2, bds, miss_eq, bds, ← s1, d1, bds]
      by_cases m : (G (5 + k)).2.2 0 = 0
      · rw [b2i_1 m, if_neg i1n, if_pos m, if_neg (by decide)]; exact F5
      · obtain ⟨A, ea, -, el, o⟩ := on_start i e
        rw [b2i_0 m, if_pos rfl, if_neg m, if_neg i1n, if_neg i1n, if_pos rfl, ea, bds, el, bds, gset_1]
        exact book_l hk hn hp hz z 0 200 200 G M _ _ h o sz1 m (by omega) (by omega) (by omega)
