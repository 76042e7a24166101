-- the text: all its items, and the room
theorem b59_ok {M : StT} (h7 : M.2.2 7 = 0) (h : M.2.2 3 ≤ M.2.2 4) (x : Int32) : f_X4_room_b59 x M = some (x, setF M 3 0) := by
  unfold f_X4_room_b59 f_X4_room_b83 f_X4_room_b97
  rw [if_pos h7, if_pos h, ckb0]
  simp only [nm]
  rw [setF_id h7, if_pos h7, setF_o _ _ (show (7 : Nat) ≠ 3 by decide), if_pos h7]
theorem nm_eq {α β : Type} (e : α) (k : α → β) : nm e k = k e := rfl
theorem b97_w {M : StT} (h : M.2.2 7 = 1) (x : Int32) : f_X4_room_b97 x M = some (-1 - M.2.2 4, setF M 3 0) := by
  have e7 : (setF M 3 0).2.2 7 = 1 := (setF_o _ _ (by decide)).trans h
  have e4 : (setF M 3 0).2.2 4 = M.2.2 4 := setF_o _ _ (by decide)
  unfold f_X4_room_b97
  rw [nm_eq, e7, if_neg i1n, e4]
theorem b83_w (M : StT) (x : Int32) : f_X4_room_b83 x 1 M = Option.bind (f_X4_putsBack (setF M 7 1)) fun z => f_X4_room_b97 x z := by
  have e7 : (setF M 7 1).2.2 7 = 1 := setF_s _ _ _
  unfold f_X4_room_b83
  rw [ckb1, nm_eq, e7, if_neg i1n]
abbrev wrM (M : StT) : StT := setA (setF M 7 1) 0 (cp66 ((setF M 7 1).1 2) ((setF M 7 1).1 0))
theorem b78_w (M : StT) (x : Int32) : f_X4_room_b78 x M = some (-1 - M.2.2 4, setF (wrM M) 3 0) := by
  have e7 : (wrM M).2.2 7 = 1 := setF_s _ _ _
  have e4 : (wrM M).2.2 4 = M.2.2 4 := setF_o _ _ (by decide)
  unfold f_X4_room_b78
  rw [b83_w, X4_putsBack_eq, bds, b97_w e7, e4]
theorem b59_w {M : StT} (h : ¬ M.2.2 7 = 0 ∨ ¬ M.2.2 3 ≤ M.2.2 4) (x : Int32) : f_X4_room_b59 x M = some (-1 - M.2.2 4, setF (wrM M) 3 0) := by
  unfold f_X4_room_b59
  rw [b78_w]
  by_cases z : M.2.2 7 = 0
  · rw [if_pos z, if_neg (h.resolve_left (fun q => q z))]
  · rw [if_neg z]
/-- what the reference keeps while it reads -/
def FMM (M M2 : StT) : Prop := (∀ q, q ≠ 0 → M2.1 q = M.1 q) ∧ M2.2.1 = M.2.1 ∧ ∀ q, q ≠ 3 → q ≠ 4 → q ≠ 5 → q ≠ 6 → q ≠ 7 → M2.2.2 q = M.2.2 q
theorem FMM.tr {A B C : StT} (h : FMM A B) (g : FMM B C) : FMM A C := ⟨fun q hq => (g.1 q hq).trans (h.1 q hq), g.2.1.trans h.2.1, fun q h3 h4 h5 h6 h7 => (g.2.2 q h3 h4 h5 h6 h7).trans (h.2.2 q h3 h4 h5 h6 h7)⟩
theorem FMM.fb {T M T2 M2 : StT} (h : FB T M T2 M2) : FMM M M2 := ⟨h.2.1, h.2.2.1, fun q _ h4 h5 h6 h7 => h.2.2.2 q h4 h5 h6 h7⟩
theorem FMM.fm {M M2 : StT} (h : FM M M2) : FMM M M2 := ⟨fun q _ => by rw [h.1], h.2.1, fun q _ h4 h5 _ _ => h.2.2 q h4 h5⟩
theorem FMM.e (M : StT) : FMM M (setF M 3 0) := ⟨fun _ _ => rfl, rfl, fun q h3 _ _ _ _ => setF_o _ _ h3⟩
theorem FMM.w (M : StT) : FMM M (setF (wrM M) 3 0) := ⟨fun q hq => by rw [setF_1, setA_o _ _ hq, setF_1], rfl, fun q h3 _ _ _ h7 => by rw [setF_o _ _ h3, setA_2, setF_o _ _ h7]⟩
theorem wrM_0 (M : StT) {j : Nat} (hj : j < 66) : (setF (wrM M) 3 0).1 0 j = M.1 2 j := by rw [setF_1, setA_s, cp_in hj, setF_1]
theorem byte59 {T M : StT} {len f : Nat} {B : Nat → Nat} (h : BT T M len B) : (if f < len then nI (B f) else -1) = (59 : Int32) ↔ soB B len f = 3 := by
  unfold soB
  by_cases z : f < len
  · have d := (h.2.2.2 f z).1
    rw [if_pos z, if_pos z, show (59 : Int32) = nI 59 from rfl, nI_inj (by omega) (by omega)]
    constructor
    · intro q
      rw [if_neg (by omega), if_neg (by omega), if_pos q]
    · intro q
      split at q
      · omega
      · split at q
        · omega
        · split at q
          · assumption
          · omega
  · rw [if_neg z, if_neg z]
    exact ⟨fun q => absurd q (by decide), fun q => by omega⟩
/-- how it ends -/
def RmE (M : StT) (a : Option (Int32 × (StT × StT))) (b : Option (Int32 × StT)) : Prop :=
  ∃ T2 R2 M2, FMM M M2 ∧ M2.2.2 3 = 0 ∧
    ((a = some (1, (T2, R2)) ∧ b = some (T2.2.2 1, M2) ∧ ∃ n2, RI n2 R2 ∧ RE n2 R2 (M2.1 0)) ∨
     (a = some (0, (T2, R2)) ∧ b = some (-1 - T2.2.2 3, M2) ∧ ∀ j, j < 66 → M2.1 0 j = M.1 2 j))
theorem RmE.fr {M M1 : StT} {a : Option (Int32 × (StT × StT))} {b : Option (Int32 × StT)} (h : RmE M1 a b) (g : FMM M M1) : RmE M a b := by
  obtain ⟨T2, R2, M2, h1, h2, h3⟩ := h
  refine ⟨T2, R2, M2, g.tr h1, h2, h3.imp id (fun ⟨a1, a2, a3⟩ => ⟨a1, a2, fun j hj => ?_⟩)⟩
  rw [a3 j hj, g.1 2 (by decide)]
theorem room_l {B : Nat → Nat} {len : Nat} (hl : len ≤ 120) : ∀ (fuel e i n : Nat) (T R M : StT), len - e < fuel → e ≤ len → i ≤ e → BT T M len B → T.2.2 4 = nI e → M.2.2 5 = nI e → M.2.2 7 = 0 → T.2.2 1 = nI i → RI n R → RE n R (M.1 0) →
    RmE M (f_X2_comesTo_l12 fuel (nI i) (T, R)) (Option.bind (f_X4_token M) fun z => Option.bind (f_X4_item z) fun z5 => f_X4_room_l24 fuel (nI (i + 1)) z5) := by
  intro fuel
  induction fuel with
  | zero => intro e i n T R M hf; omega
  | succ g ih =>
    intro e i n T R M hf he hie bt eT eM e7 e1 iR rR
    obtain ⟨T1, M1, f1, t1, a1, a2, a3, a4, a5, a6⟩ := step_ok bt he eT eM
    have bt1 : BT T1 M1 len B := bt.of (by rw [a5.1]) a5.2.2.1 (by rw [a6.1]) (a6.2.2 3 (by decide) (by decide))
    have o1 : OKs B len e T1 M1 f1 t1 := ⟨bt1, a3, a4, (a6.2.2 7 (by decide) (by decide)).trans e7⟩
    have r1 : RE n R (M1.1 0) := by rw [a6.1]; exact rR
    obtain ⟨n2, it⟩ := item_ok o1 iR r1
    rw [f_X2_comesTo_l12, if_neg (fun q => by have := (nI_lti (a := 120) (by omega) (by omega)).mp q; omega)]
    simp only [nm, a1, a2, bds]
    refine RmE.fr ?_ (FMM.fm a6)
    rcases it with ⟨T2, R2, M2, f2, t2, h1, h2, o2, i2, r2, fb⟩ | ⟨T2, R2, M2, h1, h2, l2, fb⟩
    · obtain ⟨bt2, k2, he2, e72⟩ := id o2
      obtain ⟨k21, k22, k23, k24, k25, k26, k27, k28, k29, k210, k211⟩ := id k2
      have sl := soB_lt B len f2
      have i1 : T2.2.2 1 = nI i := by rw [fb.1.2.2.2, a5.2.2.2, e1]
      refine RmE.fr ?_ (FMM.fb fb)
      rw [h1, h2, bds, bds, if_neg i1n, setF_o _ _ (show (2 : Nat) ≠ 1 by decide), k23, i1, nI_1, f_X4_room_l24, if_pos e72, k27, X4_byte_eq bt2 (show f2 ≤ 120 by omega), bds]
      have c3 : nI (soB B len f2) = 3 ↔ soB B len f2 = 3 := nI_inj (b := 3) (by omega) (by omega)
      have c0 : nI (soB B len f2) = 0 ↔ soB B len f2 = 0 := nI_inj (b := 0) (by omega) (by omega)
      by_cases z3 : soB B len f2 = 3
      · rw [if_pos (c3.mpr z3), if_pos ((byte59 bt2).mpr z3), must_1 e72]
        simp only [nm, nI_1]
        have p := k210 (by omega)
        exact ih t2 (i + 1) n2 (setF T2 1 (nI (i + 1))) R2 M2 (by omega) k22 (by omega) (bt2.of rfl (setF_o _ _ (by decide)) rfl rfl) ((setF_o _ _ (by decide)).trans k25) k28 e72 (setF_s _ _ _) i2 r2
      · rw [if_neg (fun q => z3 (c3.mp q)), if_neg (fun q => z3 ((byte59 bt2).mp q))]
        by_cases z0 : soB B len f2 = 0
        · have ef := k211 z0
          rw [if_pos (c0.mpr z0), b59_ok e72 (by rw [bt2.2.2.1, k27, ef]; exact (nI_lei (by omega) (by omega)).mpr (by omega))]
          exact ⟨setF T2 1 (nI (i + 1)), R2, setF M2 3 0, FMM.e M2, setF_s _ _ _, Or.inl ⟨rfl, by rw [setF_s], n2, i2, r2⟩⟩
        · have lt : f2 < len := by
            have := k210 z0
            omega
          rw [if_neg (fun q => z0 (c0.mp q)), b59_w (Or.inr (by rw [bt2.2.2.1, k27]; exact fun q => by have := (nI_lei (by omega) (by omega)).mp q; omega))]
          refine ⟨setF T2 1 (nI (i + 1)), R2, setF (wrM M2) 3 0, FMM.w M2, setF_s _ _ _, Or.inr ⟨rfl, ?_, fun j hj => wrM_0 M2 hj⟩⟩
          rw [setF_o _ _ (show (3 : Nat) ≠ 1 by decide), k24, k27]
    · refine RmE.fr ?_ (FMM.fb fb)
      have h7 := l2.w
      have n7 : ¬ M2.2.2 7 = 0 := by rw [h7]; exact i1n
      obtain ⟨f, t, -, -, -, l3, l4, -⟩ := l2
      rw [h1, h2, bds, bds, if_pos rfl, f_X4_room_l24, if_neg n7, b59_w (Or.inl n7)]
      refine ⟨T2, R2, setF (wrM M2) 3 0, FMM.w M2, setF_s _ _ _, Or.inr ⟨rfl, ?_, fun j hj => wrM_0 M2 hj⟩⟩
      rw [l3, l4]
theorem Rel.told {G G2 : Nat → StT} {M M2 : StT} (h : Rel G M) (g0 : G2 0 = G 0) (g3 : G2 3 = G 3) (g5 : ∀ k, k < 4 → G2 (5 + k) = G (5 + k)) (l : (G2 4).2.2 0 = 0) (m1 : ∀ q, q ≠ 0 → q ≠ 2 → M2.1 q = M.1 q) (m2 : M2.2.1 = M.2.1) (m3 : M2.2.2 0 = M.2.2 0) (m4 : M2.2.2 3 = 0) (rm : ∃ n, RI n (G2 1) ∧ RE n (G2 1) (M2.1 0)) : Rel G2 M2 := by
  obtain ⟨-, k, t, s, f⟩ := h
  refine ⟨rm, ?_, ?_, ?_, ?_⟩
  · unfold KK
    rw [g0, g3, m3, m1 1 (by decide) (by decide)]
    exact k
  · exact ⟨0, by omega, l, m4, fun j hj => by omega⟩
  · intro k hk
    rw [g5 k hk, m1 7 (by decide) (by decide), m1 8 (by decide) (by decide), m2]
    exact s k hk
  · intro k hk
    rw [g0, m1 4 (by decide) (by decide)]
    exact f k hk
theorem sim_room {G : Nat → StT} {M : StT} (h : Rel G M) : SimR (f_X3_room G) (f_X4_room M) := by
  obtain ⟨⟨n, i, e⟩, -, ⟨len, hl, t1, t2, t3⟩, -, -⟩ := id h
  obtain ⟨A2, ea, e8⟩ := X0_become_eq (G 2) (G 1)
  have s4 : (setF (setF (setA M 2 (cp66 (M.1 0) (M.1 2))) 7 0) 5 0).1 0 = M.1 0 := by rw [setF_1, setF_1, setA_o _ _ (by decide)]
  have bt : BT (setF (setF (G 4) 1 0) 4 0) (setF (setF (setA M 2 (cp66 (M.1 0) (M.1 2))) 7 0) 5 0) len (fun j => ((G 4).1 0 j).toNatClampNeg) := by
    refine ⟨hl, ?_, ?_, fun j hj => ?_⟩
    · rw [setF_o _ _ (by decide), setF_o _ _ (by decide)]; exact t1
    · rw [setF_o _ _ (by decide), setF_o _ _ (by decide)]; exact t2
    · obtain ⟨b, hb, b1, b2⟩ := t3 j hj
      have eb : ((G 4).1 0 j).toNatClampNeg = b := by rw [b1, cln (by omega)]
      show ((G 4).1 0 j).toNatClampNeg < 256 ∧ _ = nI ((G 4).1 0 j).toNatClampNeg ∧ _ = nI ((G 4).1 0 j).toNatClampNeg
      rw [eb, setF_1, setF_1, setF_1, setF_1, setA_o _ _ (show (6 : Nat) ≠ 2 by decide)]
      exact ⟨hb, b1, b2⟩
  have L := room_l hl 200 0 0 n (setF (setF (G 4) 1 0) 4 0) A2 (setF (setF (setA M 2 (cp66 (M.1 0) (M.1 2))) 7 0) 5 0) (by omega) (by omega) (by omega) bt (setF_s _ _ _) (setF_s _ _ _) (by rw [setF_o _ _ (by decide), setF_s]) (by rw [setF_o _ _ (by decide), setF_s]; rfl) (i.e8 e8) (by rw [s4]; exact e.e8 i.1 e8)
  have x3 : f_X3_room G = Option.bind (f_X2_comesTo_l12 200 (nI 0) (setF (setF (G 4) 1 0) 4 0, A2)) fun z3 => if z3.1 = 0 then some (-1 - z3.2.1.2.2 3, gset (gset (gset (gset (gset G 2 A2) 1 (G 1)) 4 z3.2.1) 2 z3.2.2) 4 (setF z3.2.1 0 0)) else (Option.bind (f_X0_become (G 1, z3.2.2)) fun z7 => some (z3.2.1.2.2 1, gset (gset (gset (gset (gset (gset (gset G 2 A2) 1 (G 1)) 4 z3.2.1) 2 z3.2.2) 4 (setF z3.2.1 0 0)) 1 z7.1) 2 z7.2)) := by
    unfold f_X3_room
    rw [ea, bds]
    rfl
  have x4 : f_X4_room M = Option.bind (f_X4_token (setF (setF (setA M 2 (cp66 (M.1 0) (M.1 2))) 7 0) 5 0)) fun z4 => Option.bind (f_X4_item z4) fun z5 => f_X4_room_l24 200 (nI (0 + 1)) z5 := by
    unfold f_X4_room
    rw [X4_saves_eq, bds]
    rfl
  rw [x3, x4]
  obtain ⟨T2, R2, M2, ⟨f1, f2, f3⟩, m3, c⟩ := L
  have m1 : ∀ q, q ≠ 0 → q ≠ 2 → M2.1 q = M.1 q := fun q h0 h2 => by rw [f1 q h0, setF_1, setF_1, setA_o _ _ h2]
  have m0 : M2.2.2 0 = M.2.2 0 := by rw [f3 0 (by decide) (by decide) (by decide) (by decide) (by decide), setF_o _ _ (by decide), setF_o _ _ (by decide), setA_2]
  rcases c with ⟨c1, c2, n2, i2, r2⟩ | ⟨c1, c2, c3⟩
  · obtain ⟨A3, ea3, e83⟩ := X0_become_eq (G 1) R2
    rw [c1, bds, if_neg i1n, c2, ea3, bds]
    refine ⟨_, _, _, rfl, rfl, h.told ?_ ?_ (fun k hk => ?_) ?_ m1 f2 m0 m3 ⟨n2, ?_, ?_⟩⟩
    · simp [gset]
    · simp [gset]
    · have a1 : ¬ 5 + k = 1 := by omega
      have a2 : ¬ 5 + k = 2 := by omega
      have a4 : ¬ 5 + k = 4 := by omega
      simp [gset, a1, a2, a4]
    · simp [gset, setF]
    · simp only [gset]; simp; exact i2.e8 e83
    · simp only [gset]; simp; exact r2.e8 i2.1 e83
  · rw [c1, bds, if_pos rfl, c2]
    refine ⟨_, _, _, rfl, rfl, h.told ?_ ?_ (fun k hk => ?_) ?_ m1 f2 m0 m3 ⟨n, ?_, ?_⟩⟩
    · simp [gset]
    · simp [gset]
    · have a1 : ¬ 5 + k = 1 := by omega
      have a2 : ¬ 5 + k = 2 := by omega
      have a4 : ¬ 5 + k = 4 := by omega
      simp [gset, a1, a2, a4]
    · simp [gset, setF]
    · simp only [gset]; simp; exact i
    · simp only [gset]; simp
      refine e.s66 i.1 (fun j hj => ?_)
      rw [c3 j hj, setF_1, setF_1, setA_s, cp_in hj]
