-- hours that go, or go on
def paS (n : Nat) : Nat → StT → Int32 → Int32 × StT
  | 0, R, m => (m, R)
  | k + 1, R, _ => paS n k (hrS n R).2 (hrS n R).1
theorem RI.pa {n : Nat} : ∀ (k : Nat) {R : StT} (m : Int32), RI n R → RI n (paS n k R m).2
  | 0, _, _, h => h
  | k + 1, R, _, h => RI.pa k (hrS n R).1 h.hr
theorem X0_pass_l {n t : Nat} (ht : t ≤ 1000) : ∀ (k i fuel : Nat) (R : StT) (m : Int32), RI n R → i + k = t → k < fuel → f_X0_pass_l4 fuel (nI t) m (nI i) R = some (paS n k R m) := by
  intro k
  induction k with
  | zero =>
    intro i fuel R m h hi hf
    obtain ⟨fuel, rfl⟩ : ∃ z, fuel = z + 1 := ⟨fuel - 1, by omega⟩
    have e : i = t := by omega
    subst e
    rw [f_X0_pass_l4, if_pos ((nI_lei (by omega) (by omega)).mpr (Nat.le_refl i))]
    rfl
  | succ k ih =>
    intro i fuel R m h hi hf
    obtain ⟨fuel, rfl⟩ : ∃ z, fuel = z + 1 := ⟨fuel - 1, by omega⟩
    rw [f_X0_pass_l4, if_neg (fun q => by have := (nI_lei (by omega) (by omega)).mp q; omega), X0_passOne_eq h, bds]
    show f_X0_pass_l4 fuel (nI t) (hrS n R).1 (nI i + 1) (hrS n R).2 = _
    rw [nI_1]
    exact ih (i + 1) fuel (hrS n R).2 (hrS n R).1 h.hr (by omega) (by omega)
theorem X0_pass_eq {n t : Nat} (ht : t ≤ 60) {R : StT} (h : RI n R) : f_X0_pass R (nI t) = some (paS n t R 0) := X0_pass_l (by omega) t 0 200 R 0 h (by omega) (by omega)
theorem X4_hoursGo_l {n t : Nat} (ht : t ≤ 1000) : ∀ (k i fuel : Nat) (R M : StT) (m : Int32), RI n R → RE n R (M.1 0) → i + k = t → k < fuel → ∃ M2, f_X4_hoursGo_l4 fuel (nI t) m (nI i) M = some ((paS n k R m).1, M2) ∧ RE n (paS n k R m).2 (M2.1 0) ∧ Fr M M2 := by
  intro k
  induction k with
  | zero =>
    intro i fuel R M m h e hi hf
    obtain ⟨fuel, rfl⟩ : ∃ z, fuel = z + 1 := ⟨fuel - 1, by omega⟩
    have e2 : i = t := by omega
    subst e2
    rw [f_X4_hoursGo_l4, if_pos ((nI_lei (by omega) (by omega)).mpr (Nat.le_refl i))]
    exact ⟨M, rfl, e, Fr.rf M⟩
  | succ k ih =>
    intro i fuel R M m h e hi hf
    obtain ⟨fuel, rfl⟩ : ∃ z, fuel = z + 1 := ⟨fuel - 1, by omega⟩
    obtain ⟨M1, e1, r1, f1⟩ := X4_hour_eq h e
    obtain ⟨M2, e2, r2, f2⟩ := ih (i + 1) fuel (hrS n R).2 M1 (hrS n R).1 h.hr r1 (by omega) (by omega)
    refine ⟨M2, ?_, r2, f1.tr f2⟩
    rw [f_X4_hoursGo_l4, if_neg (fun q => by have := (nI_lei (by omega) (by omega)).mp q; omega), e1, bds]
    show f_X4_hoursGo_l4 fuel (nI t) (hrS n R).1 (nI i + 1) M1 = _
    rw [nI_1]
    exact e2
theorem X4_hoursGo_eq {n t : Nat} (ht : t ≤ 60) {R M : StT} (h : RI n R) (e : RE n R (M.1 0)) : ∃ M2, f_X4_hoursGo M (nI t) = some ((paS n t R 0).1, M2) ∧ RE n (paS n t R 0).2 (M2.1 0) ∧ Fr M M2 := X4_hoursGo_l (by omega) t 0 200 R M 0 h e (by omega) (by omega)
/-- peace: the sum -/
def tgS (R : StT) : Nat → Nat → Int32 → Int32
  | 0, _, x => x
  | k + 1, i, x => tgS R k (i + 1) (if R.1 8 i < 0 then x else x + HW R i (R.1 8 i).toNatClampNeg)
theorem X0_together_l {n : Nat} {R : StT} (h : RI n R) : ∀ (k i fuel : Nat) (x : Int32), i + k = n → k < fuel → f_X0_together_l4 R fuel x (nI i) = some (tgS R k i x) := by
  have hn := h.1
  intro k
  induction k with
  | zero =>
    intro i fuel x hi hf
    obtain ⟨fuel, rfl⟩ : ∃ z, fuel = z + 1 := ⟨fuel - 1, by omega⟩
    have e : i = n := by omega
    subst e
    rw [f_X0_together_l4, h.2.1, if_pos ((nI_lei (by omega) (by omega)).mpr (Nat.le_refl i))]
    rfl
  | succ k ih =>
    intro i fuel x hi hf
    obtain ⟨fuel, rfl⟩ : ∃ z, fuel = z + 1 := ⟨fuel - 1, by omega⟩
    have b35 : ∀ y, f_X0_together_b35 (f_X0_together_l4 R fuel) R y (nI i) = f_X0_together_l4 R fuel y (nI (i + 1)) := fun y => by
      show f_X0_together_l4 R fuel y (nI i + 1) = _
      rw [nI_1]
    rw [f_X0_together_l4, h.2.1, if_neg (fun q => by have := (nI_lei (by omega) (by omega)).mp q; omega), cki (show i < 8 by omega) (by decide), cki (show i < 8 by omega) (by decide), cln (by omega)]
    show _ = some (tgS R k (i + 1) (if R.1 8 i < 0 then x else x + HW R i (R.1 8 i).toNatClampNeg))
    rw [← ih (i + 1) fuel _ (by omega) (by omega)]
    rcases (h.2.2.2.1 i (by omega)).2.2.2.2 with hs | ⟨c, hc, hs⟩
    · rw [hs, if_pos m1_neg, if_pos m1_neg, b35]
    · have e0 : ¬ nI c < 0 := nI_n0 (by omega)
      rw [hs, if_neg e0, if_neg e0, X0_howWell_eq h (by omega) hc, bds, cln (by omega)]
      exact b35 _
theorem X0_together_eq {n : Nat} {R : StT} (h : RI n R) : f_X0_together R = some (tgS R n 0 0) := by
  have := h.1
  exact X0_together_l h n 0 200 0 (by omega) (by omega)
theorem X4_peaceNow_l {n : Nat} {R M : StT} (h : RI n R) (e : RE n R (M.1 0)) : ∀ (k i fuel : Nat) (x : Int32), i + k = n → k < fuel → f_X4_peaceNow_l4 M fuel x (nI i) = some (tgS R k i x) := by
  have hn := h.1
  intro k
  induction k with
  | zero =>
    intro i fuel x hi hf
    obtain ⟨fuel, rfl⟩ : ∃ z, fuel = z + 1 := ⟨fuel - 1, by omega⟩
    have e2 : i = n := by omega
    subst e2
    rw [f_X4_peaceNow_l4, ck0, cl0, e.1, if_pos ((nI_lei (by omega) (by omega)).mpr (Nat.le_refl i))]
    rfl
  | succ k ih =>
    intro i fuel x hi hf
    obtain ⟨fuel, rfl⟩ : ∃ z, fuel = z + 1 := ⟨fuel - 1, by omega⟩
    have b40 : ∀ y, f_X4_peaceNow_b40 (f_X4_peaceNow_l4 M fuel) M (nI i) y x = f_X4_peaceNow_l4 M fuel (x + y) (nI (i + 1)) := fun y => by
      show f_X4_peaceNow_l4 M fuel (x + y) (nI i + 1) = _
      rw [nI_1]
    rw [f_X4_peaceNow_l4, ck0, cl0, e.1, if_neg (fun q => by have := (nI_lei (by omega) (by omega)).mp q; omega), X4_its5 e hn (show i < n by omega), bds, bds]
    show _ = some (tgS R k (i + 1) (if R.1 8 i < 0 then x else x + HW R i (R.1 8 i).toNatClampNeg))
    rw [← ih (i + 1) fuel _ (by omega) (by omega)]
    rcases (h.2.2.2.1 i (by omega)).2.2.2.2 with hs | ⟨c, hc, hs⟩
    · rw [hs, if_pos rfl, if_pos m1_neg, b40, add0]
    · have e0 : ¬ nI c < 0 := nI_n0 (by omega)
      have em : ¬ nI c = -1 := nI_m1 (by omega)
      rw [hs, if_neg em, if_neg e0, X4_sits_eq h e (by omega) hc, bds, cln (by omega)]
      exact b40 _
theorem X4_peaceNow_eq {n : Nat} {R M : StT} (h : RI n R) (e : RE n R (M.1 0)) : f_X4_peaceNow M = some (tgS R n 0 0) := by
  have := h.1
  exact X4_peaceNow_l h e n 0 200 0 (by omega) (by omega)
-- ON: ahead, and the row with the first one laid aside
def OnR (G : Nat → StT) (M : StT) (n : Nat) (G1 : Nat → StT) (M1 : StT) : Prop :=
  RI n (G1 2) ∧ RE n (G1 2) (M1.1 0) ∧ GF G G1 ∧ (∀ j, j < 66 → M1.1 3 j = M.1 0 j) ∧ (∀ k, k ≠ 0 → k ≠ 3 → M1.1 k = M.1 k) ∧ M1.2 = M.2
theorem gset_1 (G : Nat → StT) (A : StT) : gset (gset G 2 A) 1 (G 1) = gset G 2 A := by
  funext j
  unfold gset
  by_cases h : j = 1
  · subst h; simp
  · simp [h]
theorem on_start {G : Nat → StT} {M : StT} {n : Nat} (i : RI n (G 1)) (e : RE n (G 1) (M.1 0)) : ∃ A, f_X0_become (G 2, G 1) = some (A, G 1) ∧ E8 (G 1) A ∧ f_X4_laysAside M = some (setA M 3 (cp66 (M.1 0) (M.1 3))) ∧ OnR G M n (gset G 2 A) (setA M 3 (cp66 (M.1 0) (M.1 3))) := by
  obtain ⟨A, ea, e8⟩ := X0_become_eq (G 2) (G 1)
  refine ⟨A, ea, e8, X4_laysAside_eq M, ?_, ?_, GF.set2 G A, fun j hj => ?_, fun k _ hk => setA_o _ _ hk, rfl⟩
  · rw [gset_s]; exact i.e8 e8
  · rw [gset_s, setA_o _ _ (by decide)]; exact e.e8 i.1 e8
  · rw [setA_s, cp_in hj]
theorem OnR.fr {G : Nat → StT} {M : StT} {n : Nat} {G1 : Nat → StT} {M1 M2 : StT} {A : StT} (h : OnR G M n G1 M1) (i : RI n A) (e : RE n A (M2.1 0)) (f : Fr M1 M2) : OnR G M n (gset G1 2 A) M2 := by
  obtain ⟨a1, a2, a3, a4, a5, a6⟩ := h
  refine ⟨by rw [gset_s]; exact i, by rw [gset_s]; exact e, a3.tr (GF.set2 _ _), fun j hj => ?_, fun k h0 h3 => ?_, f.2.trans a6⟩
  · rw [f.1 3 (by decide)]; exact a4 j hj
  · rw [f.1 k h0]; exact a5 k h0 h3
theorem OnR.hour {G : Nat → StT} {M : StT} {n : Nat} {G1 : Nat → StT} {M1 : StT} (h : OnR G M n G1 M1) : ∃ M2, f_X0_passOne (G1 2) = some (hrS n (G1 2)) ∧ f_X4_hour M1 = some ((hrS n (G1 2)).1, M2) ∧ OnR G M n (gset G1 2 (hrS n (G1 2)).2) M2 := by
  obtain ⟨M2, e2, r2, f2⟩ := X4_hour_eq h.1 h.2.1
  exact ⟨M2, X0_passOne_eq h.1, e2, h.fr h.1.hr r2 f2⟩
theorem OnR.pass {G : Nat → StT} {M : StT} {n t : Nat} (ht : t ≤ 60) {G1 : Nat → StT} {M1 : StT} (h : OnR G M n G1 M1) : ∃ M2, f_X0_pass (G1 2) (nI t) = some (paS n t (G1 2) 0) ∧ f_X4_hoursGo M1 (nI t) = some ((paS n t (G1 2) 0).1, M2) ∧ OnR G M n (gset G1 2 (paS n t (G1 2) 0).2) M2 := by
  obtain ⟨M2, e2, r2, f2⟩ := X4_hoursGo_eq ht h.1 h.2.1
  exact ⟨M2, X0_pass_eq ht h.1, e2, h.fr (RI.pa t 0 h.1) r2 f2⟩
theorem OnR.back {G : Nat → StT} {M : StT} {n : Nat} {G1 : Nat → StT} {M1 : StT} (h : OnR G M n G1 M1) : MF M (setA M1 0 (cp66 (M1.1 3) (M1.1 0))) := by
  obtain ⟨a1, a2, a3, a4, a5, a6⟩ := h
  refine ⟨fun j hj => ?_, fun k h0 h2 h3 h5 => ?_, ?_, ?_, ?_⟩
  · rw [setA_s, cp_in hj]; exact a4 j hj
  · rw [setA_o _ _ h0]; exact a5 k h0 h3
  · rw [setA_2, a6]
  · rw [setA_2, a6]
  · rw [setA_2, a6]
theorem OnR.fin {G : Nat → StT} {M : StT} {n : Nat} {G1 : Nat → StT} {M1 : StT} (h : OnR G M n G1 M1) (r : Rel G M) : Rel G1 (setA M1 0 (cp66 (M1.1 3) (M1.1 0))) := r.fr h.2.2.1 h.back
theorem r60 {a : Int32} (h : 0 ≤ a ∧ a ≤ 60) : ∃ t, t ≤ 60 ∧ a = nI t := of_rng (n := 60) h.1 h.2 (by omega)
theorem sim_hours {G : Nat → StT} {M : StT} (h : Rel G M) (a1 : Int32) : SimR (f_X3_hours G a1) (f_X4_hours M a1) := by
  have F := sfnd h 0 (by decide) (a := 0) (b := -1000000001) rfl (by decide)
  have F4 := sfnd h 4 (by decide) (a := 4) (b := -1000000005) rfl (by decide)
  obtain ⟨⟨n, i, e⟩, -⟩ := id h
  unfold f_X3_hours f_X4_hours
  have ein : f_X4_in a1.toInt64 (1 : Int64) (60 : Int64) = some (b2i (1 ≤ a1 ∧ a1 ≤ 60)) := X4_inI a1 1 60
  rw [isWithin_eq, bds, ein, bds]
  by_cases c : 1 ≤ a1 ∧ a1 ≤ 60
  · rw [b2i_1 c, if_neg i1n, if_neg i1n, ck1, cl1, e.2.1]
    by_cases z : (G 1).2.2 1 + a1 ≤ 99999
    · obtain ⟨t, ht, et⟩ := r60 (a := a1) ⟨by have h1 := c.1; rw [ile] at h1 ⊢; have q1 : (1 : Int32).toInt = 1 := by decide
                                              have q0 : (0 : Int32).toInt = 0 := rfl
                                              omega, c.2⟩
      obtain ⟨M2, e2, r2, f2⟩ := X4_hoursGo_eq ht i e
      rw [if_pos z, if_pos z, et, X0_pass_eq ht i, bds, e2, bds]
      refine ⟨_, _, M2, rfl, rfl, ?_⟩
      have rr := h.room (RI.pa t 0 i) r2
      refine rr.fr (GF.rf _) ⟨fun j _ => by rw [setA_s], fun k h0 _ _ _ => by rw [setA_o _ _ h0]; exact f2.1 k h0, by rw [f2.2]; rfl, by rw [f2.2]; rfl, by rw [f2.2]; rfl⟩
    · rw [if_neg z, if_neg z]; exact F4
  · rw [b2i_0 c, if_pos rfl, if_pos rfl]; exact F
theorem sim_on {G : Nat → StT} {M : StT} (h : Rel G M) (a1 a2 a3 : Int32) : SimR (f_X3_on G a1 a2 a3) (f_X4_on M a1 a2 a3) := by
  have F := sfnd h 0 (by decide) (a := 0) (b := -1000000001) rfl (by decide)
  obtain ⟨⟨n, i, e⟩, -⟩ := id h
  have hn := i.1
  unfold f_X3_on f_X4_on
  rcases there i e a1 with ⟨c1, c2⟩ | ⟨p, hp, e1, c1, c2⟩
  · rw [c1, c2, bds, bds, if_pos rfl, if_pos rfl]; exact F
  · subst e1
    have ein : f_X4_in a2.toInt64 (0 : Int64) (60 : Int64) = some (b2i (0 ≤ a2 ∧ a2 ≤ 60)) := X4_inI a2 0 60
    have ein2 : f_X4_in a3.toInt64 (0 : Int64) (1 : Int64) = some (b2i (0 ≤ a3 ∧ a3 ≤ 1)) := X4_inI a3 0 1
    rw [c1, c2, bds, bds, if_neg i1n, if_neg i1n, isWithin_eq, bds, ein, bds]
    by_cases c : 0 ≤ a2 ∧ a2 ≤ 60
    · rw [b2i_1 c, if_neg i1n, if_neg i1n, isWithin_eq, bds, ein2, bds]
      by_cases d : 0 ≤ a3 ∧ a3 ≤ 1
      · obtain ⟨t, ht, et⟩ := r60 c
        subst et
        obtain ⟨A, ea, -, el, o⟩ := on_start i e
        obtain ⟨M2, p1, p2, o2⟩ := o.pass ht
        rw [b2i_1 d, if_neg i1n, if_neg i1n, ea, bds, el, bds]
        simp only [nm, gset_1, p1, p2, bds]
        have f1 := X4_takesBack_eq M2
        have g2 : ∀ X, gset (gset G 2 A) 2 X 2 = X := fun X => gset_s _ _ _
        have fin := o2.fin h
        have e2 := o2.2.1
        rw [gset_s] at e2
        unfold f_X4_on_b60
        simp only [cki (show p < 8 by omega) (by decide : 8 < 2147483648), cln (show p < 2147483648 by omega), g2, f1]
        by_cases z : a3 = 0
        · rw [if_pos z, if_pos z, X4_its5 e2 hn hp, bds, bds]
          exact ⟨_, _, _, rfl, rfl, fin⟩
        · rw [if_neg z, if_neg z, X4_its4 e2 hn hp, bds, bds]
          exact ⟨_, _, _, rfl, rfl, fin⟩
      · rw [b2i_0 d, if_pos rfl, if_pos rfl]; exact F
    · rw [b2i_0 c, if_pos rfl, if_pos rfl]; exact F
/-- peaceIn of the reference -/
theorem X4_peaceIn_eq {G : Nat → StT} {M : StT} {n t : Nat} (ht : t ≤ 60) (i : RI n (G 1)) (e : RE n (G 1) (M.1 0)) {A : StT} (i2 : RI n A) (e2 : RE n A (M.1 0)) : ∃ M2, f_X4_peaceIn M (nI t) = some (tgS (paS n t A 0).2 n 0 0, M2) ∧ MF M M2 := by
  have o : OnR G M n (gset G 2 A) (setA M 3 (cp66 (M.1 0) (M.1 3))) := ⟨by rw [gset_s]; exact i2, by rw [gset_s, setA_o _ _ (by decide)]; exact e2, GF.set2 G A, fun j hj => by rw [setA_s, cp_in hj], fun k _ hk => setA_o _ _ hk, rfl⟩
  obtain ⟨M2, p1, p2, o2⟩ := o.pass ht
  rw [gset_s] at p2 o2
  refine ⟨_, ?_, o2.back⟩
  unfold f_X4_peaceIn
  have i3 := o2.1
  have e3 := o2.2.1
  rw [gset_s] at i3 e3
  rw [X4_laysAside_eq, bds, p2, bds]
  simp only [nm]
  rw [X4_peaceNow_eq i3 e3, bds, X4_takesBack_eq, bds]
theorem sim_peace {G : Nat → StT} {M : StT} (h : Rel G M) (a1 : Int32) : SimR (f_X3_peace G a1) (f_X4_peace M a1) := by
  have F := sfnd h 0 (by decide) (a := 0) (b := -1000000001) rfl (by decide)
  obtain ⟨⟨n, i, e⟩, -⟩ := id h
  unfold f_X3_peace f_X4_peace
  have ein : f_X4_in a1.toInt64 (0 : Int64) (60 : Int64) = some (b2i (0 ≤ a1 ∧ a1 ≤ 60)) := X4_inI a1 0 60
  rw [isWithin_eq, bds, ein, bds]
  by_cases c : 0 ≤ a1 ∧ a1 ≤ 60
  · obtain ⟨t, ht, et⟩ := r60 c
    subst et
    obtain ⟨A, ea, e8, -, o⟩ := on_start i e
    have i2 := o.1
    rw [gset_s] at i2
    obtain ⟨M2, p, mf⟩ := X4_peaceIn_eq (G := G) ht i e i2 (e.e8 i.1 e8)
    rw [b2i_1 c, if_neg i1n, if_neg i1n, ea, bds, p, bds]
    simp only [nm, gset_1, gset_s, X0_pass_eq ht i2, bds, X0_together_eq (RI.pa t 0 i2)]
    exact ⟨_, _, M2, rfl, rfl, h.fr ((GF.set2 _ _).tr (GF.set2 _ _)) mf⟩
  · rw [b2i_0 c, if_pos rfl, if_pos rfl]; exact F
theorem pp_nn (n : Nat) : ∀ (k i : Nat) (R : StT) (m : Nat), ∃ j, j ≤ m + k ∧ (ppS R (nI m) i k).1 = nI j
  | 0, _, _, m => ⟨m, by omega, rfl⟩
  | k + 1, i, R, m => by
    show ∃ j, j ≤ m + (k + 1) ∧ (ppS (mvS R i).2 (nI m + (mvS R i).1) (i + 1) k).1 = nI j
    rcases mv_01 R i with z | z
    · rw [z, add0]
      obtain ⟨j, hj, ej⟩ := pp_nn n k (i + 1) (mvS R i).2 m
      exact ⟨j, by omega, ej⟩
    · rw [z, nI_1]
      obtain ⟨j, hj, ej⟩ := pp_nn n k (i + 1) (mvS R i).2 (m + 1)
      exact ⟨j, by omega, ej⟩
theorem hr_nn {n : Nat} (hn : n ≤ 8) (R : StT) : (hrS n R).1 ≤ 0 ↔ (hrS n R).1 = 0 := by
  obtain ⟨j, hj, ej⟩ := pp_nn n n 0 R 0
  have e : (hrS n R).1 = nI j := ej
  rw [e]
  have a : nI j ≤ 0 ↔ j ≤ 0 := nI_lei (b := 0) (by omega) (by omega)
  have b : nI j = 0 ↔ j = 0 := nI_inj (b := 0) (by omega) (by omega)
  rw [a, b]; omega
theorem settles_l {G : Nat → StT} {M : StT} (h : Rel G M) {n : Nat} (hn : n ≤ 8) : ∀ (k t f1 f2 : Nat) (G1 : Nat → StT) (M1 : StT), OnR G M n G1 M1 → t + k = 61 → k < f1 → k < f2 → SimR (f_X3_settles_l13 f1 (nI t) G1) (f_X4_settles_l6 f2 (nI t) M1) := by
  intro k
  induction k with
  | zero =>
    intro t f1 f2 G1 M1 o hi hf1 hf2
    obtain ⟨f1, rfl⟩ : ∃ z, f1 = z + 1 := ⟨f1 - 1, by omega⟩
    obtain ⟨f2, rfl⟩ : ∃ z, f2 = z + 1 := ⟨f2 - 1, by omega⟩
    have e : t = 61 := by omega
    subst e
    rw [f_X3_settles_l13, f_X4_settles_l6, if_pos (show (60 : Int32) < nI 61 by decide), if_pos (show (60 : Int32) < nI 61 by decide)]
    unfold f_X4_settles_b25
    rw [X4_takesBack_eq, bds]
    simp only [nm]
    rw [if_neg (by decide)]
    exact sfnd (o.fin h) 3 (by decide) rfl (by decide)
  | succ k ih =>
    intro t f1 f2 G1 M1 o hi hf1 hf2
    obtain ⟨f1, rfl⟩ : ∃ z, f1 = z + 1 := ⟨f1 - 1, by omega⟩
    obtain ⟨f2, rfl⟩ : ∃ z, f2 = z + 1 := ⟨f2 - 1, by omega⟩
    obtain ⟨M2, e1, e2, o2⟩ := o.hour
    have nl : ¬ (60 : Int32) < nI t := fun q => by have := (nI_lti (a := 60) (by omega) (by omega)).mp q; omega
    rw [f_X3_settles_l13, f_X4_settles_l6, if_neg nl, if_neg nl, e1, bds, e2, bds]
    simp only [nm]
    by_cases z : (hrS n (G1 2)).1 = 0
    · rw [if_pos z, if_pos ((hr_nn hn _).mpr z)]
      unfold f_X4_settles_b25
      rw [X4_takesBack_eq, bds]
      simp only [nm]
      rw [if_pos (show nI t ≤ 60 from (nI_lei (b := 60) (by omega) (by omega)).mpr (by omega))]
      exact ⟨_, _, _, rfl, rfl, o2.fin h⟩
    · rw [if_neg z, if_neg (fun q => z ((hr_nn hn _).mp q)), nI_1]
      exact ih (t + 1) f1 f2 _ _ o2 (by omega) (by omega) (by omega)
theorem sim_settles {G : Nat → StT} {M : StT} (h : Rel G M) : SimR (f_X3_settles G) (f_X4_settles M) := by
  obtain ⟨⟨n, i, e⟩, -⟩ := id h
  obtain ⟨A, ea, -, el, o⟩ := on_start i e
  unfold f_X3_settles f_X4_settles
  rw [ea, bds, el, bds]
  simp only [nm, gset_1]
  exact settles_l h i.1 61 0 200 200 _ _ o (by omega) (by omega) (by omega)
theorem gets_l {G : Nat → StT} {M : StT} (h : Rel G M) {n p c : Nat} (hn : n ≤ 8) (hp : p < n) (hc : c < 8) : ∀ (k t f1 f2 : Nat) (G1 : Nat → StT) (M1 : StT), OnR G M n G1 M1 → t + k = 61 → k < f1 → k < f2 → SimR (f_X3_gets_l34 f1 (nI p) (nI c) (nI t) G1) (f_X4_gets_l28 f2 (nI p) (nI c) (nI t) M1) := by
  intro k
  induction k with
  | zero =>
    intro t f1 f2 G1 M1 o hi hf1 hf2
    obtain ⟨f1, rfl⟩ : ∃ z, f1 = z + 1 := ⟨f1 - 1, by omega⟩
    obtain ⟨f2, rfl⟩ : ∃ z, f2 = z + 1 := ⟨f2 - 1, by omega⟩
    have e : t = 61 := by omega
    subst e
    rw [f_X3_gets_l34, f_X4_gets_l28, if_pos (show (60 : Int32) < nI 61 by decide), if_pos (show (60 : Int32) < nI 61 by decide)]
    unfold f_X4_gets_b56
    rw [X4_takesBack_eq, bds]
    simp only [nm]
    rw [if_neg (by decide)]
    exact sfnd (o.fin h) 3 (by decide) rfl (by decide)
  | succ k ih =>
    intro t f1 f2 G1 M1 o hi hf1 hf2
    obtain ⟨f1, rfl⟩ : ∃ z, f1 = z + 1 := ⟨f1 - 1, by omega⟩
    obtain ⟨f2, rfl⟩ : ∃ z, f2 = z + 1 := ⟨f2 - 1, by omega⟩
    obtain ⟨M2, e1, e2, o2⟩ := o.hour
    have nl : ¬ (60 : Int32) < nI t := fun q => by have := (nI_lti (a := 60) (by omega) (by omega)).mp q; omega
    rw [f_X3_gets_l34, f_X4_gets_l28, if_neg nl, if_neg nl, cki (show p < 8 by omega) (by decide), cln (by omega), X4_its5 o.2.1 hn hp, bds]
    by_cases z : (G1 2).1 8 p = nI c
    · rw [if_pos z, if_pos z]
      unfold f_X4_gets_b56
      rw [X4_takesBack_eq, bds]
      simp only [nm]
      rw [if_pos (show nI t ≤ 60 from (nI_lei (b := 60) (by omega) (by omega)).mpr (by omega))]
      exact ⟨_, _, _, rfl, rfl, o.fin h⟩
    · rw [if_neg z, if_neg z, e1, bds, e2, bds]
      simp only [nm]
      rw [nI_1]
      exact ih (t + 1) f1 f2 _ _ o2 (by omega) (by omega) (by omega)
theorem sim_gets {G : Nat → StT} {M : StT} (h : Rel G M) (a1 a2 : Int32) : SimR (f_X3_gets G a1 a2) (f_X4_gets M a1 a2) := by
  have F := sfnd h 0 (by decide) (a := 0) (b := -1000000001) rfl (by decide)
  obtain ⟨⟨n, i, e⟩, -⟩ := id h
  unfold f_X3_gets f_X4_gets
  rcases there i e a1 with ⟨c1, c2⟩ | ⟨p, hp, e1, c1, c2⟩
  · rw [c1, c2, bds, bds, if_pos rfl, if_pos rfl]; exact F
  · subst e1
    rw [c1, c2, bds, bds, if_neg i1n, if_neg i1n]
    rcases chr a2 with ⟨d1, d2⟩ | ⟨j, hj, e2, d1, d2⟩
    · rw [d1, d2, bds, bds, if_pos rfl, if_pos rfl]; exact F
    · subst e2
      obtain ⟨A, ea, -, el, o⟩ := on_start i e
      rw [d1, d2, bds, bds, if_neg i1n, if_neg i1n, ea, bds, el, bds]
      simp only [nm, gset_1]
      exact gets_l h i.1 hp hj 61 0 200 200 _ _ o (by omega) (by omega) (by omega)
