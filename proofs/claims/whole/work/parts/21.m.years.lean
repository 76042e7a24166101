-- years: only fourths and tenths count
def AG (f g : Nat → Int32) : Prop := ∀ j, f j / 4 = g j / 4 ∧ f j / 10 = g j / 10
theorem setA_cm (R : StT) {a b : Nat} (h : a ≠ b) (f g : Nat → Int32) : setA (setA R a f) b g = setA (setA R b g) a f := by
  unfold setA
  refine Prod.ext ?_ rfl
  funext j
  by_cases z : j = b
  · subst z; simp [Ne.symm h]
  · by_cases y : j = a
    · subst y; simp [z]
    · simp [z, y]
theorem LK_g {R : StT} {g : Nat → Int32} (ag : AG (R.1 4) g) (p c : Nat) : LK (setA R 4 g) p c = LK R p c := by
  unfold LK GS DF
  rw [setA_o R g (show (3 : Nat) ≠ 4 by decide), setA_o R g (show (5 : Nat) ≠ 4 by decide), setA_o R g (show (0 : Nat) ≠ 4 by decide), setA_o R g (show (1 : Nat) ≠ 4 by decide), setA_s, setA_2, (ag p).1]
theorem MD_g (R : StT) (g : Nat → Int32) (p q : Nat) : MD (setA R 4 g) p q = MD R p q := by
  unfold MD
  rw [setA_o R g (show (3 : Nat) ≠ 4 by decide), setA_o R g (show (6 : Nat) ≠ 4 by decide)]
theorem GU_g {R : StT} {g : Nat → Int32} (ag : AG (R.1 4) g) (p : Nat) : GU (setA R 4 g) p = GU R p := by
  unfold GU
  rw [setA_o R g (show (3 : Nat) ≠ 4 by decide), setA_s, (ag p).2]
theorem nbr_g (R : StT) (g : Nat → Int32) (p c : Nat) : nbr (setA R 4 g) p c = nbr R p c := by
  unfold nbr
  rw [setA_o R g (show (2 : Nat) ≠ 4 by decide), MD_g]
theorem HW_g {R : StT} {g : Nat → Int32} (ag : AG (R.1 4) g) (p c : Nat) : HW (setA R 4 g) p c = HW R p c := by
  unfold HW
  rw [LK_g ag, nbr_g, nbr_g]
theorem upS_g (R : StT) (g : Nat → Int32) (p : Nat) : upS (setA R 4 g) p = setA (upS R p) 4 g := by
  unfold upS
  rw [setA_o R g (show (8 : Nat) ≠ 4 by decide), setA_o R g (show (2 : Nat) ≠ 4 by decide)]
  by_cases z : R.1 8 p < 0
  · rw [if_pos z, if_pos z]
  · rw [if_neg z, if_neg z, setA_cm _ (by decide)]
theorem seS_g (R : StT) (g : Nat → Int32) (p : Nat) (x : Int32) : seS (setA R 4 g) p x = setA (seS R p x) 4 g := by
  simp only [seS, upS_g]
  rw [setA_o _ g (show (8 : Nat) ≠ 4 by decide), setA_cm _ (show (4 : Nat) ≠ 8 by decide), setA_o _ g (show (2 : Nat) ≠ 4 by decide)]
  by_cases z : x < 0
  · rw [if_pos z, if_pos z]
  · rw [if_neg z, if_neg z, setA_cm _ (show (4 : Nat) ≠ 2 by decide)]
theorem swS_g (R : StT) (g : Nat → Int32) (p q : Nat) : swS (setA R 4 g) p q = setA (swS R p q) 4 g := by
  have k : ∀ (W : StT) (c : Prop) [Decidable c] (j : Nat) (v : Int32), (if c then setA W 4 g else setA (setA W 4 g) 2 (upd ((setA W 4 g).1 2) j v)) = setA (if c then W else setA W 2 (upd (W.1 2) j v)) 4 g := by
    intro W c _ j v
    by_cases z : c
    · rw [if_pos z, if_pos z]
    · rw [if_neg z, if_neg z, setA_cm _ (show (4 : Nat) ≠ 2 by decide), setA_o _ g (show (2 : Nat) ≠ 4 by decide)]
  simp only [swS]
  rw [setA_o R g (show (8 : Nat) ≠ 4 by decide), setA_cm R (show (4 : Nat) ≠ 8 by decide), setA_cm _ (show (4 : Nat) ≠ 8 by decide), k, k]
theorem beS_g {R : StT} {g : Nat → Int32} (ag : AG (R.1 4) g) (p : Nat) : ∀ c, beS (setA R 4 g) p c = beS R p c
  | 0 => rfl
  | c + 1 => by
    rw [beS, beS, beS_g ag p c, setA_o R g (show (2 : Nat) ≠ 4 by decide), HW_g ag]
theorem mtS_g {R : StT} {g : Nat → Int32} (ag : AG (R.1 4) g) (p : Nat) : mtS (setA R 4 g) p = ((mtS R p).1, setA (mtS R p).2 4 g) := by
  unfold mtS
  rw [beS_g ag, setA_o R g (show (8 : Nat) ≠ 4 by decide), HW_g ag, seS_g]
  by_cases z : (beS R p 8).1 = -1
  · rw [if_pos z, if_pos z]
  rw [if_neg z, if_neg z]
  by_cases y : R.1 8 p < 0
  · rw [if_pos y, if_pos y]
  rw [if_neg y, if_neg y]
  by_cases x : HW R p (R.1 8 p).toNatClampNeg < (beS R p 8).2
  · rw [if_pos x, if_pos x]
  · rw [if_neg x, if_neg x]
theorem tcS_g {R : StT} {g : Nat → Int32} (ag : AG (R.1 4) g) (p : Nat) : tcS (setA R 4 g) p = ((tcS R p).1, setA (tcS R p).2 4 g) := by
  unfold tcS
  rw [setA_o R g (show (5 : Nat) ≠ 4 by decide), setA_o R g (show (2 : Nat) ≠ 4 by decide), HW_g ag, HW_g ag, GU_g ag, swS_g]
  by_cases z : R.1 5 p < 0
  · rw [if_pos z, if_pos z]
  rw [if_neg z, if_neg z]
  by_cases y : R.1 2 (R.1 5 p).toNatClampNeg < 0
  · rw [if_pos y, if_pos y]
  rw [if_neg y, if_neg y]
  by_cases x : R.1 2 (R.1 5 p).toNatClampNeg = nI p
  · rw [if_pos x, if_pos x]
  rw [if_neg x, if_neg x]
  by_cases w : HW R (R.1 2 (R.1 5 p).toNatClampNeg).toNatClampNeg (R.1 5 p).toNatClampNeg + GU R (R.1 2 (R.1 5 p).toNatClampNeg).toNatClampNeg ≤ HW R p (R.1 5 p).toNatClampNeg
  · rw [if_pos w, if_pos w]
  · rw [if_neg w, if_neg w]
theorem mvS_g {R : StT} {g : Nat → Int32} (ag : AG (R.1 4) g) (p : Nat) : mvS (setA R 4 g) p = ((mvS R p).1, setA (mvS R p).2 4 g) := by
  unfold mvS
  rw [mtS_g ag, tcS_g ag]
  by_cases z : (mtS R p).1 = 0
  · rw [if_pos z, if_pos z]
  · rw [if_neg z, if_neg z]
theorem seS_4 (R : StT) (p : Nat) (x : Int32) : (seS R p x).1 4 = R.1 4 := by
  have h : (upS R p).1 4 = R.1 4 := by
    unfold upS
    by_cases z : R.1 8 p < 0
    · rw [if_pos z]
    · rw [if_neg z, setA_o _ _ (by decide)]
  simp only [seS]
  by_cases z : x < 0
  · rw [if_pos z, setA_o _ _ (by decide), h]
  · rw [if_neg z, setA_o _ _ (by decide), setA_o _ _ (by decide), h]
theorem mvS_4 (R : StT) (p : Nat) : (mvS R p).2.1 4 = R.1 4 := by
  have s1 : (tcS R p).2.1 4 = R.1 4 := by
    unfold tcS
    split
    · rfl
    · split
      · rfl
      · split
        · rfl
        · split
          · exact (swS_sm R p _).1 4 (by decide) (by decide)
          · rfl
  have s2 : (mtS R p).2.1 4 = R.1 4 := by
    unfold mtS
    split
    · rfl
    · split
      · exact seS_4 _ _ _
      · split
        · exact seS_4 _ _ _
        · rfl
  unfold mvS
  split
  · exact s1
  · exact s2
theorem ppS_g {g : Nat → Int32} : ∀ (k i : Nat) (R : StT) (m : Int32), AG (R.1 4) g → ppS (setA R 4 g) m i k = ((ppS R m i k).1, setA (ppS R m i k).2 4 g) ∧ (ppS R m i k).2.1 4 = R.1 4
  | 0, _, R, m, _ => ⟨rfl, rfl⟩
  | k + 1, i, R, m, ag => by
    have e4 := mvS_4 R i
    obtain ⟨h1, h2⟩ := ppS_g k (i + 1) (mvS R i).2 (m + (mvS R i).1) (by rw [e4]; exact ag)
    rw [ppS, ppS, mvS_g ag]
    exact ⟨h1, h2.trans e4⟩
theorem tkS_g (R : StT) (g : Nat → Int32) : tkS (setA R 4 g) = setA (tkS R) 4 g ∧ (tkS R).1 4 = R.1 4 := by
  simp only [tkS]
  rw [setA_o R g (show (2 : Nat) ≠ 4 by decide), setA_o R g (show (7 : Nat) ≠ 4 by decide), setA_2]
  have ef : setF (setA R 4 g) 1 (R.2.2 1 + 1) = setA (setF R 1 (R.2.2 1 + 1)) 4 g := rfl
  rw [ef]
  by_cases z : R.1 2 7 < 0
  · rw [if_pos z, if_pos z]; exact ⟨rfl, rfl⟩
  rw [if_neg z, if_neg z]
  by_cases y : 9999 ≤ R.1 7 (R.1 2 7).toNatClampNeg
  · rw [if_pos y, if_pos y]; exact ⟨rfl, rfl⟩
  · rw [if_neg y, if_neg y, setA_cm _ (show (4 : Nat) ≠ 7 by decide)]
    exact ⟨rfl, by rw [setA_o _ _ (by decide)]; rfl⟩
theorem hrS_g {R : StT} {g : Nat → Int32} (n : Nat) (ag : AG (R.1 4) g) : hrS n (setA R 4 g) = ((hrS n R).1, setA (hrS n R).2 4 g) ∧ (hrS n R).2.1 4 = R.1 4 := by
  obtain ⟨h1, h2⟩ := ppS_g n 0 R 0 ag
  obtain ⟨t1, t2⟩ := tkS_g (ppS R 0 0 n).2 g
  unfold hrS
  rw [h1]
  exact ⟨by rw [t1], t2.trans h2⟩
theorem paS_g {g : Nat → Int32} (n : Nat) : ∀ (k : Nat) (R : StT) (m : Int32), AG (R.1 4) g → paS n k (setA R 4 g) m = ((paS n k R m).1, setA (paS n k R m).2 4 g)
  | 0, _, _, _ => rfl
  | k + 1, R, m, ag => by
    obtain ⟨h1, h2⟩ := hrS_g n ag
    rw [paS, paS, h1]
    exact paS_g n k (hrS n R).2 (hrS n R).1 (by rw [h2]; exact ag)
theorem y_div : ∀ y, y < 100 → ¬ y % 4 = 0 → ¬ y % 10 = 0 → nI (y - 1) / 4 = nI y / 4 ∧ nI (y - 1) / 10 = nI y / 10 := by decide
theorem y_mod : ∀ y, y < 100 → ((nI y - nI y / 4 * 4 = 0) ↔ y % 4 = 0) ∧ ((nI y - nI y / 10 * 10 = 0) ↔ y % 10 = 0) := by decide
/-- where one of that age comes to sit -/
def yrS (n t : Nat) (R : StT) (p y : Nat) : Int32 := (paS n t (setA R 4 (upd (R.1 4) p (nI y))) 0).2.1 8 p
theorem yr_same (n t : Nat) (R : StT) (p : Nat) {y : Nat} (hy : y < 100) (h4 : ¬ y % 4 = 0) (h10 : ¬ y % 10 = 0) : yrS n t R p y = yrS n t R p (y - 1) := by
  obtain ⟨d4, d10⟩ := y_div y hy h4 h10
  have ag : AG ((setA R 4 (upd (R.1 4) p (nI (y - 1)))).1 4) (upd (R.1 4) p (nI y)) := by
    intro j
    rw [setA_s, upd_i, upd_i]
    by_cases z : j = p
    · rw [if_pos z, if_pos z]; exact ⟨d4, d10⟩
    · rw [if_neg z, if_neg z]; exact ⟨rfl, rfl⟩
  have h := paS_g n t (setA R 4 (upd (R.1 4) p (nI (y - 1)))) 0 ag
  rw [setA_tw] at h
  unfold yrS
  rw [h]
  show (setA _ 4 _).1 8 p = _
  rw [setA_o _ _ (by decide)]
theorem yr_one {n t p y : Nat} (ht : t ≤ 60) {B A : StT} (i : RI n B) (e8 : E8 B A) (hp : p < n) (hy : y ≤ 99) {M : StT} (e : RE n B (M.1 0)) : ∃ M2, f_X4_hoursGo (setA M 0 (upd (M.1 0) (18 + 6 * p + 1) (nI y))) (nI t) = some ((paS n t (setA A 4 (upd (A.1 4) p (nI y))) 0).1, M2) ∧ RI n (paS n t (setA A 4 (upd (A.1 4) p (nI y))) 0).2 ∧ RE n (paS n t (setA A 4 (upd (A.1 4) p (nI y))) 0).2 (M2.1 0) ∧ Fr (setA M 0 (upd (M.1 0) (18 + 6 * p + 1) (nI y))) M2 ∧ (paS n t (setA A 4 (upd (A.1 4) p (nI y))) 0).2.1 8 p = yrS n t B p y := by
  have hn := i.1
  have iA := (i.e8 e8).age hp hy
  have iB := i.age hp hy
  have eA : RE n (setA A 4 (upd (A.1 4) p (nI y))) ((setA M 0 (upd (M.1 0) (18 + 6 * p + 1) (nI y))).1 0) := by
    rw [setA_s]; exact (e.e8 hn e8).pers hn hp (w := 1) (by decide) (nI y)
  have eB : RE n (setA B 4 (upd (B.1 4) p (nI y))) ((setA M 0 (upd (M.1 0) (18 + 6 * p + 1) (nI y))).1 0) := by
    rw [setA_s]; exact e.pers hn hp (w := 1) (by decide) (nI y)
  obtain ⟨M2, x1, x2, x3⟩ := X4_hoursGo_eq ht iA eA
  obtain ⟨M3, y1, y2, y3⟩ := X4_hoursGo_eq ht iB eB
  have em : M3 = M2 := by
    rw [x1] at y1
    exact (congrArg Prod.snd (Option.some.inj y1)).symm
  subst em
  refine ⟨M3, x1, RI.pa t 0 iA, x2, x3, ?_⟩
  unfold yrS
  rw [← x2.w hp (w := 5) (by decide), y2.w hp (w := 5) (by decide)]
theorem years_l {G : Nat → StT} {M : StT} (h : Rel G M) {n t p c : Nat} (ht : t ≤ 60) (hc : c < 8) (i : RI n (G 1)) (e : RE n (G 1) (M.1 0)) (hp : p < n) :
    ∀ (r y f1 f2 : Nat) (G1 : Nat → StT) (M1 : StT), JR G M G1 M1 → y + r = 100 → r < f1 → r + 1 < f2 → (y ≠ 0 → yrS n t (G 1) p (y - 1) ≠ nI c) → SimR (f_X3_years_l34 f1 (nI p) (nI c) (nI t) (nI y) G1) (f_X4_years_l44 f2 (nI p) (nI c) (nI t) (-1) (nI y) M1) := by
  have hn := i.1
  intro r
  induction r with
  | zero =>
    intro y f1 f2 G1 M1 j hy hf1 hf2 hpr
    obtain ⟨f1, rfl⟩ : ∃ z, f1 = z + 1 := ⟨f1 - 1, by omega⟩
    obtain ⟨f2, rfl⟩ : ∃ z, f2 = z + 1 := ⟨f2 - 1, by omega⟩
    have ey : y = 100 := by omega
    subst ey
    rw [f_X3_years_l34, f_X4_years_l44, if_pos (show (99 : Int32) < nI 100 by decide), if_pos (show (99 : Int32) < nI 100 by decide)]
    unfold f_X4_years_b103
    rw [if_neg (by decide)]
    exact sfnd (j.fin h) 3 (by decide) rfl (by decide)
  | succ r ih =>
    intro y f1 f2 G1 M1 j hy hf1 hf2 hpr
    obtain ⟨f1, rfl⟩ : ∃ z, f1 = z + 1 := ⟨f1 - 1, by omega⟩
    obtain ⟨f2, rfl⟩ : ∃ z, f2 = z + 1 := ⟨f2 - 1, by omega⟩
    have nl : ¬ (99 : Int32) < nI y := fun q => by have := (nI_lti (a := 99) (by omega) (by omega)).mp q; omega
    have g1 : G1 1 = G 1 := j.1.1 1 (by decide) (by decide)
    obtain ⟨A, ea, e8⟩ := X0_become_eq (G1 2) (G 1)
    have e1 : RE n (G 1) (M1.1 0) := e.s66 hn j.2.2.1
    obtain ⟨M2, x1, xi, x2, x3, x4⟩ := yr_one (y := y) ht i e8 hp (by omega) e1
    have o : OnR G M n (gset G1 2 (paS n t (setA A 4 (upd (A.1 4) p (nI y))) 0).2) M2 := by
      refine ⟨by rw [gset_s]; exact xi, by rw [gset_s]; exact x2, j.1.tr (GF.set2 _ _), fun k hk => ?_, fun k h0 h3 => ?_, x3.2.trans j.2.2.2.2⟩
      · rw [x3.1 3 (by decide), setA_o _ _ (by decide)]; exact j.2.1 k hk
      · rw [x3.1 k h0, setA_o _ _ h0]; exact j.2.2.2.1 k h0 h3
    have es : f_X4_spotOf (nI p) 1 = some (nI (18 + 6 * p + 1)) := spotOf_eq p 1
    have ba : gset (gset G1 2 A) 1 (G 1) = gset G1 2 A := by rw [← g1]; exact gset_1 G1 A
    obtain ⟨w4, w10⟩ := y_mod y (by omega)
    have X4s : f_X4_years_l44 (f2 + 1) (nI p) (nI c) (nI t) (-1) (nI y) M1 = if yrS n t (G 1) p y = nI c then f_X4_years_l44 f2 (nI p) (nI c) (nI t) (nI y) (nI (y + 1)) (setA M2 0 (cp66 (M2.1 3) (M2.1 0))) else f_X4_years_l44 f2 (nI p) (nI c) (nI t) (-1) (nI (y + 1)) (setA M2 0 (cp66 (M2.1 3) (M2.1 0))) := by
      rw [f_X4_years_l44, if_neg nl, if_neg (show ¬ (0 : Int32) ≤ -1 by decide), es, bds, cki (show 18 + 6 * p + 1 < 66 by omega) (by decide), cln (show 18 + 6 * p + 1 < 2147483648 by omega)]
      unfold f_X4_years_b92
      simp only [nm, x1, bds, X4_its5 x2 hn hp, x4, X4_takesBack_eq, nI_1]
    have go : ¬ yrS n t (G 1) p y = nI c → ∀ G2, JR G M G2 (setA M2 0 (cp66 (M2.1 3) (M2.1 0))) → SimR (f_X3_years_l34 f1 (nI p) (nI c) (nI t) (nI (y + 1)) G2) (f_X4_years_l44 f2 (nI p) (nI c) (nI t) (-1) (nI (y + 1)) (setA M2 0 (cp66 (M2.1 3) (M2.1 0)))) := fun q G2 j2 => ih (y + 1) f1 f2 G2 _ j2 (by omega) (by omega) (by omega) (fun _ => q)
    have tested : SimR (f_X3_years_b56 (f_X3_years_l34 f1) (nI p) (nI c) (nI t) (nI y) G1) (f_X4_years_l44 (f2 + 1) (nI p) (nI c) (nI t) (-1) (nI y) M1) := by
      rw [X4s]
      unfold f_X3_years_b56 f_X3_years_b103
      rw [g1, ea, bds]
      simp only [nm, ba, gset_s, gset_tw, cki (show p < 8 by omega) (by decide : 8 < 2147483648), cln (show p < 2147483648 by omega), X0_pass_eq ht ((i.e8 e8).age hp (show y ≤ 99 by omega)), bds, x4, nI_1]
      by_cases q : yrS n t (G 1) p y = nI c
      · rw [if_pos q, if_pos q]
        obtain ⟨f2, rfl⟩ : ∃ z, f2 = z + 1 := ⟨f2 - 1, by omega⟩
        have b : f_X4_years_l44 (f2 + 1) (nI p) (nI c) (nI t) (nI y) (nI (y + 1)) (setA M2 0 (cp66 (M2.1 3) (M2.1 0))) = some (nI y, setA M2 0 (cp66 (M2.1 3) (M2.1 0))) := by
          rw [f_X4_years_l44]
          unfold f_X4_years_b103
          rw [if_pos (nI_p0 (by omega)), if_pos (nI_p0 (by omega))]
          by_cases u : (99 : Int32) < nI (y + 1)
          · rw [if_pos u]
          · rw [if_neg u]
        rw [b]
        exact ⟨_, _, _, rfl, rfl, o.fin h⟩
      · rw [if_neg q, if_neg q]
        exact go q _ o.jr
    rw [f_X3_years_l34, if_neg nl]
    by_cases z4 : y % 4 = 0
    · rw [if_pos (w4.mpr z4)]; exact tested
    rw [if_neg (fun q => z4 (w4.mp q))]
    by_cases z10 : y % 10 = 0
    · rw [if_pos (w10.mpr z10)]; exact tested
    rw [if_neg (fun q => z10 (w10.mp q))]
    have q : ¬ yrS n t (G 1) p y = nI c := by
      rw [yr_same n t (G 1) p (by omega) z4 z10]
      exact hpr (fun z => z4 (by rw [z]))
    rw [X4s, if_neg q]
    unfold f_X3_years_b103
    simp only [nm]
    rw [nI_1]
    have jj := o.jr
    exact go q G1 ⟨j.1, jj.2⟩
theorem sim_years {G : Nat → StT} {M : StT} (h : Rel G M) (a1 a2 a3 : Int32) : SimR (f_X3_years G a1 a2 a3) (f_X4_years M a1 a2 a3) := by
  have F := sfnd h 0 (by decide) (a := 0) (b := -1000000001) rfl (by decide)
  obtain ⟨⟨n, i, e⟩, -⟩ := id h
  have hn := i.1
  unfold f_X3_years f_X4_years
  rcases there i e a1 with ⟨c1, c2⟩ | ⟨p, hp, e1, c1, c2⟩
  · rw [c1, c2, bds, bds, if_pos rfl, if_pos rfl]; exact F
  subst e1
  rw [c1, c2, bds, bds, if_neg i1n, if_neg i1n]
  rcases chr a2 with ⟨d1, d2⟩ | ⟨c, hc, e2, d1, d2⟩
  · rw [d1, d2, bds, bds, if_pos rfl, if_pos rfl]; exact F
  subst e2
  have ein : f_X4_in a3.toInt64 (1 : Int64) (30 : Int64) = some (b2i (1 ≤ a3 ∧ a3 ≤ 30)) := X4_inI a3 1 30
  rw [d1, d2, bds, bds, if_neg i1n, if_neg i1n, isWithin_eq, bds, ein, bds]
  by_cases c : 1 ≤ a3 ∧ a3 ≤ 30
  · obtain ⟨t, ht, et⟩ := r30 ⟨ge0_1 c.1, c.2⟩
    subst et
    rw [b2i_1 c, if_neg i1n, if_neg i1n, X4_laysAside_eq, bds]
    exact years_l h (show t ≤ 60 by omega) hc i e hp 100 0 200 200 G _ ⟨GF.rf G, fun j hj => by rw [setA_s, cp_in hj], fun j hj => by rw [setA_o _ _ (by decide)], fun k _ h3 => setA_o _ _ h3, rfl⟩ (by omega) (by omega) (by omega) (fun q => absurd rfl q)
  · rw [b2i_0 c, if_pos rfl, if_pos rfl]; exact F
