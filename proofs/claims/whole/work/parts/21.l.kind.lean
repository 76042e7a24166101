-- kind, claim
def WN (R : StT) (p : Nat) : Int32 := if R.1 8 p = -1 then -1000 else HW R p (R.1 8 p).toNatClampNeg
theorem X0_wn_eq {n : Nat} {R : StT} (h : RI n R) {p : Nat} (hp : p < n) : f_X0_howWellNow R (nI p) = some (WN R p) := by
  have hn := h.1
  unfold f_X0_howWellNow WN
  rw [cki (show p < 8 by omega) (by decide), cki (show p < 8 by omega) (by decide), cln (by omega)]
  rcases (h.2.2.2.1 p hp).2.2.2.2 with hs | ⟨c, hc, hs⟩
  · rw [hs, if_pos m1_neg, if_pos rfl]
  · rw [hs, if_neg (nI_n0 (by omega)), if_neg (nI_m1 (by omega)), X0_howWell_eq h (by omega) hc, bds, cln (by omega)]
theorem WN_b {n : Nat} {R : StT} (h : RI n R) {p : Nat} (hp : p < n) : ¬ WN R p ≤ -10000 := by
  rw [ile]
  have q : (-10000 : Int32).toInt = -10000 := by decide
  unfold WN
  rcases (h.2.2.2.1 p hp).2.2.2.2 with hs | ⟨c, hc, hs⟩
  · rw [hs, if_pos rfl]; decide
  · rw [hs, if_neg (nI_m1 (by omega)), cln (by omega)]
    have b := (HW_b h hp hc).1
    omega
theorem X4_wellIn_eq {n t p : Nat} (ht : t ≤ 60) {A M : StT} (i2 : RI n A) (e2 : RE n A (M.1 0)) (hp : p < n) : ∃ M2, f_X4_wellIn M (nI p) (nI t) = some (WN (paS n t A 0).2 p, M2) ∧ MF M M2 := by
  have hn := i2.1
  have o : OnR (fun _ => A) M n (gset (fun _ => A) 2 A) (setA M 3 (cp66 (M.1 0) (M.1 3))) := ⟨by rw [gset_s]; exact i2, by rw [gset_s, setA_o _ _ (by decide)]; exact e2, GF.set2 _ A, fun j hj => by rw [setA_s, cp_in hj], fun k _ hk => setA_o _ _ hk, rfl⟩
  obtain ⟨M2, p1, p2, o2⟩ := o.pass ht
  rw [gset_s] at p2 o2
  have i3 := o2.1
  have e3 := o2.2.1
  rw [gset_s] at i3 e3
  refine ⟨_, ?_, o2.back⟩
  unfold f_X4_wellIn WN
  rw [X4_laysAside_eq, bds, p2, bds]
  simp only [nm, X4_its5 e3 hn hp, bds, X4_takesBack_eq]
  rcases (i3.2.2.2.1 p hp).2.2.2.2 with hs | ⟨c, hc, hs⟩
  · rw [hs, if_pos rfl, if_pos rfl]
  · rw [hs, if_neg (nI_m1 (by omega)), if_neg (nI_m1 (by omega)), X4_sits_eq i3 e3 hp hc, bds, cln (by omega)]
/-- the row but for one cell -/
def BF (M M1 : StT) (j0 : Nat) : Prop := (∀ j, j < 66 → j ≠ j0 → M1.1 0 j = M.1 0 j) ∧ MW M M1
theorem BF.rf (M : StT) (j0 : Nat) : BF M M j0 := ⟨fun _ _ _ => rfl, MW.rf M⟩
theorem BF.back {M M1 : StT} {j0 : Nat} (h : BF M M1 j0) : MF M (setA M1 0 (upd (M1.1 0) j0 (M.1 0 j0))) := by
  refine ⟨fun j hj => ?_, (h.2.tr (MW.set0 _ _))⟩
  rw [setA_s, upd_i]
  by_cases z : j = j0
  · rw [if_pos z, z]
  · rw [if_neg z]; exact h.1 j hj z
theorem BF.step {M M1 : StT} {j0 : Nat} (h : BF M M1 j0) {v : Int32} {M2 : StT} (f : MF (setA M1 0 (upd (M1.1 0) j0 v)) M2) : BF M M2 j0 := by
  refine ⟨fun j hj hne => ?_, (h.2.tr (MW.set0 _ _)).tr f.w⟩
  rw [f.1 j hj, setA_s, upd_o _ _ hne]; exact h.1 j hj hne
theorem BF.row {M M1 : StT} {j0 : Nat} (h : BF M M1 j0) (v : Int32) : ∀ j, j < 66 → upd (M1.1 0) j0 v j = upd (M.1 0) j0 v j := by
  intro j hj
  rw [upd_i, upd_i]
  by_cases z : j = j0
  · rw [if_pos z, if_pos z]
  · rw [if_neg z, if_neg z]; exact h.1 j hj z
theorem fin_k {G : Nat → StT} {M : StT} (h : Rel G M) {G1 : Nat → StT} {M1 : StT} (gf : GF G G1) {j0 : Nat} (bf : BF M M1 j0) : Rel G1 (setA M1 0 (upd (M1.1 0) j0 (M.1 0 j0))) := h.fr gf bf.back
theorem kind_l {G : Nat → StT} {M : StT} (h : Rel G M) {n t p : Nat} (ht : t ≤ 60) (i : RI n (G 1)) (e : RE n (G 1) (M.1 0)) (hp : p < n) :
    ∀ (r k f1 f2 : Nat) (be m1 m2 : Int32) (G1 : Nat → StT) (M1 : StT), GF G G1 → BF M M1 (18 + 6 * p + 0) → k + r = 6 → r < f1 → r < f2 → (k = 0 → m2 = -10000) → (k ≠ 0 → m2 = m1) → SimR (f_X3_kind_l32 f1 (nI p) (nI t) be m1 (nI k) G1) (f_X4_bestBy_l19 f2 (nI (18 + 6 * p + 0)) 5 (nI p) (nI t) (M.1 0 (18 + 6 * p + 0)) be m2 (nI k) M1) := by
  have hn := i.1
  intro r
  induction r with
  | zero =>
    intro k f1 f2 be m1 m2 G1 M1 gf bf hk hf1 hf2 hm0 hm1
    obtain ⟨f1, rfl⟩ : ∃ z, f1 = z + 1 := ⟨f1 - 1, by omega⟩
    obtain ⟨f2, rfl⟩ : ∃ z, f2 = z + 1 := ⟨f2 - 1, by omega⟩
    have ek : k = 6 := by omega
    subst ek
    rw [f_X3_kind_l32, f_X4_bestBy_l19, if_pos (show (6 : Int32) ≤ nI 6 by decide), if_pos (show (5 : Int32) < nI 6 by decide), cki (show 18 + 6 * p + 0 < 66 by omega) (by decide), cln (by omega)]
    exact ⟨_, _, _, rfl, rfl, fin_k h gf bf⟩
  | succ r ih =>
    intro k f1 f2 be m1 m2 G1 M1 gf bf hk hf1 hf2 hm0 hm1
    obtain ⟨f1, rfl⟩ : ∃ z, f1 = z + 1 := ⟨f1 - 1, by omega⟩
    obtain ⟨f2, rfl⟩ : ∃ z, f2 = z + 1 := ⟨f2 - 1, by omega⟩
    have nl : ¬ (6 : Int32) ≤ nI k := fun q => by have := (nI_lei (a := 6) (by omega) (by omega)).mp q; omega
    have nl2 : ¬ (5 : Int32) < nI k := fun q => by have := (nI_lti (a := 5) (by omega) (by omega)).mp q; omega
    have g1 : G1 1 = G 1 := gf.1 1 (by decide) (by decide)
    obtain ⟨A, ea, e8⟩ := X0_become_eq (G1 2) (G 1)
    have i2 := (i.e8 e8).kind (p := p) (show k < 6 by omega)
    have e2 : RE n (setA A 3 (upd (A.1 3) p (nI k))) ((setA M1 0 (upd (M1.1 0) (18 + 6 * p + 0) (nI k))).1 0) := by
      rw [setA_s]
      exact ((e.e8 hn e8).pers hn hp (w := 0) (by decide) (nI k)).s66 hn (bf.row (nI k))
    obtain ⟨M2, we, mf⟩ := X4_wellIn_eq ht i2 e2 hp
    have ba : gset (gset G1 2 A) 1 (G 1) = gset G1 2 A := by rw [← g1]; exact gset_1 G1 A
    rw [f_X3_kind_l32, f_X4_bestBy_l19, if_neg nl, if_neg nl2, g1, ea, bds]
    simp only [nm, ba, gset_s, gset_tw, cki (show p < 8 by omega) (by decide : 8 < 2147483648), cln (show p < 2147483648 by omega), cki (show 18 + 6 * p + 0 < 66 by omega) (by decide : 66 < 2147483648), cln (show 18 + 6 * p + 0 < 2147483648 by omega), X0_pass_eq ht i2, bds, X0_wn_eq (RI.pa t 0 i2) hp, we]
    unfold f_X3_kind_b92 f_X3_kind_b99 f_X4_bestBy_b57 f_X4_bestBy_b73
    simp only [nm, nI_1]
    have ii := fun be w => ih (k + 1) f1 f2 be w w _ M2 (gf.tr (GF.set2 G1 (paS n t (setA A 3 (upd (A.1 3) p (nI k))) 0).2)) (bf.step mf) (by omega) (by omega) (by omega) (fun q => absurd q (by omega)) (fun _ => rfl)
    by_cases z : k = 0
    · subst z
      have wb := WN_b (RI.pa t 0 i2) hp
      rw [if_pos (show nI 0 = 0 from rfl), hm0 rfl, if_neg wb, if_neg wb]
      exact ii _ _
    · rw [if_neg (show ¬ nI k = 0 from fun q => z ((nI_inj (b := 0) (by omega) (by omega)).mp q)), hm1 z]
      by_cases y : WN (paS n t (setA A 3 (upd (A.1 3) p (nI k))) 0).2 p ≤ m1
      · rw [if_pos y, if_pos y, if_pos y]; exact ii _ _
      · rw [if_neg y, if_neg y, if_neg y]; exact ii _ _
theorem sim_kind {G : Nat → StT} {M : StT} (h : Rel G M) (a1 a2 : Int32) : SimR (f_X3_kind G a1 a2) (f_X4_kind M a1 a2) := by
  have F := sfnd h 0 (by decide) (a := 0) (b := -1000000001) rfl (by decide)
  obtain ⟨⟨n, i, e⟩, -⟩ := id h
  have hn := i.1
  unfold f_X3_kind f_X4_kind
  rcases there i e a1 with ⟨c1, c2⟩ | ⟨p, hp, e1, c1, c2⟩
  · rw [c1, c2, bds, bds, if_pos rfl, if_pos rfl]; exact F
  · subst e1
    rw [c1, c2, bds, bds, if_neg i1n, if_neg i1n, isWithin_eq, bds, X4_isSoon_eq, bds]
    by_cases c : 0 ≤ a2 ∧ a2 ≤ 30
    · obtain ⟨t, ht, et⟩ := r30 c
      subst et
      have es : f_X4_spotOf (nI p) 0 = some (nI (18 + 6 * p + 0)) := spotOf_eq p 0
      rw [b2i_1 c, if_neg i1n, if_neg i1n, es, bds]
      unfold f_X4_bestBy
      rw [cki (show 18 + 6 * p + 0 < 66 by omega) (by decide), cln (show 18 + 6 * p + 0 < 2147483648 by omega)]
      simp only [nm]
      obtain ⟨r, G2, M2, x1, x2, x3⟩ := kind_l h (show t ≤ 60 by omega) i e hp 6 0 200 200 0 0 (-10000) G M (GF.rf G) (BF.rf M _) (by omega) (by omega) (by omega) (fun _ => rfl) (fun q => absurd rfl q)
      have x1 : f_X3_kind_l32 200 (nI p) (nI t) 0 0 0 G = some (r, G2) := x1
      have x2 : f_X4_bestBy_l19 200 (nI (18 + 6 * p + 0)) 5 (nI p) (nI t) (M.1 0 (18 + 6 * p + 0)) 0 (-10000) 0 M = some (r, M2) := x2
      rw [x1, x2, bds]
      exact ⟨r, G2, M2, rfl, rfl, x3⟩
    · rw [b2i_0 c, if_pos rfl, if_pos rfl]; exact F
theorem c9c : ∀ c, c < 9 → ((nI c - 1 = -1) ↔ c = 0) ∧ ¬ (7 : Int32) < nI c - 1 := by decide
theorem claim_l {G : Nat → StT} {M : StT} (h : Rel G M) {n t p : Nat} (ht : t ≤ 60) (i : RI n (G 1)) (e : RE n (G 1) (M.1 0)) (hp : p < n) :
    ∀ (r k f1 f2 : Nat) (be m1 m2 : Int32) (G1 : Nat → StT) (M1 : StT), GF G G1 → BF M M1 (18 + 6 * p + 2) → k + r = 9 → r < f1 → r < f2 → (k = 0 → m2 = -10000) → (k ≠ 0 → m2 = m1) → ∃ x G2 M2, f_X3_claim_l32 f1 (nI p) (nI t) be m1 (nI k - 1) G1 = some (1 + x, G2) ∧ f_X4_bestBy_l19 f2 (nI (18 + 6 * p + 2)) 7 (nI p) (nI t) (M.1 0 (18 + 6 * p + 2)) be m2 (nI k - 1) M1 = some (x, M2) ∧ Rel G2 M2 := by
  have hn := i.1
  intro r
  induction r with
  | zero =>
    intro k f1 f2 be m1 m2 G1 M1 gf bf hk hf1 hf2 hm0 hm1
    obtain ⟨f1, rfl⟩ : ∃ z, f1 = z + 1 := ⟨f1 - 1, by omega⟩
    obtain ⟨f2, rfl⟩ : ∃ z, f2 = z + 1 := ⟨f2 - 1, by omega⟩
    have ek : k = 9 := by omega
    subst ek
    rw [f_X3_claim_l32, f_X4_bestBy_l19, if_pos (show (8 : Int32) ≤ nI 9 - 1 by decide), if_pos (show (7 : Int32) < nI 9 - 1 by decide), cki (show 18 + 6 * p + 2 < 66 by omega) (by decide), cln (by omega)]
    exact ⟨_, _, _, rfl, rfl, fin_k h gf bf⟩
  | succ r ih =>
    intro k f1 f2 be m1 m2 G1 M1 gf bf hk hf1 hf2 hm0 hm1
    obtain ⟨f1, rfl⟩ : ∃ z, f1 = z + 1 := ⟨f1 - 1, by omega⟩
    obtain ⟨f2, rfl⟩ : ∃ z, f2 = z + 1 := ⟨f2 - 1, by omega⟩
    obtain ⟨nl, q2⟩ := c9a k (by omega)
    obtain ⟨q3, nl2⟩ := c9c k (by omega)
    have g1 : G1 1 = G 1 := gf.1 1 (by decide) (by decide)
    obtain ⟨A, ea, e8⟩ := X0_become_eq (G1 2) (G 1)
    have i2 := (i.e8 e8).claim hp (c9b (show k < 9 by omega))
    have e2 : RE n (setA A 5 (upd (A.1 5) p (nI k - 1))) ((setA M1 0 (upd (M1.1 0) (18 + 6 * p + 2) (nI k - 1))).1 0) := by
      rw [setA_s]
      exact ((e.e8 hn e8).pers hn hp (w := 2) (by decide) (nI k - 1)).s66 hn (bf.row (nI k - 1))
    obtain ⟨M2, we, mf⟩ := X4_wellIn_eq ht i2 e2 hp
    have ba : gset (gset G1 2 A) 1 (G 1) = gset G1 2 A := by rw [← g1]; exact gset_1 G1 A
    rw [f_X3_claim_l32, f_X4_bestBy_l19, if_neg nl, if_neg nl2, g1, ea, bds]
    simp only [nm, ba, gset_s, gset_tw, cki (show p < 8 by omega) (by decide : 8 < 2147483648), cln (show p < 2147483648 by omega), cki (show 18 + 6 * p + 2 < 66 by omega) (by decide : 66 < 2147483648), cln (show 18 + 6 * p + 2 < 2147483648 by omega), X0_pass_eq ht i2, bds, X0_wn_eq (RI.pa t 0 i2) hp, we]
    unfold f_X3_claim_b93 f_X3_claim_b100 f_X4_bestBy_b57 f_X4_bestBy_b73
    simp only [nm, q2]
    have ii := fun be w => ih (k + 1) f1 f2 be w w _ M2 (gf.tr (GF.set2 G1 (paS n t (setA A 5 (upd (A.1 5) p (nI k - 1))) 0).2)) (bf.step mf) (by omega) (by omega) (by omega) (fun q => absurd q (by omega)) (fun _ => rfl)
    by_cases z : k = 0
    · have wb := WN_b (RI.pa t 0 i2) hp
      rw [if_pos (q3.mpr z), hm0 z, if_neg wb, if_neg wb]
      exact ii _ _
    · rw [if_neg (fun q => z (q3.mp q)), hm1 z]
      by_cases y : WN (paS n t (setA A 5 (upd (A.1 5) p (nI k - 1))) 0).2 p ≤ m1
      · rw [if_pos y, if_pos y, if_pos y]; exact ii _ _
      · rw [if_neg y, if_neg y, if_neg y]; exact ii _ _
theorem sim_claim {G : Nat → StT} {M : StT} (h : Rel G M) (a1 a2 : Int32) : SimR (f_X3_claim G a1 a2) (f_X4_claim M a1 a2) := by
  have F := sfnd h 0 (by decide) (a := 0) (b := -1000000001) rfl (by decide)
  obtain ⟨⟨n, i, e⟩, -⟩ := id h
  have hn := i.1
  unfold f_X3_claim f_X4_claim
  rcases there i e a1 with ⟨c1, c2⟩ | ⟨p, hp, e1, c1, c2⟩
  · rw [c1, c2, bds, bds, if_pos rfl, if_pos rfl]; exact F
  · subst e1
    rw [c1, c2, bds, bds, if_neg i1n, if_neg i1n, isWithin_eq, bds, X4_isSoon_eq, bds]
    by_cases c : 0 ≤ a2 ∧ a2 ≤ 30
    · obtain ⟨t, ht, et⟩ := r30 c
      subst et
      have es : f_X4_spotOf (nI p) 2 = some (nI (18 + 6 * p + 2)) := spotOf_eq p 2
      rw [b2i_1 c, if_neg i1n, if_neg i1n, es, bds]
      unfold f_X4_bestBy
      rw [cki (show 18 + 6 * p + 2 < 66 by omega) (by decide), cln (show 18 + 6 * p + 2 < 2147483648 by omega)]
      simp only [nm]
      obtain ⟨r, G2, M2, x1, x2, x3⟩ := claim_l h (show t ≤ 60 by omega) i e hp 9 0 200 200 (-1) 0 (-10000) G M (GF.rf G) (BF.rf M _) (by omega) (by omega) (by omega) (fun _ => rfl) (fun q => absurd rfl q)
      have x1 : f_X3_claim_l32 200 (nI p) (nI t) (-1) 0 (-1) G = some (1 + r, G2) := x1
      have x2 : f_X4_bestBy_l19 200 (nI (18 + 6 * p + 2)) 7 (nI p) (nI t) (M.1 0 (18 + 6 * p + 2)) (-1) (-10000) (-1) M = some (r, M2) := x2
      rw [x1, x2, bds]
      exact ⟨1 + r, G2, M2, rfl, rfl, x3⟩
    · rw [b2i_0 c, if_pos rfl, if_pos rfl]; exact F
