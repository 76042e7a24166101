-- mend
def MW (M M2 : StT) : Prop := (∀ k, k ≠ 0 → k ≠ 2 → k ≠ 3 → k ≠ 5 → M2.1 k = M.1 k) ∧ M2.2.1 0 = M.2.1 0 ∧ M2.2.2 0 = M.2.2 0 ∧ M2.2.2 3 = M.2.2 3
theorem MW.rf (M : StT) : MW M M := ⟨fun _ _ _ _ _ => rfl, rfl, rfl, rfl⟩
theorem MF.w {M M2 : StT} (h : MF M M2) : MW M M2 := h.2
theorem MW.tr {A B C : StT} (h : MW A B) (h2 : MW B C) : MW A C := ⟨fun k a b c d => (h2.1 k a b c d).trans (h.1 k a b c d), h2.2.1.trans h.2.1, h2.2.2.1.trans h.2.2.1, h2.2.2.2.trans h.2.2.2⟩
theorem MW.set0 (M : StT) (s : Nat → Int32) : MW M (setA M 0 s) := ⟨fun _ h0 _ _ _ => setA_o _ _ h0, rfl, rfl, rfl⟩
theorem Rel.fw {G G2 : Nat → StT} {M M2 : StT} (h : Rel G M) (hg : GF G G2) (hm : MW M M2) {n : Nat} (i : RI n (G 1)) (e : RE n (G 1) (M2.1 0)) : Rel G2 M2 := by
  obtain ⟨-, k, t, s, f⟩ := h
  obtain ⟨g1, g2, g3⟩ := hg
  obtain ⟨m2, m3, m4, m5⟩ := hm
  refine ⟨⟨n, by rw [g1 1 (by decide) (by decide)]; exact i, ?_⟩, ?_, ?_, ?_, ?_⟩
  · rw [g1 1 (by decide) (by decide)]; exact e
  · obtain ⟨k1, k2⟩ := k
    unfold KK
    rw [g3, m4, g1 3 (by decide) (by decide), m2 1 (by decide) (by decide) (by decide) (by decide)]
    exact ⟨k1, k2⟩
  · unfold TT
    rw [g1 4 (by decide) (by decide), m5, m2 6 (by decide) (by decide) (by decide) (by decide)]
    exact t
  · intro k hk
    rw [g1 (5 + k) (by omega) (by omega), m2 7 (by decide) (by decide) (by decide) (by decide), m2 8 (by decide) (by decide) (by decide) (by decide), m3]
    exact s k hk
  · intro k hk
    rw [g2, m2 4 (by decide) (by decide) (by decide) (by decide)]
    exact f k hk
theorem E8.sy {A B : StT} (h : E8 A B) : E8 B A := ⟨fun k hk j hj => (h.1 k hk j hj).symm, h.2.1.symm, h.2.2.symm⟩
theorem on_off : ∀ m, m < 256 → ∀ q, q < 8 → m.testBit q = true → (nI m &&& (((1 : Int32) <<< (nI q &&& 31)) ^^^ -1)) ||| ((1 : Int32) <<< (nI q &&& 31)) = nI m := by decide +kernel
theorem po_back {n : Nat} {R : StT} (h : RI n R) {p q : Nat} (hp : p < 8) (hq : q < 8) (hne : p ≠ q) (ho : od R p q) : poS (poS R p q false) p q true = R := by
  obtain ⟨mp, hmp, emp⟩ := h.q8 hp
  obtain ⟨mq, hmq, emq⟩ := h.q8 hq
  have ho2 : od R q p := (h.2.2.2.2.2.2 p q hp hq).mp ho
  have b1 := (od_t emp hmp hq).mp ho
  have b2 := (od_t emq hmq hp).mp ho2
  rw [poS_eq, poS_eq, setA_tw, if_pos rfl, if_pos rfl, if_neg (by decide), if_neg (by decide), setA_s]
  have k1 : (upd (upd (R.1 6) p (qOff (R.1 6 p) q)) q (qOff (R.1 6 q) p)) p = qOff (R.1 6 p) q := by rw [upd_o _ _ hne, upd_s]
  have k2 : (upd (upd (R.1 6) p (qOff (R.1 6 p) q)) q (qOff (R.1 6 q) p)) q = qOff (R.1 6 q) p := by rw [upd_s]
  have j1 : qOn (qOff (R.1 6 p) q) q = R.1 6 p := by
    unfold qOn qOff
    rw [emp]
    exact on_off mp hmp q hq b1
  have j2 : qOn (qOff (R.1 6 q) p) p = R.1 6 q := by
    unfold qOn qOff
    rw [emq]
    exact on_off mq hmq p hp b2
  rw [k1, k2, j1, j2]
  have ef : upd (upd (upd (upd (R.1 6) p (qOff (R.1 6 p) q)) q (qOff (R.1 6 q) p)) p (R.1 6 p)) q (R.1 6 q) = R.1 6 := by
    funext j
    rw [upd_i, upd_i, upd_i, upd_i]
    by_cases z : j = q
    · rw [if_pos z, z]
    · rw [if_neg z]
      by_cases y : j = p
      · rw [if_pos y, y]
      · rw [if_neg y, if_neg z, if_neg y]
  rw [ef, setA_id]
theorem mend_l {G : Nat → StT} {M : StT} {n t p f1 f2 : Nat} (ht : t ≤ 60) (i : RI n (G 1)) (hp : p < n)
    (H : ∀ (mo two : Int32) (G1 : Nat → StT) (M1 : StT), GF G G1 → MW M M1 → RE n (G 1) (M1.1 0) → SimR (f_X3_mend_l49 f1 (nI t) mo two (nI (p + 1)) G1) (f_X4_mend_l25 f2 (nI t) two mo (nI (p + 1)) M1)) :
    ∀ (r q f3 f4 : Nat) (mo two : Int32) (G1 : Nat → StT) (M1 : StT), GF G G1 → MW M M1 → RE n (G 1) (M1.1 0) → q + r = n → p < q → r < f3 → r < f4 → SimR (f_X3_mend_l67 (f_X3_mend_l49 f1) f3 (nI t) mo two (nI p) (nI q) G1) (f_X4_mend_l42 (f_X4_mend_l25 f2) f4 (nI t) two mo (nI p) (nI q) M1) := by
  have hn := i.1
  intro r
  induction r with
  | zero =>
    intro q f3 f4 mo two G1 M1 gf mw e hq hpq hf3 hf4
    obtain ⟨f3, rfl⟩ : ∃ z, f3 = z + 1 := ⟨f3 - 1, by omega⟩
    obtain ⟨f4, rfl⟩ : ∃ z, f4 = z + 1 := ⟨f4 - 1, by omega⟩
    have eq : q = n := by omega
    subst eq
    have le := (nI_lei (a := q) (b := q) (by omega) (by omega)).mpr (Nat.le_refl q)
    rw [f_X3_mend_l67, f_X4_mend_l42, ck0, cl0, e.1, gf.1 1 (by decide) (by decide), i.2.1, if_pos le, if_pos le]
    simp only [nm]
    rw [nI_1]
    exact H mo two G1 M1 gf mw e
  | succ r ih =>
    intro q f3 f4 mo two G1 M1 gf mw e hq hpq hf3 hf4
    obtain ⟨f3, rfl⟩ : ∃ z, f3 = z + 1 := ⟨f3 - 1, by omega⟩
    obtain ⟨f4, rfl⟩ : ∃ z, f4 = z + 1 := ⟨f4 - 1, by omega⟩
    have nl : ¬ nI n ≤ nI q := fun z => by have := (nI_lei (by omega) (by omega)).mp z; omega
    have g1 : G1 1 = G 1 := gf.1 1 (by decide) (by decide)
    rw [f_X3_mend_l67, f_X4_mend_l42, ck0, cl0, e.1, g1, i.2.1, if_neg nl, if_neg nl, X0_odds_eq (G 1) (show p < 8 by omega), bds, X4_isQuarrel_eq e hn hp, bds]
    unfold f_X3_mend_b153 f_X4_mend_b121
    simp only [nm, nI_1]
    by_cases c : (((G 1).1 6 p >>> (nI q &&& 31)) &&& 1) = 1
    · obtain ⟨A, ea, e8⟩ := X0_become_eq (G1 2) (G 1)
      have iA := i.e8 e8
      have eA := e.e8 hn e8
      have i2 := iA.po hp (show q < n by omega) (show p ≠ q by omega) false
      have oA : od A p q := by
        rw [od_i, e8.1 6 (by decide) p (by omega)]; exact c
      obtain ⟨s, qs, es⟩ := X4_po_eq eA hn hp (show q < n by omega) (show p ≠ q by omega) false
      have qs : f_X4_quarrels M1 (nI p) (nI q) 0 = some (setA M1 0 s) := qs
      have po : f_X0_putAtOdds A (nI p) (nI q) 0 = some (poS A p q false) := X0_po_eq A (show p < 8 by omega) (show q < 8 by omega) (show p ≠ q by omega) false
      have es1 : RE n (poS A p q false) ((setA M1 0 s).1 0) := by rw [setA_s]; exact es
      obtain ⟨M2, pe, mf⟩ := X4_peaceIn_eq (G := fun _ => poS A p q false) ht i2 es1 i2 es1
      have e2 : RE n (poS A p q false) (M2.1 0) := es1.s66 hn mf.1
      obtain ⟨s2, qs2, es2⟩ := X4_po_eq e2 hn hp (show q < n by omega) (show p ≠ q by omega) true
      have qs2 : f_X4_quarrels M2 (nI p) (nI q) 1 = some (setA M2 0 s2) := qs2
      rw [po_back iA (show p < 8 by omega) (show q < 8 by omega) (show p ≠ q by omega) oA] at es2
      have e3 : RE n (G 1) ((setA M2 0 s2).1 0) := by rw [setA_s]; exact es2.e8 hn e8.sy
      have mw2 : MW M (setA M2 0 s2) := ((mw.tr (MW.set0 M1 s)).tr mf.w).tr (MW.set0 M2 s2)
      have ba : gset (gset G1 2 A) 1 (G 1) = gset G1 2 A := by rw [← g1]; exact gset_1 G1 A
      rw [b2i_1 c, if_neg i1n, if_neg i1n, ea, bds]
      simp only [ba, gset_s, po, bds, gset_tw, X0_pass_eq ht i2, X0_together_eq (RI.pa t 0 i2), qs, pe, qs2]
      have gf2 : ∀ X, GF G (gset G1 2 X) := fun X => gf.tr (GF.set2 _ _)
      unfold f_X4_mend_b107 f_X4_mend_b120 f_X4_mend_b121
      simp only [nm, nI_1]
      by_cases z : tgS (paS n t (poS A p q false) 0).2 n 0 0 ≤ mo
      · rw [if_pos z, if_pos z, if_pos z]
        exact ih (q + 1) f3 f4 _ _ _ _ (gf2 _) mw2 e3 (by omega) (by omega) (by omega) (by omega)
      · rw [if_neg z, if_neg z, if_neg z]
        exact ih (q + 1) f3 f4 _ _ _ _ (gf2 _) mw2 e3 (by omega) (by omega) (by omega) (by omega)
    · rw [b2i_0 c, if_pos rfl, if_pos rfl]
      exact ih (q + 1) f3 f4 mo two G1 M1 gf mw e (by omega) (by omega) (by omega) (by omega)
theorem mend_o {G : Nat → StT} {M : StT} (h : Rel G M) {n t : Nat} (ht : t ≤ 60) (i : RI n (G 1)) :
    ∀ (r p f1 f2 : Nat) (mo two : Int32) (G1 : Nat → StT) (M1 : StT), GF G G1 → MW M M1 → RE n (G 1) (M1.1 0) → p + r = n → r < f1 → r < f2 → SimR (f_X3_mend_l49 f1 (nI t) mo two (nI p) G1) (f_X4_mend_l25 f2 (nI t) two mo (nI p) M1) := by
  have hn := i.1
  intro r
  induction r with
  | zero =>
    intro p f1 f2 mo two G1 M1 gf mw e hp hf1 hf2
    obtain ⟨f1, rfl⟩ : ∃ z, f1 = z + 1 := ⟨f1 - 1, by omega⟩
    obtain ⟨f2, rfl⟩ : ∃ z, f2 = z + 1 := ⟨f2 - 1, by omega⟩
    have ep : p = n := by omega
    subst ep
    have le := (nI_lei (a := p) (b := p) (by omega) (by omega)).mpr (Nat.le_refl p)
    have r := h.fw gf mw i e
    rw [f_X3_mend_l49, f_X4_mend_l25, ck0, cl0, e.1, gf.1 1 (by decide) (by decide), i.2.1, if_pos le, if_pos le]
    by_cases z : 0 ≤ two
    · rw [if_pos z, if_pos z]; exact ⟨_, _, _, rfl, rfl, r⟩
    · rw [if_neg z, if_neg z]; exact sfnd r 3 (by decide) rfl (by decide)
  | succ r ih =>
    intro p f1 f2 mo two G1 M1 gf mw e hp hf1 hf2
    obtain ⟨f1, rfl⟩ : ∃ z, f1 = z + 1 := ⟨f1 - 1, by omega⟩
    obtain ⟨f2, rfl⟩ : ∃ z, f2 = z + 1 := ⟨f2 - 1, by omega⟩
    have nl : ¬ nI n ≤ nI p := fun z => by have := (nI_lei (by omega) (by omega)).mp z; omega
    rw [f_X3_mend_l49, f_X4_mend_l25, ck0, cl0, e.1, gf.1 1 (by decide) (by decide), i.2.1, if_neg nl, if_neg nl]
    simp only [nm]
    rw [nI_1]
    exact mend_l ht i (show p < n by omega) (fun mo two G1 M1 gf mw e => ih (p + 1) f1 f2 mo two G1 M1 gf mw e (by omega) (by omega) (by omega)) r (p + 1) 200 200 mo two G1 M1 gf mw e (by omega) (by omega) (by omega) (by omega)
theorem r30 {a : Int32} (h : 0 ≤ a ∧ a ≤ 30) : ∃ t, t ≤ 30 ∧ a = nI t := of_rng (n := 30) h.1 h.2 (by omega)
theorem sim_mend {G : Nat → StT} {M : StT} (h : Rel G M) (a1 : Int32) : SimR (f_X3_mend G a1) (f_X4_mend M a1) := by
  have F := sfnd h 0 (by decide) (a := 0) (b := -1000000001) rfl (by decide)
  obtain ⟨⟨n, i, e⟩, -⟩ := id h
  have hn := i.1
  unfold f_X3_mend f_X4_mend
  rw [isWithin_eq, bds, X4_isSoon_eq, bds]
  by_cases c : 0 ≤ a1 ∧ a1 ≤ 30
  · obtain ⟨t, ht, et⟩ := r30 c
    subst et
    obtain ⟨A, ea, e8⟩ := X0_become_eq (G 2) (G 1)
    have i2 := i.e8 e8
    obtain ⟨M2, p, mf⟩ := X4_peaceIn_eq (G := G) (show t ≤ 60 by omega) i e i2 (e.e8 i.1 e8)
    rw [b2i_1 c, if_neg i1n, if_neg i1n, ea, bds, p, bds]
    simp only [nm, gset_1, gset_s, X0_pass_eq (show t ≤ 60 by omega) i2, bds, X0_together_eq (RI.pa t 0 i2)]
    exact mend_o h (show t ≤ 60 by omega) i n 0 200 200 _ _ _ _ ((GF.set2 _ _).tr (GF.set2 _ _)) mf.w (e.s66 hn mf.1) (by omega) (by omega) (by omega)
  · rw [b2i_0 c, if_pos rfl, if_pos rfl]; exact F
