-- best: the reference
theorem Bj.swap {n : Nat} {D : Nat → Prop} {E : Int32 → Prop} {w u : Nat → Int32} (h : Bj n D E w u) {x z : Nat} (hx : D x) (hz : D z) : Bj n D E w (swU u x z) := by
  obtain ⟨h1, h2, h3, h4⟩ := h
  have ez : swU u x z z = u x := by unfold swU; rw [upd_s]
  have ex := swU_at u x z
  have key : ∀ y, D y → ∃ y2, D y2 ∧ swU u x z y = u y2 ∧ ((y = x → y2 = z) ∧ (y = z → y2 = x) ∧ (y ≠ x → y ≠ z → y2 = y)) := by
    intro y hy
    by_cases a : y = x
    · subst a
      exact ⟨z, hz, ex, fun _ => rfl, fun q => q.symm, fun q => absurd rfl q⟩
    · by_cases b : y = z
      · subst b
        exact ⟨x, hx, ez, fun q => absurd q a, fun _ => rfl, fun _ q => absurd rfl q⟩
      · exact ⟨y, hy, swU_off u a b, fun q => absurd q a, fun q => absurd q b, fun _ _ => rfl⟩
  refine ⟨fun y hy q => ?_, fun y hy => ?_, fun y y2 hy hy2 e => ?_, fun c hc => ?_⟩
  · rw [swU_off u (fun k => q (by rw [k]; exact hx)) (fun k => q (by rw [k]; exact hz))]
    exact h1 y hy q
  · obtain ⟨k, k1, k2, -⟩ := key y hy
    rw [k2]; exact h2 k k1
  · obtain ⟨k, k1, k2, k3, k4, k5⟩ := key y hy
    obtain ⟨l, l1, l2, l3, l4, l5⟩ := key y2 hy2
    rw [k2, l2] at e
    have kl := h3 k l k1 l1 e
    by_cases a : y = x
    · by_cases a2 : y2 = x
      · rw [a, a2]
      · by_cases b2 : y2 = z
        · have := k3 a; have := l4 b2; rw [a, b2]; omega
        · have := k3 a; have := l5 a2 b2; omega
    · by_cases b : y = z
      · by_cases a2 : y2 = x
        · have := k4 b; have := l3 a2; rw [b, a2]; omega
        · by_cases b2 : y2 = z
          · rw [b, b2]
          · have := k4 b; have := l5 a2 b2; omega
      · by_cases a2 : y2 = x
        · have := k5 a b; have := l3 a2; omega
        · by_cases b2 : y2 = z
          · have := k5 a b; have := l4 b2; omega
          · have := k5 a b; have := l5 a2 b2; omega
  · obtain ⟨y, hy, ey⟩ := h4 c hc
    by_cases a : y = x
    · exact ⟨z, hz, by rw [ez, ← a]; exact ey⟩
    · by_cases b : y = z
      · exact ⟨x, hx, by rw [ex, ← b]; exact ey⟩
      · exact ⟨y, hy, by rw [swU_off u a b]; exact ey⟩
def DM (n mask : Nat) : Nat → Prop := fun x => x < n ∧ mask.testBit x = true
def EC (C : Nat → Nat) (mm k : Nat) : Int32 → Prop := fun c => ∃ j, k ≤ j ∧ j < mm ∧ c = nI (C j)
theorem DM_s {n mask x : Nat} (hn : n ≤ 8) (hm : mask < 256) (hx : x < 8) (y : Nat) : DM n mask y ∧ y ≠ x ↔ DM n (clr mask x) y := by
  constructor
  · rintro ⟨⟨h1, h2⟩, h3⟩
    exact ⟨h1, (bcl_t mask hm x hx y (by omega)).mpr ⟨h2, h3⟩⟩
  · rintro ⟨h1, h2⟩
    obtain ⟨h3, h4⟩ := (bcl_t mask hm x hx y (by omega)).mp h2
    exact ⟨⟨h1, h3⟩, h4⟩
theorem EC_s {C : Nat → Nat} {mm k : Nat} (hmm : mm ≤ 8) (hC8 : ∀ j, j < mm → C j < 8) (hC : ∀ a b, a < mm → b < mm → C a = C b → a = b) (hk : k < mm) (c : Int32) : EC C mm k c ∧ c ≠ nI (C k) ↔ EC C mm (k + 1) c := by
  constructor
  · rintro ⟨⟨j, h1, h2, h3⟩, h4⟩
    have : j ≠ k := fun z => h4 (by rw [h3, z])
    exact ⟨j, by omega, h2, h3⟩
  · rintro ⟨j, h1, h2, h3⟩
    refine ⟨⟨j, by omega, h2, h3⟩, fun z => ?_⟩
    have c1 := hC8 j h2
    have c2 := hC8 k hk
    have := hC j k h2 hk ((nI_inj (by omega) (by omega)).mp (h3.symm.trans z))
    omega
def lowb (m : Nat) : Nat := if m.testBit 0 then 0 else if m.testBit 1 then 1 else if m.testBit 2 then 2 else if m.testBit 3 then 3 else if m.testBit 4 then 4 else if m.testBit 5 then 5 else if m.testBit 6 then 6 else 7
theorem lowb_ok : ∀ m, m < 256 → m ≠ 0 → lowb m < 8 ∧ m.testBit (lowb m) = true := by decide +kernel
def PS (n : Nat) (s : Nat → Int32) (M1 M : StT) (w : Nat → Int32) : Prop := (∀ j, j < 66 → M.1 0 j = rwU n s w j) ∧ (∀ q, q ≠ 0 → M.1 q = M1.1 q) ∧ M.2.1 = M1.2.1 ∧ ∀ q, q ≠ 2 → M.2.2 q = M1.2.2 q
theorem rwU_upd {n : Nat} (hn : n ≤ 8) {s w f : Nat → Int32} {x : Nat} (hx : x < n) (c : Int32) (h : ∀ j, j < 66 → f j = rwU n s w j) : ∀ j, j < 66 → upd f (18 + 6 * x + 5) c j = rwU n s (upd w x c) j := by
  intro j hj
  rw [upd_i]
  by_cases z : j = 18 + 6 * x + 5
  · rw [if_pos z, z, rwU_p hx, upd_s]
  · rw [if_neg z, h j hj]
    unfold rwU
    by_cases y : 18 ≤ j ∧ j < 18 + 6 * n ∧ (j - 18) % 6 = 5
    · rw [if_pos y, if_pos y, upd_o _ _ (by omega)]
    · rw [if_neg y, if_neg y]
theorem pl_ok {n mm : Nat} {R0 M1 : StT} {s : Nat → Int32} {C : Nat → Nat} (hn : n ≤ 8) (e0 : RE n R0 s) (hmm : mm ≤ 8) (hC8 : ∀ j, j < mm → C j < 8) (hC : ∀ a b, a < mm → b < mm → C a = C b → a = b) (tk : ∀ j, j < mm → M1.1 5 j = nI (C j)) :
    ∀ (d k mask : Nat) (w : Nat → Int32) (M : StT), PS n s M1 M w → mask < 256 → (∀ y, y < 8 → mask.testBit y = true → y < n) → k ≤ mm → 9 ≤ k + d → (∃ u, Bj n (DM n mask) (EC C mm k) w u) → (∀ u, Bj n (DM n mask) (EC C mm k) w u → ∃ v, VR n R0 u v) →
    ∃ M2 w2, f_X4_places d M (nI k) (nI mask) = some M2 ∧ PS n s M1 M2 w2 ∧ (∀ x, x < n → ¬ DM n mask x → w2 x = w x) ∧ M.2.2 2 ≤ M2.2.2 2 ∧ (∀ u v, Bj n (DM n mask) (EC C mm k) w u → VR n R0 u v → v ≤ M2.2.2 2) ∧ (M2.2.2 2 = M.2.2 2 ∨ ∃ u, Bj n (DM n mask) (EC C mm k) w u ∧ VR n R0 u (M2.2.2 2)) := by
  intro d
  induction d with
  | zero => intro k mask w M _ _ _ h1 h2; omega
  | succ d ih =>
    intro k mask w M ps hm hmn hk hd ne hv
    rw [f_X4_places, f_X4_places_s]
    by_cases z : mask = 0
    · subst z
      have nd : ∀ x, ¬ DM n 0 x := fun x q => by have := q.2; rw [Nat.zero_testBit] at this; cases this
      obtain ⟨u0, b0⟩ := ne
      obtain ⟨v0, w0⟩ := hv u0 b0
      obtain ⟨R, st, tv⟩ := id w0
      have e1 : RE n R (M.1 0) := (e0.rwU hn st.2.1 (u := w) (fun p hp => (st.2.2 p hp).trans (b0.1 p hp (nd p)))).s66 hn ps.1
      have pn := X4_peaceNow_eq st.1 e1
      rw [tv] at pn
      have all : ∀ u v, Bj n (DM n 0) (EC C mm k) w u → VR n R0 u v → v = v0 := fun u v b q => (w0.det e0 hn q (fun x hx => (b.1 x hx (nd x)).trans (b0.1 x hx (nd x)).symm)).symm
      rw [if_pos (show nI 0 = 0 from rfl), pn, bds]
      simp only [nm]
      by_cases y : v0 ≤ M.2.2 2
      · rw [if_pos y]
        refine ⟨_, w, rfl, ⟨ps.1, ps.2.1, ps.2.2.1, fun q hq => ?_⟩, fun _ _ _ => rfl, ?_, fun u v b q => ?_, Or.inl ?_⟩
        · rw [setF_o _ _ hq]; exact ps.2.2.2 q hq
        · rw [setF_s]; exact le_rf _
        · rw [setF_s, all u v b q]; exact y
        · rw [setF_s]
      · rw [if_neg y]
        have y2 : M.2.2 2 ≤ v0 := by rw [ile] at y ⊢; omega
        refine ⟨_, w, rfl, ⟨ps.1, ps.2.1, ps.2.2.1, fun q hq => ?_⟩, fun _ _ _ => rfl, ?_, fun u v b q => ?_, Or.inr ⟨u0, b0, ?_⟩⟩
        · rw [setF_o _ _ hq]; exact ps.2.2.2 q hq
        · rw [setF_s]; exact y2
        · rw [setF_s, all u v b q]; exact le_rf _
        · rw [setF_s]; exact w0
    · have z0 : ¬ nI mask = 0 := fun q => z ((nI_inj (b := 0) (by omega) (by omega)).mp q)
      rw [if_neg z0]
      obtain ⟨lb1, lb2⟩ := lowb_ok mask hm z
      have hkm : k < mm := by
        obtain ⟨u0, b0⟩ := ne
        obtain ⟨j, j1, j2, -⟩ := b0.2.1 (lowb mask) ⟨hmn _ lb1 lb2, lb2⟩
        omega
      have ek : EC C mm k (nI (C k)) := ⟨k, Nat.le_refl k, hkm, rfl⟩
      have loop : ∀ (r i fuel : Nat) (w1 : Nat → Int32) (Mi : StT), i + r = n → r < fuel → PS n s M1 Mi w1 → (∀ x, x < n → ¬ DM n mask x → w1 x = w x) → M.2.2 2 ≤ Mi.2.2 2 → (∀ u v, Bj n (DM n mask) (EC C mm k) w u → (∃ x, x < i ∧ DM n mask x ∧ u x = nI (C k)) → VR n R0 u v → v ≤ Mi.2.2 2) → (Mi.2.2 2 = M.2.2 2 ∨ ∃ u, Bj n (DM n mask) (EC C mm k) w u ∧ VR n R0 u (Mi.2.2 2)) →
          ∃ M2 w2, f_X4_places_l32 (f_X4_places d) fuel (nI k) (nI mask) (nI i) Mi = some M2 ∧ PS n s M1 M2 w2 ∧ (∀ x, x < n → ¬ DM n mask x → w2 x = w x) ∧ M.2.2 2 ≤ M2.2.2 2 ∧ (∀ u v, Bj n (DM n mask) (EC C mm k) w u → VR n R0 u v → v ≤ M2.2.2 2) ∧ (M2.2.2 2 = M.2.2 2 ∨ ∃ u, Bj n (DM n mask) (EC C mm k) w u ∧ VR n R0 u (M2.2.2 2)) := by
        intro r
        induction r with
        | zero =>
          intro i fuel w1 Mi hi hf p1 w1o l1 l2 l3
          obtain ⟨fuel, rfl⟩ : ∃ z, fuel = z + 1 := ⟨fuel - 1, by omega⟩
          have e : i = n := by omega
          subst e
          refine ⟨Mi, w1, ?_, p1, w1o, l1, fun u v b q => ?_, l3⟩
          · rw [f_X4_places_l32, ck0, cl0, p1.1 0 (by decide), rwU_o (fun p _ => by omega), e0.1, if_pos ((nI_lei (by omega) (by omega)).mpr (Nat.le_refl i))]
          · obtain ⟨x, dx, ux⟩ := b.2.2.2 _ ek
            exact l2 u v b ⟨x, dx.1, dx, ux⟩ q
        | succ r ihr =>
          intro i fuel w1 Mi hi hf p1 w1o l1 l2 l3
          obtain ⟨fuel, rfl⟩ : ∃ z, fuel = z + 1 := ⟨fuel - 1, by omega⟩
          rw [f_X4_places_l32, ck0, cl0, p1.1 0 (by decide), rwU_o (fun p _ => by omega), e0.1, if_neg (fun q => by have := (nI_lei (by omega) (by omega)).mp q; omega)]
          unfold f_X4_places_b81
          simp only [nm, nI_1]
          by_cases bt : mask.testBit i = true
          · have dx : DM n mask i := ⟨by omega, bt⟩
            have es : f_X4_spotOf (nI i) 5 = some (nI (18 + 6 * i + 5)) := spotOf_eq i 5
            obtain ⟨bc, bc2⟩ := bcl8 mask hm i (by omega)
            have m5 : Mi.1 5 k = nI (C k) := by rw [p1.2.1 5 (by decide)]; exact tk k hkm
            have w2o : ∀ y, y < n → ¬ DM n mask y → upd w1 i (nI (C k)) y = w y := fun y hy q => by rw [upd_o _ _ (fun k => q (by rw [k]; exact dx))]; exact w1o y hy q
            have p2 : PS n s M1 (setA Mi 0 (upd (Mi.1 0) (18 + 6 * i + 5) (nI (C k)))) (upd w1 i (nI (C k))) := by
              refine ⟨fun j hj => ?_, fun q hq => ?_, p1.2.2.1, p1.2.2.2⟩
              · rw [setA_s]; exact rwU_upd hn (by omega) (nI (C k)) p1.1 j hj
              · rw [setA_o _ _ hq]; exact p1.2.1 q hq
            have dn := fun (u : Nat → Int32) (b : Bj n (DM n mask) (EC C mm k) w u) (ux : u i = nI (C k)) => ((b.down (w2 := upd w1 i (nI (C k))) dx ux (upd_s _ _ _) w2o).cg (fun y => DM_s hn hm (by omega) y) (fun c => EC_s hmm hC8 hC hkm c))
            have up := fun (u : Nat → Int32) (b : Bj n (DM n (clr mask i)) (EC C mm (k + 1)) (upd w1 i (nI (C k))) u) => ((b.cg (fun y => (DM_s hn hm (by omega) y).symm) (fun c => (EC_s hmm hC8 hC hkm c).symm)).up (w := w) dx (by omega) ek (upd_s _ _ _) w2o).1
            obtain ⟨M3, w3, a1, a2, a3, a4, a5, a6⟩ := ih (k + 1) (clr mask i) (upd w1 i (nI (C k))) _ p2 bc2 (fun y hy q => hmn y hy ((bcl_t mask hm i (by omega) y hy).mp q).1) (by omega) (by omega) (by
              obtain ⟨u0, b0⟩ := ne
              obtain ⟨x, hx, ux⟩ := b0.2.2.2 _ ek
              exact ⟨swU u0 i x, dn _ (b0.swap dx hx) ((swU_at u0 i x).trans ux)⟩) (fun u b => hv u (up u b))
            rw [if_pos ((bt8 mask hm i (by omega)).mpr bt), es, bds, cki (show k < 8 by omega) (by decide), cki (show 18 + 6 * i + 5 < 66 by omega) (by decide), cln (show k < 2147483648 by omega), cln (show 18 + 6 * i + 5 < 2147483648 by omega), m5, bc, a1, bds]
            have a4 : Mi.2.2 2 ≤ M3.2.2 2 := a4
            have a6 : M3.2.2 2 = Mi.2.2 2 ∨ ∃ u, Bj n (DM n (clr mask i)) (EC C mm (k + 1)) (upd w1 i (nI (C k))) u ∧ VR n R0 u (M3.2.2 2) := a6
            refine ihr (i + 1) fuel w3 M3 (by omega) (by omega) a2 (fun x hx q => ?_) (le_tr l1 a4) (fun u v b q r => ?_) ?_
            · rw [a3 x hx (fun k => q (((DM_s hn hm (by omega) x).mpr k).1))]; exact w2o x hx q
            · obtain ⟨x, x1, x2, x3⟩ := q
              by_cases y : x = i
              · subst y
                exact a5 u v (dn u b x3) r
              · exact le_tr (l2 u v b ⟨x, by omega, x2, x3⟩ r) a4
            · rcases a6 with a6 | ⟨u, b, q⟩
              · rw [a6]; exact l3
              · exact Or.inr ⟨u, up u b, q⟩
          · rw [if_neg (fun q => bt ((bt8 mask hm i (by omega)).mp q))]
            refine ihr (i + 1) fuel w1 Mi (by omega) (by omega) p1 w1o l1 (fun u v b q r => ?_) l3
            obtain ⟨x, x1, x2, x3⟩ := q
            have : x ≠ i := fun y => bt (by rw [← y]; exact x2.2)
            exact l2 u v b ⟨x, by omega, x2, x3⟩ r
      exact loop n 0 200 w M (by omega) (by omega) ps (fun _ _ _ => rfl) (le_rf _) (fun u v b q => by obtain ⟨x, x1, -⟩ := q; omega) (Or.inl rfl)
