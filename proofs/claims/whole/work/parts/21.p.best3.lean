-- best: the class
theorem ST.inj {n m : Nat} {R0 R : StT} {u : Nat → Int32} {P : Nat → Nat} (h : ST n R0 R u) (hPn : ∀ j, j < m → P j < n) (hP : ∀ a b, a < m → b < m → P a = P b → a = b) (hu : ∀ j, j < m → u (P j) ≠ -1) : ∀ a b, a < m → b < m → u (P a) = u (P b) → a = b := by
  obtain ⟨i, sm, st⟩ := h
  intro a b ha hb e
  rcases (i.2.2.2.1 (P a) (hPn a ha)).2.2.2.2 with hs | ⟨c, hc, hs⟩
  · exact absurd ((st (P a) (hPn a ha)).symm.trans hs) (hu a ha)
  · have h2 : R.1 8 (P b) = nI c := by rw [st (P b) (hPn b hb), ← e, ← st (P a) (hPn a ha)]; exact hs
    exact hP a b ha hb (i.apart (hPn a ha) (hPn b hb) hc hs h2)
theorem swU_at (u : Nat → Int32) (p q : Nat) : swU u p q p = u q := by
  unfold swU
  rw [upd_i, upd_i]
  by_cases z : p = q
  · rw [if_pos z, z]
  · rw [if_neg z, if_pos rfl]
theorem swU_off (u : Nat → Int32) {p q x : Nat} (h1 : x ≠ p) (h2 : x ≠ q) : swU u p q x = u x := by
  unfold swU
  rw [upd_o _ _ h2, upd_o _ _ h1]
theorem swU_tw (u : Nat → Int32) {p q : Nat} (h : p ≠ q) : swU (swU u p q) p q = u := by
  funext x
  have e2 : swU u p q q = u p := by unfold swU; rw [upd_s]
  have e1 := swU_at u p q
  by_cases z : x = q
  · rw [z]
    show upd (upd (swU u p q) p (swU u p q q)) q (swU u p q p) q = _
    rw [upd_s, e1]
  · by_cases y : x = p
    · rw [y, swU_at, e2]
    · rw [swU_off _ y z, swU_off _ y z]
theorem ST.swap {n : Nat} {R0 R : StT} {u : Nat → Int32} (h : ST n R0 R u) {p q : Nat} (hp : p < n) (hq : q < n) (hne : p ≠ q) : ST n R0 (swS R p q) (swU u p q) := by
  obtain ⟨i, sm, st⟩ := h
  refine ⟨i.swap hp hq hne, sm.tr (swS_sm R p q), fun x hx => ?_⟩
  rw [swS_8]
  unfold swU
  rw [upd_i, upd_i, upd_i, upd_i, st p hp, st q hq, st x hx]
theorem ST.self {n m k : Nat} {R0 R : StT} {u : Nat → Int32} {P : Nat → Nat} (h : ST n R0 R u) (hPn : ∀ j, j < m → P j < n) (hP : ∀ a b, a < m → b < m → P a = P b → a = b) (hu : ∀ j, j < m → u (P j) ≠ -1) : Bj n (DP P m k) (EP P m k u) u u := by
  have hi := h.inj hPn hP hu
  refine ⟨fun _ _ _ => rfl, fun x hx => ⟨x, hx, rfl⟩, ?_, fun c hc => hc⟩
  rintro x y ⟨a, a1, a2, a3⟩ ⟨b, b1, b2, b3⟩ e
  subst a3; subst b3
  rw [hi a b a2 b2 e]
theorem mp_lift {n m k i : Nat} {R0 : StT} {u : Nat → Int32} {P : Nat → Nat} (hPn : ∀ j, j < m → P j < n) (hP : ∀ a b, a < m → b < m → P a = P b → a = b) (hi : ∀ a b, a < m → b < m → u (P a) = u (P b) → a = b) (hk : k ≤ i) (him : i < m) {v : Int32}
    (h : MX n R0 (Bj n (DP P m (k + 1)) (EP P m (k + 1) (swU u (P k) (P i))) (swU u (P k) (P i))) v) :
    (∃ u2, Bj n (DP P m k) (EP P m k u) u u2 ∧ VR n R0 u2 v) ∧ ∀ u2, Bj n (DP P m k) (EP P m k u) u u2 → u2 (P k) = u (P i) → ∃ v2, VR n R0 u2 v2 ∧ v2 ≤ v := by
  have w2o : ∀ y, y < n → ¬ DP P m k y → swU u (P k) (P i) y = u y := fun y _ q => swU_off u (fun z => q ⟨k, Nat.le_refl k, by omega, z⟩) (fun z => q ⟨i, hk, him, z⟩)
  obtain ⟨⟨u1, b1, v1⟩, up⟩ := h
  refine ⟨⟨u1, ?_, v1⟩, fun u2 b2 e2 => ?_⟩
  · exact ((b1.cg (fun x => (DP_s hP (by omega) x).symm) (fun c => (EP_s hP hi hk him c).symm)).up ⟨k, Nat.le_refl k, by omega, rfl⟩ (hPn k (by omega)) ⟨P i, ⟨i, hk, him, rfl⟩, rfl⟩ (swU_at u (P k) (P i)) w2o).1
  · exact up u2 ((b2.down ⟨k, Nat.le_refl k, by omega, rfl⟩ e2 (swU_at u (P k) (P i)) w2o).cg (fun x => DP_s hP (by omega) x) (fun c => EP_s hP hi hk him c))
theorem mp_ok {n m : Nat} {R0 : StT} {P : Nat → Nat} (hn : n ≤ 8) (hm : m ≤ 6) (hPn : ∀ j, j < m → P j < n) (hP : ∀ a b, a < m → b < m → P a = P b → a = b) : ∀ (d k : Nat) (u : Nat → Int32) (G1 : Nat → StT), ST n R0 (G1 2) u → (∀ j, j < m → u (P j) ≠ -1) → (∀ j, j < m → (G1 0).1 1 j = nI (P j)) → m < k + d → (k = 0 ∨ k < m) → ∃ v G2, f_X3_mostPeace d G1 (nI k) (nI m) = some (v, G2) ∧ (∀ q, q ≠ 2 → G2 q = G1 q) ∧ ST n R0 (G2 2) u ∧ MX n R0 (Bj n (DP P m k) (EP P m k u) u) v := by
  intro d
  induction d with
  | zero => intro k u G1 _ _ _ h1 h2; omega
  | succ d ih =>
    intro k u G1 st hu sit hd hk
    have t : (nI m - 1).toInt = (m : Int) - 1 := by rw [li 1, pk_sub_toInt (by omega) (by omega)]; rfl
    have hi := st.inj hPn hP hu
    rw [f_X3_mostPeace, f_X3_mostPeace_s]
    by_cases leaf : m ≤ k + 1
    · have c : nI m - 1 ≤ nI k := by rw [ile, t, tI (by omega)]; omega
      rw [if_pos c, X0_together_eq st.1, bds]
      refine ⟨_, G1, rfl, fun _ _ => rfl, st, ⟨u, st.self hPn hP hu, G1 2, st, rfl⟩, fun u2 b2 => ⟨_, ⟨G1 2, ⟨st.1, st.2.1, fun x hx => ?_⟩, rfl⟩, le_rf _⟩⟩
      rw [st.2.2 x hx]
      obtain ⟨b1, b3, -, -⟩ := b2
      by_cases z : DP P m k x
      · obtain ⟨y, ⟨j, j1, j2, j3⟩, e⟩ := b3 x z
        obtain ⟨l, l1, l2, l3⟩ := z
        have : j = l := by omega
        rw [← e, j3, l3, this]
      · exact (b1 x hx z).symm
    · have c : ¬ nI m - 1 ≤ nI k := by rw [ile, t, tI (by omega)]; omega
      have c6 : nI k < 6 := (nI_lti (b := 6) (by omega) (by omega)).mpr (by omega)
      obtain ⟨v0, G2, r1, r2, r3, r4⟩ := ih (k + 1) u G1 st hu sit (by omega) (Or.inr (by omega))
      rw [if_neg c, if_pos c6, nI_1, r1, bds]
      simp only [nm]
      have A0 := mp_lift (i := k) hPn hP hi (Nat.le_refl k) (by omega) (by rw [swU_id]; exact r4)
      have loop : ∀ (r i fuel : Nat) (v : Int32) (G3 : Nat → StT), i + r = m → k < i → r < fuel → (∀ q, q ≠ 2 → G3 q = G1 q) → ST n R0 (G3 2) u → (∃ u2, Bj n (DP P m k) (EP P m k u) u u2 ∧ VR n R0 u2 v) → (∀ u2, Bj n (DP P m k) (EP P m k u) u u2 → (∃ j, k ≤ j ∧ j < i ∧ u2 (P k) = u (P j)) → ∃ v2, VR n R0 u2 v2 ∧ v2 ≤ v) → ∃ v2 G4, f_X3_mostPeace_l34 (f_X3_mostPeace d) fuel (nI k) (nI m) v (nI i) G3 = some (v2, G4) ∧ (∀ q, q ≠ 2 → G4 q = G1 q) ∧ ST n R0 (G4 2) u ∧ MX n R0 (Bj n (DP P m k) (EP P m k u) u) v2 := by
        intro r
        induction r with
        | zero =>
          intro i fuel v G3 hir hki hf g3 s3 at1 up
          obtain ⟨fuel, rfl⟩ : ∃ z, fuel = z + 1 := ⟨fuel - 1, by omega⟩
          have e : i = m := by omega
          subst e
          refine ⟨v, G3, ?_, g3, s3, at1, fun u2 b2 => ?_⟩
          · rw [f_X3_mostPeace_l34, if_pos ((nI_lei (by omega) (by omega)).mpr (Nat.le_refl i))]
          · obtain ⟨x, ⟨j, j1, j2, j3⟩, e⟩ := b2.2.1 (P k) ⟨k, Nat.le_refl k, by omega, rfl⟩
            exact up u2 b2 ⟨j, j1, j2, by rw [← e, j3]⟩
        | succ r ihr =>
          intro i fuel v G3 hir hki hf g3 s3 at1 up
          obtain ⟨fuel, rfl⟩ : ∃ z, fuel = z + 1 := ⟨fuel - 1, by omega⟩
          have ne : P k ≠ P i := fun z => by have := hP k i (by omega) (by omega) z; omega
          have s4 := s3.swap (hPn k (by omega)) (hPn i (by omega)) ne
          have g30 : G3 0 = G1 0 := g3 0 (by decide)
          have hu4 : ∀ j, j < m → swU u (P k) (P i) (P j) ≠ -1 := by
            intro j hj
            by_cases z : P j = P k
            · rw [z, swU_at]; exact hu i (by omega)
            · by_cases y : P j = P i
              · rw [y]; unfold swU; rw [upd_s]; exact hu k (by omega)
              · rw [swU_off u z y]; exact hu j hj
          obtain ⟨v1, G5, q1, q2, q3, q4⟩ := ih (k + 1) (swU u (P k) (P i)) (gset G3 2 (swS (G3 2) (P k) (P i))) (by rw [gset_s]; exact s4) hu4 (fun j hj => by rw [gset_o _ _ (by decide), g30]; exact sit j hj) (by omega) (Or.inr (by omega))
          have g50 : G5 0 = G1 0 := by rw [q2 0 (by decide), gset_o _ _ (by decide)]; exact g30
          have s6 := q3.swap (hPn k (by omega)) (hPn i (by omega)) ne
          rw [swU_tw u ne] at s6
          obtain ⟨L1, L2⟩ := mp_lift hPn hP hi (show k ≤ i by omega) (show i < m by omega) q4
          rw [f_X3_mostPeace_l34, if_neg (fun z => by have := (nI_lei (by omega) (by omega)).mp z; omega), cki (show k < 8 by omega) (by decide), cki (show i < 8 by omega) (by decide), cln (show k < 2147483648 by omega), cln (show i < 2147483648 by omega), g30, sit k (by omega), sit i (by omega), X0_swap_eq s3.1 (hPn k (by omega)) (hPn i (by omega)), bds]
          simp only [nm]
          rw [nI_1, q1, bds]
          simp only [nm, cki (show k < 8 by omega) (by decide : 8 < 2147483648), cki (show i < 8 by omega) (by decide : 8 < 2147483648), g50, sit k (show k < m by omega), sit i (show i < m by omega), X0_swap_eq q3.1 (hPn k (show k < m by omega)) (hPn i (show i < m by omega)), bds, nI_1]
          refine ihr (i + 1) fuel _ _ (by omega) (by omega) (by omega) (fun q hq => by rw [gset_o _ _ hq, q2 q hq, gset_o _ _ hq]; exact g3 q hq) (by rw [gset_s]; exact s6) ?_ ?_
          · by_cases z : v < v1
            · rw [if_pos z]; exact L1
            · rw [if_neg z]; exact at1
          · rintro u2 b2 ⟨j, j1, j2, j3⟩
            have l1 : v ≤ (if v < v1 then v1 else v) := by
              by_cases z : v < v1
              · rw [if_pos z]; exact lt_le z
              · rw [if_neg z]; exact le_rf v
            have l2 : v1 ≤ (if v < v1 then v1 else v) := by
              by_cases z : v < v1
              · rw [if_pos z]; exact le_rf v1
              · rw [if_neg z]; exact ltn_le z
            by_cases z : j = i
            · subst z
              obtain ⟨v2, a, b⟩ := L2 u2 b2 j3
              exact ⟨v2, a, le_tr b l2⟩
            · obtain ⟨v2, a, b⟩ := up u2 b2 ⟨j, j1, by omega, j3⟩
              exact ⟨v2, a, le_tr b l1⟩
      exact loop (m - (k + 1)) (k + 1) 200 v0 G2 (by omega) (by omega) (by omega) r2 r3 A0.1 (fun u2 b2 q => by
        obtain ⟨j, j1, j2, j3⟩ := q
        have : j = k := by omega
        rw [this] at j3
        exact A0.2 u2 b2 j3)
