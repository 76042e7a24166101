-- the text: a word and its number, perhaps
def FB (T0 M0 T M : StT) : Prop := FT T0 T ∧ (∀ q, q ≠ 0 → M.1 q = M0.1 q) ∧ M.2.1 = M0.2.1 ∧ ∀ q, q ≠ 4 → q ≠ 5 → q ≠ 6 → q ≠ 7 → M.2.2 q = M0.2.2 q
theorem FB.rf (T M : StT) : FB T M T M := ⟨⟨rfl, rfl, rfl, rfl⟩, fun _ _ => rfl, rfl, fun _ _ _ _ _ => rfl⟩
theorem FB.tr {T0 M0 T1 M1 T2 M2 : StT} (h : FB T0 M0 T1 M1) (g : FB T1 M1 T2 M2) : FB T0 M0 T2 M2 := by
  obtain ⟨⟨a1, a2, a3, a4⟩, a5, a6, a7⟩ := h
  obtain ⟨⟨b1, b2, b3, b4⟩, b5, b6, b7⟩ := g
  exact ⟨⟨b1.trans a1, b2.trans a2, b3.trans a3, b4.trans a4⟩, fun q hq => (b5 q hq).trans (a5 q hq), b6.trans a6, fun q h4 h5 h6 h7 => (b7 q h4 h5 h6 h7).trans (a7 q h4 h5 h6 h7)⟩
theorem FB.mk2 {T M T2 M2 : StT} (h : FT T T2) (g : FM M M2) : FB T M T2 M2 := ⟨h, fun q _ => by rw [g.1], g.2.1, fun q h4 h5 _ _ => g.2.2 q h4 h5⟩
theorem FB.m6 (T M : StT) (x : Int32) : FB T M T (setF M 6 x) := ⟨⟨rfl, rfl, rfl, rfl⟩, fun _ _ => rfl, rfl, fun q _ _ h6 _ => setF_o _ _ h6⟩
theorem FB.m7 (T M : StT) (x : Int32) : FB T M T (setF M 7 x) := ⟨⟨rfl, rfl, rfl, rfl⟩, fun _ _ => rfl, rfl, fun q _ _ _ h7 => setF_o _ _ h7⟩
theorem FB.m0 (T M : StT) (s : Nat → Int32) : FB T M T (setA M 0 s) := ⟨⟨rfl, rfl, rfl, rfl⟩, fun _ h => setA_o _ _ h, rfl, fun _ _ _ _ _ => rfl⟩
def OKs (B : Nat → Nat) (len e : Nat) (T M : StT) (f t : Nat) : Prop := BT T M len B ∧ TK B len T M f t ∧ e ≤ f ∧ M.2.2 7 = 0
def FLs (B : Nat → Nat) (len : Nat) (T M : StT) : Prop := ∃ f t, BT T M len B ∧ f ≤ t ∧ t ≤ len ∧ T.2.2 3 = nI f ∧ M.2.2 4 = nI f ∧ M.2.2 5 = nI t ∧ M.2.2 7 = 1
theorem OKs.m {B : Nat → Nat} {len e f t : Nat} {T M M2 : StT} (o : OKs B len e T M f t) (m6 : M2.1 6 = M.1 6) (m3 : M2.2.2 3 = M.2.2 3) (m4 : M2.2.2 4 = M.2.2 4) (m5 : M2.2.2 5 = M.2.2 5) (m7 : M2.2.2 7 = M.2.2 7) : OKs B len e T M2 f t := by
  obtain ⟨bt, ⟨k1, k2, k3, k4, k5, k6, k7, k8, k9, k10, k11⟩, he, e7⟩ := o
  exact ⟨bt.of rfl rfl m6 m3, ⟨k1, k2, k3, k4, k5, k6, m4.trans k7, m5.trans k8, k9, k10, k11⟩, he, m7.trans e7⟩
theorem OKs.six {B : Nat → Nat} {len e f t : Nat} {T M : StT} (o : OKs B len e T M f t) (x : Int32) : OKs B len e T (setF M 6 x) f t :=
  o.m rfl (setF_o _ _ (by decide)) (setF_o _ _ (by decide)) (setF_o _ _ (by decide)) (setF_o _ _ (by decide))
theorem OKs.row {B : Nat → Nat} {len e f t : Nat} {T M : StT} (o : OKs B len e T M f t) (s : Nat → Int32) : OKs B len e T (setA M 0 s) f t :=
  o.m (setA_o _ _ (by decide)) rfl rfl rfl rfl
theorem OKs.wk {B : Nat → Nat} {len e d f t : Nat} {T M : StT} (o : OKs B len e T M f t) (h : d ≤ e) : OKs B len d T M f t := ⟨o.1, o.2.1, Nat.le_trans h o.2.2.1, o.2.2.2⟩
theorem OKs.wrong {B : Nat → Nat} {len e f t : Nat} {T M : StT} (o : OKs B len e T M f t) : FLs B len T (setF M 7 1) := by
  obtain ⟨bt, ⟨k1, k2, k3, k4, k5, k6, k7, k8, -⟩, -⟩ := o
  exact ⟨f, t, bt.of rfl rfl rfl (setF_o _ _ (by decide)), k1, k2, k4, (setF_o _ _ (by decide)).trans k7, (setF_o _ _ (by decide)).trans k8, setF_s _ _ _⟩
theorem OKs.step {B : Nat → Nat} {len e f t : Nat} {T M : StT} (o : OKs B len e T M f t) : ∃ T2 M2 f2 t2, f_X2_step T = some T2 ∧ f_X4_token M = some M2 ∧ OKs B len t T2 M2 f2 t2 ∧ FT T T2 ∧ FM M M2 := by
  obtain ⟨bt, ⟨k1, k2, k3, k4, k5, k6, k7, k8, k9, k10, k11⟩, he, e7⟩ := o
  obtain ⟨T2, M2, f2, t2, a1, a2, a3, a4, a5, a6⟩ := step_ok bt k2 k5 k8
  exact ⟨T2, M2, f2, t2, a1, a2, ⟨bt.of (by rw [a5.1]) a5.2.2.1 (by rw [a6.1]) (a6.2.2 3 (by decide) (by decide)), a3, a4, (a6.2.2 7 (by decide) (by decide)).trans e7⟩, a5, a6⟩
theorem OKs.k9 {B : Nat → Nat} {len e f t : Nat} {T M : StT} (o : OKs B len e T M f t) (s1 : soB B len f = 1) : ∀ j, f ≤ j → j < t → soB B len j = 1 := by
  obtain ⟨-, ⟨-, -, -, -, -, -, -, -, k9, -⟩, -⟩ := o
  exact fun j h1 h2 => (k9 (Or.inl s1) j h1 h2).trans s1
/-- the word that stands here: both ask alike -/
theorem OKs.word {B : Nat → Nat} {len e f t : Nat} {T M : StT} (o : OKs B len e T M f t) : ∃ w : Int64, f_X4_word M = some w ∧ ∀ i, i < 14 → ∀ c : Int64, c = nL (cd i) → (f_X2_isWord i T = some 1 ∧ lg_cmp w c = 0) ∨ (f_X2_isWord i T = some 0 ∧ ¬ lg_cmp w c = 0) := by
  obtain ⟨bt, k, he, e7⟩ := id o
  refine ⟨_, X4_word_eq bt k e7, fun i hi c hc => ?_⟩
  have w := wcmp (B := B) (len := len) (f := f) (t := t) k.2.1 k.1 hi o.k9 hc
  rw [X2_isWord_eq bt k hi]
  by_cases z : soB B len f = 1 ∧ hwB B f (t - f) = cd i
  · exact Or.inl ⟨by rw [b2i_1 z], w.mpr z⟩
  · exact Or.inr ⟨by rw [b2i_0 z], fun q => z (w.mp q)⟩
def tpG (w k : Nat) (st : StT × StT) (a3 a4 : Int32) : Option (Int32 × (StT × StT)) := Option.bind (f_X2_isWord w st.1) fun z1 => if z1 = 0 then (some ((1 : Int32), st)) else (Option.bind (f_X2_step st.1) fun z2 => nm (z2, st.2) fun w3 => Option.bind (f_X2_isNumber w3.1 a4) fun z4 => if z4 = 0 then (some ((0 : Int32), w3)) else (ck a3 8 (nm (w3.1, (setA w3.2 k (upd (w3.2.1 k) (Int32.toNatClampNeg a3) (w3.1.2.2 5)))) fun w5 => Option.bind (f_X2_step w5.1) fun z6 => nm (z6, w5.2) fun w7 => some ((1 : Int32), w7))))
theorem perh {B : Nat → Nat} {len e f t w k x spot most : Nat} {T R M : StT} {c : Int64} (o : OKs B len e T M f t) (hw : w < 14) (hc : c = nL (cd w)) (hx : x < 8) (hs : spot < 66) (hm : most ≤ 99) :
    (∃ T2 M2 f2 t2 v, v ≤ most ∧ tpG w k (T, R) (nI x) (nI most) = some (1, (T2, setA R k (upd (R.1 k) x (nI v)))) ∧ f_X4_partItem M c (nI spot) (nI most) = some (setA M2 0 (upd (M.1 0) spot (nI v))) ∧ M2.1 0 = M.1 0 ∧ OKs B len e T2 M2 f2 t2 ∧ FB T M T2 M2) ∨
    (tpG w k (T, R) (nI x) (nI most) = some (1, (T, R)) ∧ f_X4_partItem M c (nI spot) (nI most) = some M) ∨
    (∃ T2 M2, tpG w k (T, R) (nI x) (nI most) = some (0, (T2, R)) ∧ f_X4_partItem M c (nI spot) (nI most) = some M2 ∧ FLs B len T2 M2 ∧ FB T M T2 M2) := by
  obtain ⟨wd, ew, hwd⟩ := o.word
  unfold tpG f_X4_partItem
  rw [ew, bds]
  rcases hwd w hw c hc with ⟨a1, a2⟩ | ⟨a1, a2⟩
  · obtain ⟨T1, M1, f1, t1, s1, s2, o1, ft1, fm1⟩ := o.step
    obtain ⟨bt1, k1, he1, e71⟩ := id o1
    have hf1 : f ≤ t := o.2.1.1
    simp only [a1, bds, nm]
    rw [if_neg i1n, if_pos a2, s1, bds, must_1 o.2.2.2, s2, bds]
    rw [X2_isNumber_eq k1 (show most ≤ 999 by omega), bds]
    rcases X4_number_eq bt1 k1 e71 (show most ≤ 999 by omega) with ⟨n1, n2, n3⟩ | ⟨n1, y, n3⟩
    · obtain ⟨T3, M3, f3, t3, s3, s4, o3, ft3, fm3⟩ := (o1.six (nI (nvB B f1 (t1 - f1)))).step
      have m6 : M3.2.2 6 = nI (nvB B f1 (t1 - f1)) := by rw [fm3.2.2 6 (by decide) (by decide), setF_s]
      have r0 : M3.1 0 = M.1 0 := by rw [fm3.1, setF_1, fm1.1]
      refine Or.inl ⟨T3, M3, f3, t3, nvB B f1 (t1 - f1), n2, ?_, ?_, r0, o3.wk (Nat.le_trans o.2.2.1 (Nat.le_trans hf1 (Nat.le_trans he1 k1.1))), ((FB.mk2 ft1 fm1).tr (FB.m6 T1 M1 _)).tr (FB.mk2 ft3 fm3)⟩
      · rw [b2i_1 ⟨n1, n2⟩, if_neg i1n, cki hx (by decide), cln (by omega), k1.num n1 (by omega), s3, bds]
      · rw [n3, s4, bds, o3.2.2.2, if_pos rfl, cki hs (by decide), cln (by omega), m6, r0]
    · refine Or.inr (Or.inr ⟨T1, setF (setF M1 6 y) 7 1, ?_, ?_, (o1.six y).wrong, ((FB.mk2 ft1 fm1).tr (FB.m6 T1 M1 y)).tr (FB.m7 T1 _ 1)⟩)
      · rw [b2i_0 n1, if_pos rfl]
      · rw [n3, bds, setF_s, if_neg i1n, cki hs (by decide), cki hs (by decide), cln (by omega), upd_id, setA_id]
  · refine Or.inr (Or.inl ⟨?_, ?_⟩)
    · rw [a1, bds, if_pos rfl]
    · rw [if_neg a2]
