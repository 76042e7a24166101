-- beside
def B1 (n : Nat) (x : Int32) : Prop := x = -1 ∨ ∃ b, b < n ∧ x = nI b
theorem B1.lt {n : Nat} (hn : n ≤ 8) {x : Int32} (h : B1 n x) : x < 0 ↔ x = -1 := by
  rcases h with h | ⟨b, hb, h⟩
  · rw [h]; exact ⟨fun _ => rfl, fun _ => m1_neg⟩
  · rw [h]; exact ⟨fun q => absurd q (nI_n0 (by omega)), fun q => absurd q (nI_m1 (by omega))⟩
theorem B1.le {n : Nat} (hn : n ≤ 8) {x : Int32} (h : B1 n x) : 0 ≤ x ↔ ¬ x = -1 := by
  rcases h with h | ⟨b, hb, h⟩
  · rw [h]; exact ⟨fun q => absurd q (by decide), fun q => absurd rfl q⟩
  · rw [h]; exact ⟨fun _ => nI_m1 (by omega), fun _ => nI_p0 (by omega)⟩
theorem bs_step {G : Nat → StT} {M : StT} {n p q c f1 f2 : Nat} (i : RI n (G 1)) (e : RE n (G 1) (M.1 0)) (hp : p < n) (hq : q < n) (hpq : q ≠ p) (hs : (G 1).1 8 q = nI c) (hc : c < 8) {be mo ch : Int32} (hb : B1 n be) (hch : ¬ nI c + 1 < ch)
    {k3 : (Int32) → (Int32) → (Int32) → (Int32) → (Nat → StT) → Option (Int32 × (Nat → StT))} {k4 : (Int32) → (Int32) → (Int32) → (Int32) → (StT) → Option (Int32 × (StT))} :
    ∃ be2 mo2, B1 n be2 ∧ f_X3_beside_l66 k3 (f1 + 1) (nI p) be mo (nI q) ch G = f_X3_beside_l66 k3 f1 (nI p) be2 mo2 (nI q) (ch + 2) G ∧ f_X4_beside_l44 k4 (f2 + 1) (nI p) be mo (nI q) ch M = f_X4_beside_l44 k4 f2 (nI p) be2 mo2 (nI q) (ch + 2) M := by
  have hn := i.1
  have nq : ¬ nI q = nI p := fun z => hpq ((nI_inj (by omega) (by omega)).mp z)
  rw [f_X3_beside_l66, f_X4_beside_l44, cki (show q < 8 by omega) (by decide), cln (show q < 2147483648 by omega), hs, if_neg hch, X4_its5 e hn hq, bds, bds, hs, if_neg hch, if_neg nq, if_neg (nI_m1 (by omega))]
  unfold f_X0_isFreeFor f_X4_beside_b94
  rcases chr ch with ⟨d1, d2⟩ | ⟨d, hd, e2, d1, d2⟩
  · rw [d1, d2, bds, bds, if_pos rfl, if_pos rfl, bds, if_pos rfl, if_neg (nI_m1 (by omega)), if_neg nq]
    exact ⟨be, mo, hb, rfl, rfl⟩
  · subst e2
    rw [d1, d2, bds, bds, if_neg i1n, if_neg i1n, X4_whoIn_eq i e hd, bds, cki (show d < 8 by omega) (by decide), cki (show d < 8 by omega) (by decide), cln (show d < 2147483648 by omega)]
    have free : ∃ be2 mo2, B1 n be2 ∧ (if be = -1 then f_X3_beside_b115 (f_X3_beside_l66 k3 f1) (nI p) (nI q) (nI d) G else Option.bind (f_X0_howWell (G 1) (nI p) (nI d)) fun z45 => if z45 ≤ mo then f_X3_beside_b129 (f_X3_beside_l66 k3 f1) (nI p) be mo (nI q) (nI d) G else f_X3_beside_b115 (f_X3_beside_l66 k3 f1) (nI p) (nI q) (nI d) G) = f_X3_beside_l66 k3 f1 (nI p) be2 mo2 (nI q) (nI d + 2) G ∧ f_X4_beside_b108 (f_X4_beside_l44 k4 f2) (nI p) be mo (nI q) (nI d) M = f_X4_beside_l44 k4 f2 (nI p) be2 mo2 (nI q) (nI d + 2) M := by
      unfold f_X3_beside_b115 f_X3_beside_b129 f_X4_beside_b108 f_X4_beside_b127 f_X4_beside_b132 f_X4_beside_b145 f_X4_beside_b157 f_X4_beside_b158
      simp only [nm, X0_howWell_eq i (show p < 8 by omega) hd, bds, X4_sits_eq i e hp hd]
      rw [if_neg i1n, if_neg i1n, if_pos True.intro, if_pos True.intro]
      by_cases z : be = -1
      · rw [if_pos z, if_pos ((hb.lt hn).mpr z)]
        exact ⟨nI q, HW (G 1) p d, Or.inr ⟨q, hq, rfl⟩, rfl, rfl⟩
      · rw [if_neg z, if_neg (fun y => z ((hb.lt hn).mp y))]
        by_cases y : HW (G 1) p d ≤ mo
        · rw [if_pos y, if_pos y]
          exact ⟨be, mo, hb, rfl, rfl⟩
        · rw [if_neg y, if_neg y]
          exact ⟨nI q, HW (G 1) p d, Or.inr ⟨q, hq, rfl⟩, rfl, rfl⟩
    by_cases z : (G 1).1 2 d = -1
    · rw [if_pos z, if_pos z, bds, if_neg i1n]
      exact free
    · rw [if_neg z, if_neg z]
      by_cases y : (G 1).1 2 d = nI p
      · rw [if_pos y, if_pos y, bds, if_neg i1n]
        exact free
      · rw [if_neg y, if_neg y, bds, if_pos rfl]
        exact ⟨be, mo, hb, rfl, rfl⟩
theorem c8d : ∀ c, c < 8 → ¬ nI c + 1 < nI c - 1 ∧ ¬ nI c + 1 < nI c - 1 + 2 ∧ nI c + 1 < nI c - 1 + 2 + 2 := by decide
theorem beside_l {G : Nat → StT} {M : StT} (h : Rel G M) {n p : Nat} (i : RI n (G 1)) (e : RE n (G 1) (M.1 0)) (hp : p < n) : ∀ (r q f1 f2 : Nat) (be mo : Int32), B1 n be → q + r = n → r < f1 → r < f2 → SimR (f_X3_beside_l21 f1 (nI p) be mo (nI q) G) (f_X4_beside_l22 f2 (nI p) be mo (nI q) M) := by
  have hn := i.1
  intro r
  induction r with
  | zero =>
    intro q f1 f2 be mo hb hq hf1 hf2
    obtain ⟨f1, rfl⟩ : ∃ z, f1 = z + 1 := ⟨f1 - 1, by omega⟩
    obtain ⟨f2, rfl⟩ : ∃ z, f2 = z + 1 := ⟨f2 - 1, by omega⟩
    have eq : q = n := by omega
    subst eq
    have le := (nI_lei (a := q) (b := q) (by omega) (by omega)).mpr (Nat.le_refl q)
    rw [f_X3_beside_l21, f_X4_beside_l22, ck0, cl0, e.1, i.2.1, if_pos le, if_pos le]
    by_cases z : be = -1
    · rw [if_pos z, if_neg (fun y => ((hb.le hn).mp y) z)]; exact sfnd h 3 (by decide) rfl (by decide)
    · rw [if_neg z, if_pos ((hb.le hn).mpr z)]; exact ⟨_, _, _, rfl, rfl, h⟩
  | succ r ih =>
    intro q f1 f2 be mo hb hq hf1 hf2
    obtain ⟨f1, rfl⟩ : ∃ z, f1 = z + 1 := ⟨f1 - 1, by omega⟩
    obtain ⟨f2, rfl⟩ : ∃ z, f2 = z + 1 := ⟨f2 - 1, by omega⟩
    have nl : ¬ nI n ≤ nI q := fun z => by have := (nI_lei (by omega) (by omega)).mp z; omega
    have ii := fun be mo hb => ih (q + 1) f1 f2 be mo hb (by omega) (by omega) (by omega)
    rw [f_X3_beside_l21, f_X4_beside_l22, ck0, cl0, e.1, i.2.1, if_neg nl, if_neg nl, X4_its5 e hn (show q < n by omega), bds, cki (show q < 8 by omega) (by decide), cki (show q < 8 by omega) (by decide), cln (show q < 2147483648 by omega)]
    have e135 : ∀ be mo, f_X3_beside_b135 (f_X3_beside_l21 f1) (nI p) be mo (nI q) G = f_X3_beside_l21 f1 (nI p) be mo (nI (q + 1)) G := fun be mo => by
      show f_X3_beside_l21 f1 (nI p) be mo (nI q + 1) G = _
      rw [nI_1]
    have e164 : ∀ be mo, f_X4_beside_b164 (f_X4_beside_l22 f2) (nI p) be mo (nI q) M = f_X4_beside_l22 f2 (nI p) be mo (nI (q + 1)) M := fun be mo => by
      show f_X4_beside_l22 f2 (nI p) be mo (nI q + 1) M = _
      rw [nI_1]
    simp only [nm]
    by_cases z : q = p
    · subst z
      have skip : f_X4_beside_l44 (f_X4_beside_l22 f2) 200 (nI q) be mo (nI q) ((G 1).1 8 q - 1) M = f_X4_beside_l22 f2 (nI q) be mo (nI (q + 1)) M := by
        rw [show (200 : Nat) = 199 + 1 from rfl, f_X4_beside_l44, X4_its5 e hn (show q < n by omega), bds, if_pos rfl, e164, ite_self]
      rw [if_pos rfl, e135, skip]
      exact ii be mo hb
    · have nq : ¬ nI q = nI p := fun y => z ((nI_inj (by omega) (by omega)).mp y)
      rw [if_neg nq]
      rcases (i.2.2.2.1 q (by omega)).2.2.2.2 with hs | ⟨c, hc, hs⟩
      · have skip : f_X4_beside_l44 (f_X4_beside_l22 f2) 200 (nI p) be mo (nI q) ((G 1).1 8 q - 1) M = f_X4_beside_l22 f2 (nI p) be mo (nI (q + 1)) M := by
          rw [show (200 : Nat) = 199 + 1 from rfl, f_X4_beside_l44, X4_its5 e hn (show q < n by omega), bds, bds, if_neg nq, hs, if_pos rfl, e164, ite_self]
        rw [skip, hs, if_pos m1_neg, e135]
        exact ii be mo hb
      · rw [hs, if_neg (nI_n0 (by omega))]
        obtain ⟨u1, u2, u3⟩ := c8d c hc
        obtain ⟨be2, mo2, hb2, a1, a2⟩ := bs_step (f1 := 199) (f2 := 199) i e hp (show q < n by omega) z hs hc hb u1 (mo := mo) (k3 := f_X3_beside_l21 f1) (k4 := f_X4_beside_l22 f2)
        obtain ⟨be3, mo3, hb3, b1, b2⟩ := bs_step (f1 := 198) (f2 := 198) i e hp (show q < n by omega) z hs hc hb2 u2 (mo := mo2) (k3 := f_X3_beside_l21 f1) (k4 := f_X4_beside_l22 f2)
        rw [show f_X3_beside_l66 (f_X3_beside_l21 f1) 200 (nI p) be mo (nI q) (nI c - 1) G = f_X3_beside_l66 (f_X3_beside_l21 f1) (199 + 1) (nI p) be mo (nI q) (nI c - 1) G from rfl, a1, show f_X3_beside_l66 (f_X3_beside_l21 f1) 199 (nI p) be2 mo2 (nI q) (nI c - 1 + 2) G = f_X3_beside_l66 (f_X3_beside_l21 f1) (198 + 1) (nI p) be2 mo2 (nI q) (nI c - 1 + 2) G from rfl, b1]
        rw [show f_X4_beside_l44 (f_X4_beside_l22 f2) 200 (nI p) be mo (nI q) (nI c - 1) M = f_X4_beside_l44 (f_X4_beside_l22 f2) (199 + 1) (nI p) be mo (nI q) (nI c - 1) M from rfl, a2, show f_X4_beside_l44 (f_X4_beside_l22 f2) 199 (nI p) be2 mo2 (nI q) (nI c - 1 + 2) M = f_X4_beside_l44 (f_X4_beside_l22 f2) (198 + 1) (nI p) be2 mo2 (nI q) (nI c - 1 + 2) M from rfl, b2]
        rw [show f_X3_beside_l66 (f_X3_beside_l21 f1) 198 (nI p) be3 mo3 (nI q) (nI c - 1 + 2 + 2) G = f_X3_beside_l66 (f_X3_beside_l21 f1) (197 + 1) (nI p) be3 mo3 (nI q) (nI c - 1 + 2 + 2) G from rfl, f_X3_beside_l66, show f_X4_beside_l44 (f_X4_beside_l22 f2) 198 (nI p) be3 mo3 (nI q) (nI c - 1 + 2 + 2) M = f_X4_beside_l44 (f_X4_beside_l22 f2) (197 + 1) (nI p) be3 mo3 (nI q) (nI c - 1 + 2 + 2) M from rfl, f_X4_beside_l44, cki (show q < 8 by omega) (by decide), cln (show q < 2147483648 by omega), hs, if_pos u3, X4_its5 e hn (show q < n by omega), bds, hs, if_pos u3, e135, e164]
        exact ii be3 mo3 hb3
theorem sim_beside {G : Nat → StT} {M : StT} (h : Rel G M) (a1 : Int32) : SimR (f_X3_beside G a1) (f_X4_beside M a1) := by
  have F := sfnd h 0 (by decide) (a := 0) (b := -1000000001) rfl (by decide)
  obtain ⟨⟨n, i, e⟩, -⟩ := id h
  have hn := i.1
  unfold f_X3_beside f_X4_beside
  rcases there i e a1 with ⟨c1, c2⟩ | ⟨p, hp, e1, c1, c2⟩
  · rw [c1, c2, bds, bds, if_pos rfl, if_pos rfl]; exact F
  · subst e1
    rw [c1, c2, bds, bds, if_neg i1n, if_neg i1n]
    exact beside_l h i e hp n 0 200 200 (-1) 0 (Or.inl rfl) (by omega) (by omega) (by omega)
