-- rows copied whole
def cp66 (f g : Nat → Int32) : Nat → Int32 := fun j => if j < 66 then f j else g j
def cpn (f g : Nat → Int32) (i : Nat) : Nat → Int32 := fun j => if j < i then f j else g j
theorem cpn_0 (f g : Nat → Int32) : cpn f g 0 = g := by funext j; simp [cpn]
theorem cpn_s (f g : Nat → Int32) (i : Nat) : upd (cpn f g i) i (f i) = cpn f g (i + 1) := by
  funext j
  simp only [upd, cpn]
  by_cases h : j = i
  · subst h; simp
  · by_cases h2 : j < i
    · simp [h, h2, Nat.lt_succ_of_lt h2]
    · have h3 : ¬ j < i + 1 := by omega
      simp [h, h2, h3]
theorem setA_tw (R : StT) (k : Nat) (f g : Nat → Int32) : setA (setA R k f) k g = setA R k g := by
  unfold setA
  refine Prod.ext ?_ rfl
  funext j
  by_cases h : j = k <;> simp [h]
theorem setA_id (R : StT) (k : Nat) : setA R k (R.1 k) = R := by
  unfold setA
  refine Prod.ext ?_ rfl
  funext j
  by_cases h : j = k
  · subst h; simp
  · simp [h]
theorem cp_in {f g : Nat → Int32} {j : Nat} (h : j < 66) : cp66 f g j = f j := if_pos h
theorem X4_laysAside_l (M : StT) : ∀ (k i fuel : Nat), i + k = 66 → k < fuel → f_X4_laysAside_l2 fuel (nI i) (setA M 3 (cpn (M.1 0) (M.1 3) i)) = some (setA M 3 (cp66 (M.1 0) (M.1 3))) := by
  intro k
  induction k with
  | zero =>
    intro i fuel hi hf
    obtain ⟨fuel, rfl⟩ : ∃ z, fuel = z + 1 := ⟨fuel - 1, by omega⟩
    have e : i = 66 := by omega
    subst e
    rw [f_X4_laysAside_l2, if_pos (show (66 : Int32) ≤ nI 66 by decide)]
    rfl
  | succ k ih =>
    intro i fuel hi hf
    obtain ⟨fuel, rfl⟩ : ∃ z, fuel = z + 1 := ⟨fuel - 1, by omega⟩
    rw [f_X4_laysAside_l2, if_neg (fun q => by have := (nI_lei (a := 66) (by omega) (by omega)).mp q; omega), cki (show i < 66 by omega) (by decide), cki (show i < 66 by omega) (by decide), cln (by omega), setA_s, setA_o _ _ (show (0 : Nat) ≠ 3 by decide), setA_tw, cpn_s]
    simp only [nm]
    rw [nI_1]
    exact ih (i + 1) fuel (by omega) (by omega)
theorem X4_laysAside_eq (M : StT) : f_X4_laysAside M = some (setA M 3 (cp66 (M.1 0) (M.1 3))) := by
  have h := X4_laysAside_l M 66 0 200 (by omega) (by omega)
  rw [cpn_0, setA_id] at h
  exact h
theorem X4_saves_l (M : StT) : ∀ (k i fuel : Nat), i + k = 66 → k < fuel → f_X4_saves_l2 fuel (nI i) (setA M 2 (cpn (M.1 0) (M.1 2) i)) = some (setA M 2 (cp66 (M.1 0) (M.1 2))) := by
  intro k
  induction k with
  | zero =>
    intro i fuel hi hf
    obtain ⟨fuel, rfl⟩ : ∃ z, fuel = z + 1 := ⟨fuel - 1, by omega⟩
    have e : i = 66 := by omega
    subst e
    rw [f_X4_saves_l2, if_pos (show (66 : Int32) ≤ nI 66 by decide)]
    rfl
  | succ k ih =>
    intro i fuel hi hf
    obtain ⟨fuel, rfl⟩ : ∃ z, fuel = z + 1 := ⟨fuel - 1, by omega⟩
    rw [f_X4_saves_l2, if_neg (fun q => by have := (nI_lei (a := 66) (by omega) (by omega)).mp q; omega), cki (show i < 66 by omega) (by decide), cki (show i < 66 by omega) (by decide), cln (by omega), setA_s, setA_o _ _ (show (0 : Nat) ≠ 2 by decide), setA_tw, cpn_s]
    simp only [nm]
    rw [nI_1]
    exact ih (i + 1) fuel (by omega) (by omega)
theorem X4_saves_eq (M : StT) : f_X4_saves M = some (setA M 2 (cp66 (M.1 0) (M.1 2))) := by
  have h := X4_saves_l M 66 0 200 (by omega) (by omega)
  rw [cpn_0, setA_id] at h
  exact h
theorem X4_putsBack_l (M : StT) : ∀ (k i fuel : Nat), i + k = 66 → k < fuel → f_X4_putsBack_l2 fuel (nI i) (setA M 0 (cpn (M.1 2) (M.1 0) i)) = some (setA M 0 (cp66 (M.1 2) (M.1 0))) := by
  intro k
  induction k with
  | zero =>
    intro i fuel hi hf
    obtain ⟨fuel, rfl⟩ : ∃ z, fuel = z + 1 := ⟨fuel - 1, by omega⟩
    have e : i = 66 := by omega
    subst e
    rw [f_X4_putsBack_l2, if_pos (show (66 : Int32) ≤ nI 66 by decide)]
    rfl
  | succ k ih =>
    intro i fuel hi hf
    obtain ⟨fuel, rfl⟩ : ∃ z, fuel = z + 1 := ⟨fuel - 1, by omega⟩
    rw [f_X4_putsBack_l2, if_neg (fun q => by have := (nI_lei (a := 66) (by omega) (by omega)).mp q; omega), cki (show i < 66 by omega) (by decide), cki (show i < 66 by omega) (by decide), cln (by omega), setA_s, setA_o _ _ (show (2 : Nat) ≠ 0 by decide), setA_tw, cpn_s]
    simp only [nm]
    rw [nI_1]
    exact ih (i + 1) fuel (by omega) (by omega)
theorem X4_putsBack_eq (M : StT) : f_X4_putsBack M = some (setA M 0 (cp66 (M.1 2) (M.1 0))) := by
  have h := X4_putsBack_l M 66 0 200 (by omega) (by omega)
  rw [cpn_0, setA_id] at h
  exact h
theorem X4_takesBack_l (M : StT) (v : Int32) : ∀ (k i fuel : Nat), i + k = 66 → k < fuel → f_X4_takesBack_l2 fuel v (nI i) (setA M 0 (cpn (M.1 3) (M.1 0) i)) = some (v, setA M 0 (cp66 (M.1 3) (M.1 0))) := by
  intro k
  induction k with
  | zero =>
    intro i fuel hi hf
    obtain ⟨fuel, rfl⟩ : ∃ z, fuel = z + 1 := ⟨fuel - 1, by omega⟩
    have e : i = 66 := by omega
    subst e
    rw [f_X4_takesBack_l2, if_pos (show (66 : Int32) ≤ nI 66 by decide)]
    rfl
  | succ k ih =>
    intro i fuel hi hf
    obtain ⟨fuel, rfl⟩ : ∃ z, fuel = z + 1 := ⟨fuel - 1, by omega⟩
    rw [f_X4_takesBack_l2, if_neg (fun q => by have := (nI_lei (a := 66) (by omega) (by omega)).mp q; omega), cki (show i < 66 by omega) (by decide), cki (show i < 66 by omega) (by decide), cln (by omega), setA_s, setA_o _ _ (show (3 : Nat) ≠ 0 by decide), setA_tw, cpn_s]
    simp only [nm]
    rw [nI_1]
    exact ih (i + 1) fuel (by omega) (by omega)
theorem X4_takesBack_eq (M : StT) (v : Int32) : f_X4_takesBack M v = some (v, setA M 0 (cp66 (M.1 3) (M.1 0))) := by
  have h := X4_takesBack_l M v 66 0 200 (by omega) (by omega)
  rw [cpn_0, setA_id] at h
  exact h
theorem X4_image_l (M : StT) : ∀ (k i fuel : Nat), i + k = 66 → k < fuel → f_X4_image_l2 fuel (nI i) (setA M 1 (cpn (M.1 0) (M.1 1) i)) = some (1, setF (setA M 1 (cp66 (M.1 0) (M.1 1))) 0 1) := by
  intro k
  induction k with
  | zero =>
    intro i fuel hi hf
    obtain ⟨fuel, rfl⟩ : ∃ z, fuel = z + 1 := ⟨fuel - 1, by omega⟩
    have e : i = 66 := by omega
    subst e
    rw [f_X4_image_l2, if_pos (show (66 : Int32) ≤ nI 66 by decide)]
    rfl
  | succ k ih =>
    intro i fuel hi hf
    obtain ⟨fuel, rfl⟩ : ∃ z, fuel = z + 1 := ⟨fuel - 1, by omega⟩
    rw [f_X4_image_l2, if_neg (fun q => by have := (nI_lei (a := 66) (by omega) (by omega)).mp q; omega), cki (show i < 66 by omega) (by decide), cki (show i < 66 by omega) (by decide), cln (by omega), setA_s, setA_o _ _ (show (0 : Nat) ≠ 1 by decide), setA_tw, cpn_s]
    simp only [nm]
    rw [nI_1]
    exact ih (i + 1) fuel (by omega) (by omega)
theorem X4_image_eq (M : StT) : f_X4_image M = some (1, setF (setA M 1 (cp66 (M.1 0) (M.1 1))) 0 1) := by
  have h := X4_image_l M 66 0 200 (by omega) (by omega)
  rw [cpn_0, setA_id] at h
  exact h
theorem X4_undo_l (M : StT) : ∀ (k i fuel : Nat), i + k = 66 → k < fuel → f_X4_undo_l16 fuel (nI i) (setA M 0 (cpn (M.1 1) (M.1 0) i)) = some (M.1 1 0, setA M 0 (cp66 (M.1 1) (M.1 0))) := by
  intro k
  induction k with
  | zero =>
    intro i fuel hi hf
    obtain ⟨fuel, rfl⟩ : ∃ z, fuel = z + 1 := ⟨fuel - 1, by omega⟩
    have e : i = 66 := by omega
    subst e
    rw [f_X4_undo_l16, if_pos (show (66 : Int32) ≤ nI 66 by decide)]
    rw [ck0, cl0, setA_s]
    rfl
  | succ k ih =>
    intro i fuel hi hf
    obtain ⟨fuel, rfl⟩ : ∃ z, fuel = z + 1 := ⟨fuel - 1, by omega⟩
    rw [f_X4_undo_l16, if_neg (fun q => by have := (nI_lei (a := 66) (by omega) (by omega)).mp q; omega), cki (show i < 66 by omega) (by decide), cki (show i < 66 by omega) (by decide), cln (by omega), setA_s, setA_o _ _ (show (1 : Nat) ≠ 0 by decide), setA_tw, cpn_s]
    simp only [nm]
    rw [nI_1]
    exact ih (i + 1) fuel (by omega) (by omega)
theorem X4_undo_l0 (M : StT) : f_X4_undo_l16 200 0 M = some (M.1 1 0, setA M 0 (cp66 (M.1 1) (M.1 0))) := by
  have h := X4_undo_l M 66 0 200 (by omega) (by omega)
  rw [cpn_0, setA_id] at h
  exact h
/-- A is what B is, as far as a room goes -/
def E8 (B A : StT) : Prop := (∀ k, k < 9 → ∀ j, j < 8 → A.1 k j = B.1 k j) ∧ A.2.2 0 = B.2.2 0 ∧ A.2.2 1 = B.2.2 1
theorem cpk8 {α : Type} {A : Option α} : cpk 0 0 8 8 8 A = A := by
  unfold cpk
  rw [if_neg (by decide)]
theorem cl8 : Int32.toNatClampNeg 8 = 8 := cln (p := 8) (by decide)
theorem vcp {f g : Nat → Int32} {j : Nat} (h : j < 8) : va_cpy f g 0 0 8 j = f j := by
  rw [pk_cpy_in (Nat.zero_le _) (by omega)]
  congr 1
  omega
theorem X0_become_eq (A B : StT) : ∃ A2, f_X0_become (A, B) = some (A2, B) ∧ E8 B A2 := by
  unfold f_X0_become
  simp only [cpk8, nm, cl0, cl8]
  refine ⟨_, rfl, fun k hk j hj => ?_, ?_, ?_⟩
  · match k, hk with
    | 0, _ => simp only [setF, setA]; simp [vcp hj]
    | 1, _ => simp only [setF, setA]; simp [vcp hj]
    | 2, _ => simp only [setF, setA]; simp [vcp hj]
    | 3, _ => simp only [setF, setA]; simp [vcp hj]
    | 4, _ => simp only [setF, setA]; simp [vcp hj]
    | 5, _ => simp only [setF, setA]; simp [vcp hj]
    | 6, _ => simp only [setF, setA]; simp [vcp hj]
    | 7, _ => simp only [setF, setA]; simp [vcp hj]
    | 8, _ => simp only [setF, setA]; simp [vcp hj]
  · simp only [setF, setA]; simp
  · simp only [setF, setA]; simp
theorem RI.e8 {n : Nat} {B A : StT} (h : RI n B) (e : E8 B A) : RI n A := by
  obtain ⟨a1, a2, a3, a4, a5, a6, a7⟩ := h
  obtain ⟨ek, e0, -⟩ := e
  refine ⟨a1, by rw [e0]; exact a2, fun c hc => ?_, fun p hp => ?_, fun p hp hp8 => ?_, fun c hc => ?_, fun p q hp hq => ?_⟩
  · rw [ek 0 (by decide) c hc, ek 1 (by decide) c hc]; exact a3 c hc
  · rw [ek 3 (by decide) p (by omega), ek 4 (by decide) p (by omega), ek 5 (by decide) p (by omega), ek 6 (by decide) p (by omega), ek 8 (by decide) p (by omega)]; exact a4 p hp
  · rw [ek 4 (by decide) p hp8, ek 5 (by decide) p hp8, ek 6 (by decide) p hp8, ek 7 (by decide) p hp8, ek 8 (by decide) p hp8]; exact a5 p hp hp8
  · rw [ek 2 (by decide) c hc]
    refine ⟨(a6 c hc).1, fun p hp => ?_⟩
    rw [ek 8 (by decide) p (by omega)]
    exact (a6 c hc).2 p hp
  · unfold od
    rw [ek 6 (by decide) p (by omega), ek 6 (by decide) q (by omega)]
    exact a7 p q hp hq
theorem RE.e8 {n : Nat} {B A : StT} {s : Nat → Int32} (h : RE n B s) (hn : n ≤ 8) (e : E8 B A) : RE n A s := by
  obtain ⟨a1, a2, a3, a4⟩ := h
  obtain ⟨ek, -, e1⟩ := e
  refine ⟨a1, by rw [e1]; exact a2, fun c hc => ?_, fun p hp => ?_⟩
  · rw [ek 0 (by decide) c hc, ek 1 (by decide) c hc]; exact a3 c hc
  · rw [ek 3 (by decide) p (by omega), ek 4 (by decide) p (by omega), ek 5 (by decide) p (by omega), ek 6 (by decide) p (by omega), ek 7 (by decide) p (by omega), ek 8 (by decide) p (by omega)]; exact a4 p hp
/-- the row counts below 66 alone -/
theorem RE.s66 {n : Nat} {R : StT} {s s2 : Nat → Int32} (h : RE n R s) (hn : n ≤ 8) (e : ∀ j, j < 66 → s2 j = s j) : RE n R s2 := by
  obtain ⟨a1, a2, a3, a4⟩ := h
  refine ⟨by rw [e 0 (by omega)]; exact a1, by rw [e 1 (by omega)]; exact a2, fun c hc => ?_, fun p hp => ?_⟩
  · rw [e _ (by omega), e _ (by omega)]; exact a3 c hc
  · rw [e _ (by omega), e (18 + 6 * p + 1) (by omega), e (18 + 6 * p + 2) (by omega), e (18 + 6 * p + 3) (by omega), e (18 + 6 * p + 4) (by omega), e (18 + 6 * p + 5) (by omega)]; exact a4 p hp
-- the relation
def KK (G : Nat → StT) (M : StT) : Prop := (G 0).2.2 0 = M.2.2 0 ∧ ((G 0).2.2 0 = 0 ∨ ((G 0).2.2 0 = 1 ∧ ∃ m, RI m (G 3) ∧ RE m (G 3) (M.1 1)))
def TT (G : Nat → StT) (M : StT) : Prop := ∃ len, len ≤ 120 ∧ (G 4).2.2 0 = nI len ∧ M.2.2 3 = nI len ∧ ∀ j, j < len → ∃ b, b < 256 ∧ (G 4).1 0 j = nI b ∧ M.1 6 j = nI b
def SS (G : Nat → StT) (M : StT) : Prop := ∀ k, k < 4 → (G (5 + k)).2.2 0 = M.1 7 k ∧ ((G (5 + k)).2.2 0 = 0 ∨ (G (5 + k)).2.2 0 = 8 ∨ (G (5 + k)).2.2 0 = 16 ∨ (G (5 + k)).2.2 0 = 64) ∧ (∃ z, z ≤ 40 ∧ (G (5 + k)).2.2 1 = nI z ∧ M.1 8 k = nI z) ∧ ∀ j, j < 40 → (G (5 + k)).2.1 0 j = M.2.1 0 (40 * k + j)
def FF (G : Nat → StT) (M : StT) : Prop := ∀ k, k < 7 → (G 0).1 0 k = M.1 4 k
def Rel (G : Nat → StT) (M : StT) : Prop := (∃ n, RI n (G 1) ∧ RE n (G 1) (M.1 0)) ∧ KK G M ∧ TT G M ∧ SS G M ∧ FF G M
/-- what may change without harm: ahead and the row of those who sit; aside, other, taken, moved and the reader's numbers -/
def GF (G G2 : Nat → StT) : Prop := (∀ k, k ≠ 0 → k ≠ 2 → G2 k = G k) ∧ (G2 0).1 0 = (G 0).1 0 ∧ (G2 0).2 = (G 0).2
def MF (M M2 : StT) : Prop := (∀ j, j < 66 → M2.1 0 j = M.1 0 j) ∧ (∀ k, k ≠ 0 → k ≠ 2 → k ≠ 3 → k ≠ 5 → M2.1 k = M.1 k) ∧ M2.2.1 0 = M.2.1 0 ∧ M2.2.2 0 = M.2.2 0 ∧ M2.2.2 3 = M.2.2 3
theorem GF.rf (G : Nat → StT) : GF G G := ⟨fun _ _ _ => rfl, rfl, rfl⟩
theorem GF.tr {A B C : Nat → StT} (h : GF A B) (h2 : GF B C) : GF A C := ⟨fun k a b => (h2.1 k a b).trans (h.1 k a b), h2.2.1.trans h.2.1, h2.2.2.trans h.2.2⟩
theorem MF.rf (M : StT) : MF M M := ⟨fun _ _ => rfl, fun _ _ _ _ _ => rfl, rfl, rfl, rfl⟩
theorem MF.tr {A B C : StT} (h : MF A B) (h2 : MF B C) : MF A C := ⟨fun j a => (h2.1 j a).trans (h.1 j a), fun k a b c d => (h2.2.1 k a b c d).trans (h.2.1 k a b c d), h2.2.2.1.trans h.2.2.1, h2.2.2.2.1.trans h.2.2.2.1, h2.2.2.2.2.trans h.2.2.2.2⟩
theorem gset_s (G : Nat → StT) (k : Nat) (s : StT) : gset G k s k = s := by unfold gset; simp
theorem gset_o (G : Nat → StT) {k j : Nat} (s : StT) (h : j ≠ k) : gset G k s j = G j := by unfold gset; simp [h]
theorem GF.set2 (G : Nat → StT) (s : StT) : GF G (gset G 2 s) := ⟨fun _ _ h => gset_o G s h, by rw [gset_o G s (by decide)], by rw [gset_o G s (by decide)]⟩
theorem Rel.fr {G G2 : Nat → StT} {M M2 : StT} (h : Rel G M) (hg : GF G G2) (hm : MF M M2) : Rel G2 M2 := by
  obtain ⟨⟨n, i, e⟩, k, t, s, f⟩ := h
  obtain ⟨g1, g2, g3⟩ := hg
  obtain ⟨m1, m2, m3, m4, m5⟩ := hm
  refine ⟨⟨n, by rw [g1 1 (by decide) (by decide)]; exact i, ?_⟩, ?_, ?_, ?_, ?_⟩
  · rw [g1 1 (by decide) (by decide)]; exact e.s66 i.1 m1
  · obtain ⟨k1, k2⟩ := k
    unfold KK
    rw [g3, m4, g1 3 (by decide) (by decide), m2 1 (by decide) (by decide) (by decide) (by decide)]
    exact ⟨k1, k2⟩
  · unfold TT
    rw [g1 4 (by decide) (by decide), m5, m2 6 (by decide) (by decide) (by decide) (by decide)]
    exact t
  · intro k hk
    rw [g1 (5 + k) (by omega) (by omega), m2 7 (by decide) (by decide) (by decide) (by decide), m2 8 (by decide) (by decide) (by decide) (by decide), m3]
    exact s k hk
  · intro k hk
    rw [g2, m2 4 (by decide) (by decide) (by decide) (by decide)]
    exact f k hk
theorem Rel.fr1 {G G2 : Nat → StT} {M : StT} (h : Rel G M) (hg : GF G G2) : Rel G2 M := h.fr hg (MF.rf M)
/-- the room alone becomes another -/
theorem Rel.room {G : Nat → StT} {M : StT} (h : Rel G M) {n : Nat} {R : StT} {s : Nat → Int32} (i : RI n R) (e : RE n R s) : Rel (gset G 1 R) (setA M 0 s) := by
  obtain ⟨-, k, t, ss, f⟩ := h
  refine ⟨⟨n, by rw [gset_s]; exact i, by rw [gset_s, setA_s]; exact e⟩, ?_, ?_, ?_, ?_⟩
  · unfold KK
    rw [gset_o _ _ (show (0 : Nat) ≠ 1 by decide), gset_o _ _ (show (3 : Nat) ≠ 1 by decide), setA_2, setA_o _ _ (show (1 : Nat) ≠ 0 by decide)]
    exact k
  · unfold TT
    rw [gset_o _ _ (show (4 : Nat) ≠ 1 by decide), setA_2, setA_o _ _ (show (6 : Nat) ≠ 0 by decide)]
    exact t
  · intro k hk
    rw [gset_o _ _ (show 5 + k ≠ 1 by omega), setA_2, setA_o _ _ (show (7 : Nat) ≠ 0 by decide), setA_o _ _ (show (8 : Nat) ≠ 0 by decide)]
    exact ss k hk
  · intro k hk
    rw [gset_o _ _ (show (0 : Nat) ≠ 1 by decide), setA_o _ _ (show (4 : Nat) ≠ 0 by decide)]
    exact f k hk
def SimR {α : Type} (a : Option (α × (Nat → StT))) (b : Option (α × StT)) : Prop := ∃ r G2 M2, a = some (r, G2) ∧ b = some (r, M2) ∧ Rel G2 M2
/-- a finding's answer -/
def fv (k : Nat) : Int32 := -1000000001 - nI k
theorem fv_back : ∀ k, k < 7 → (-1000000001 : Int32) - fv k = nI k := by decide
theorem fnd {G : Nat → StT} {M : StT} (h : Rel G M) {k : Nat} (hk : k < 7) : ∃ G2 M2, f_X3_finding G (nI k) = some (fv k, G2) ∧ f_X4_finds M (fv k) = some (fv k, M2) ∧ Rel G2 M2 := by
  unfold f_X3_finding f_X4_finds
  rw [fv_back k hk]
  simp only [nm, cki hk (by decide : 7 < 2147483648), cln (show k < 2147483648 by omega)]
  refine ⟨_, _, rfl, rfl, ?_⟩
  obtain ⟨⟨n, i, e⟩, kk, t, s, f⟩ := h
  refine ⟨⟨n, by rw [gset_o _ _ (by decide)]; exact i, by rw [gset_o _ _ (by decide), setA_o _ _ (by decide)]; exact e⟩, ?_, ?_, ?_, ?_⟩
  · unfold KK
    rw [gset_s, setA_2, setA_2, gset_o _ _ (show (3 : Nat) ≠ 0 by decide), setA_o _ _ (show (1 : Nat) ≠ 4 by decide)]
    exact kk
  · unfold TT
    rw [gset_o _ _ (show (4 : Nat) ≠ 0 by decide), setA_2, setA_o _ _ (show (6 : Nat) ≠ 4 by decide)]
    exact t
  · intro j hj
    rw [gset_o _ _ (show 5 + j ≠ 0 by omega), setA_2, setA_o _ _ (show (7 : Nat) ≠ 4 by decide), setA_o _ _ (show (8 : Nat) ≠ 4 by decide)]
    exact s j hj
  · intro j hj
    rw [gset_s, setA_s, setA_s, upd_i, upd_i]
    by_cases z : j = k
    · rw [if_pos z, if_pos z, f k hk]
    · rw [if_neg z, if_neg z]; exact f j hj
theorem sfnd {G : Nat → StT} {M : StT} (h : Rel G M) (k : Nat) (hk : k < 7) {a b : Int32} (ha : a = nI k) (hb : b = fv k) : SimR (Option.bind (f_X3_finding G a) fun z => some (z.1, z.2)) (Option.bind (f_X4_finds M b) fun z => some (z.1, z.2)) := by
  obtain ⟨G2, M2, e1, e2, r⟩ := fnd h hk
  subst ha; subst hb
  rw [e1, e2]
  exact ⟨fv k, G2, M2, rfl, rfl, r⟩
/-- is there such a one: both ask alike -/
theorem there {G : Nat → StT} {M : StT} {n : Nat} (i : RI n (G 1)) (e : RE n (G 1) (M.1 0)) (p : Int32) : (f_X3_isThere G p = some 0 ∧ f_X4_isPerson M p = some 0) ∨ ∃ j, j < n ∧ p = nI j ∧ f_X3_isThere G p = some 1 ∧ f_X4_isPerson M p = some 1 := by
  have hn := i.1
  have e1 : f_X3_isThere G p = some (b2i (0 ≤ p ∧ p ≤ nI n - 1)) := by
    unfold f_X3_isThere
    rw [isWithin_eq, i.2.1, bds, ckb_b2i]
  have e2 : f_X4_isPerson M p = some (b2i (0 ≤ p ∧ p ≤ nI n - 1)) := by
    unfold f_X4_isPerson
    rw [ck0, cl0, e.1]
    have h : f_X4_in p.toInt64 (0 : Int64) (nI n - 1).toInt64 = some (b2i (0 ≤ p ∧ p ≤ nI n - 1)) := X4_inI p 0 (nI n - 1)
    rw [h, bds, ckb_b2i]
  have t : (nI n - 1).toInt = (n : Int) - 1 := by rw [li 1, pk_sub_toInt (by omega) (by omega)]; rfl
  by_cases c : 0 ≤ p ∧ p ≤ nI n - 1
  · rw [b2i_1 c] at e1 e2
    obtain ⟨c1, c2⟩ := c
    rw [ile] at c1 c2
    have z0 : (0 : Int32).toInt = 0 := rfl
    rw [z0] at c1
    rw [t] at c2
    refine Or.inr ⟨p.toInt.toNat, by omega, ?_, e1, e2⟩
    rw [ieq, tI (by omega)]
    omega
  · rw [b2i_0 c] at e1 e2
    exact Or.inl ⟨e1, e2⟩
theorem r07 {c : Int32} (h : 0 ≤ c ∧ c ≤ 7) : ∃ j, j < 8 ∧ c = nI j := by
  obtain ⟨j, hj, e⟩ := of_rng (n := 7) h.1 h.2 (by omega)
  exact ⟨j, by omega, e⟩
theorem chr (c : Int32) : (f_X3_isChair c = some 0 ∧ f_X4_isChair c = some 0) ∨ ∃ j, j < 8 ∧ c = nI j ∧ f_X3_isChair c = some 1 ∧ f_X4_isChair c = some 1 := by
  by_cases h : 0 ≤ c ∧ c ≤ 7
  · obtain ⟨j, hj, e⟩ := r07 h
    exact Or.inr ⟨j, hj, e, by rw [X3_isChair_eq, b2i_1 h], by rw [X4_isChair_eq, b2i_1 h]⟩
  · exact Or.inl ⟨by rw [X3_isChair_eq, b2i_0 h], by rw [X4_isChair_eq, b2i_0 h]⟩
