-- the reference's side of the same words
theorem RE.n {n : Nat} {R : StT} {s : Nat → Int32} (h : RE n R s) : s 0 = nI n := h.1
theorem X4_its0 {n : Nat} {R M : StT} (h : RE n R (M.1 0)) (hn : n ≤ 8) {p : Nat} (hp : p < n) : f_X4_its M (nI p) 0 = some (R.1 3 p) := by
  have := its_eq M (p := p) (w := 0) (by omega) (by omega)
  rw [li 0, this, Nat.add_zero, (h.2.2.2 p hp).1]
theorem X4_its1 {n : Nat} {R M : StT} (h : RE n R (M.1 0)) (hn : n ≤ 8) {p : Nat} (hp : p < n) : f_X4_its M (nI p) 1 = some (R.1 4 p) := by
  rw [li 1, its_eq M (p := p) (w := 1) (by omega) (by omega), (h.2.2.2 p hp).2.1]
theorem X4_its2 {n : Nat} {R M : StT} (h : RE n R (M.1 0)) (hn : n ≤ 8) {p : Nat} (hp : p < n) : f_X4_its M (nI p) 2 = some (R.1 5 p) := by
  rw [li 2, its_eq M (p := p) (w := 2) (by omega) (by omega), (h.2.2.2 p hp).2.2.1]
theorem X4_its3 {n : Nat} {R M : StT} (h : RE n R (M.1 0)) (hn : n ≤ 8) {p : Nat} (hp : p < n) : f_X4_its M (nI p) 3 = some (R.1 6 p) := by
  rw [li 3, its_eq M (p := p) (w := 3) (by omega) (by omega), (h.2.2.2 p hp).2.2.2.1]
theorem X4_its4 {n : Nat} {R M : StT} (h : RE n R (M.1 0)) (hn : n ≤ 8) {p : Nat} (hp : p < n) : f_X4_its M (nI p) 4 = some (R.1 7 p) := by
  rw [li 4, its_eq M (p := p) (w := 4) (by omega) (by omega), (h.2.2.2 p hp).2.2.2.2.1]
theorem X4_its5 {n : Nat} {R M : StT} (h : RE n R (M.1 0)) (hn : n ≤ 8) {p : Nat} (hp : p < n) : f_X4_its M (nI p) 5 = some (R.1 8 p) := by
  rw [li 5, its_eq M (p := p) (w := 5) (by omega) (by omega), (h.2.2.2 p hp).2.2.2.2.2]
theorem ck0 {α : Type} {A : Option α} : ck 0 66 A = A := cki (p := 0) (by decide) (by decide)
theorem ck1 {α : Type} {A : Option α} : ck 1 66 A = A := cki (p := 1) (by decide) (by decide)
theorem cl0 : Int32.toNatClampNeg 0 = 0 := cln (p := 0) (by decide)
theorem cl1 : Int32.toNatClampNeg 1 = 1 := cln (p := 1) (by decide)
theorem X4_hourNow_eq {n : Nat} {R M : StT} (h : RE n R (M.1 0)) : f_X4_hourNow M = some (R.2.2 1 - R.2.2 1 / 24 * 24) := by
  unfold f_X4_hourNow
  rw [ck1, cl1, h.2.1]
theorem X4_isSunny_eq {n : Nat} {R M : StT} (h : RE n R (M.1 0)) : f_X4_isSunny M = some (b2i (¬ (R.2.2 1 - R.2.2 1 / 24 * 24 < 10) ∧ ¬ (14 < R.2.2 1 - R.2.2 1 / 24 * 24))) := by
  unfold f_X4_isSunny b2i
  simp only [X4_hourNow_eq h, bds]
  by_cases h1 : R.2.2 1 - R.2.2 1 / 24 * 24 < 10
  · simp [h1]
  · by_cases h2 : 14 < R.2.2 1 - R.2.2 1 / 24 * 24
    · simp [h1, h2]
    · simp [h1, h2]
def LKg (R : StT) (p c : Nat) (g : Int32) : Int32 :=
  if R.1 3 p = 1 then (if R.1 5 p = nI c then g + R.1 4 p / 4 else g)
  else if R.1 3 p = 2 then g + 3
  else if R.1 3 p = 3 then DF R c
  else if R.1 3 p = 4 then (if R.1 5 p = nI c then g + R.1 4 p / 4 + 10 else g)
  else if R.1 3 p = 5 then (if c = 7 then DF R c + 6 else DF R c)
  else g
theorem LKg_eq (R : StT) (p c : Nat) : LKg R p c (GS R c) = LK R p c := rfl
theorem X4_likes_b49_eq {n : Nat} {R M : StT} (h : RE n R (M.1 0)) (hn : n ≤ 8) {p c : Nat} (hp : p < n) (hc : c < 8) (g : Int32) : f_X4_likes_b49 M (nI p) (nI c) (R.1 0 c) (R.1 1 c) g = some (LKg R p c g) := by
  have c7 : nI c = 7 ↔ c = 7 := by rw [li 7, nI_inj (by omega) (by omega)]
  have b99 : ∀ z o : Int32, f_X4_likes_b99 M (nI p) (nI c) g (DF R c) z o = some (if R.1 3 p = 1 then o else if R.1 3 p = 2 then g + 3 else if R.1 3 p = 3 then DF R c else if R.1 3 p = 4 then (if z = 0 then o else o + 10) else if R.1 3 p = 5 then (if c = 7 then DF R c + 6 else DF R c) else g) := by
    intro z o
    unfold f_X4_likes_b99
    rw [X4_its0 h hn hp, bds]
    simp only [c7]
    by_cases k1 : R.1 3 p = 1
    · simp [k1]
    by_cases k2 : R.1 3 p = 2
    · simp [k2]
    by_cases k3 : R.1 3 p = 3
    · simp [k3]
    by_cases k4 : R.1 3 p = 4
    · by_cases hz : z = 0 <;> simp [k4, hz]
    by_cases k5 : R.1 3 p = 5
    · by_cases h7 : c = 7 <;> simp [k5, h7]
    simp [k1, k2, k3, k4, k5]
  unfold f_X4_likes_b49
  simp only [nm, X4_its2 h hn hp, bds]
  unfold f_X4_likes_b76 LKg
  have t1 : ¬ (1 : Int32) = 0 := by decide
  by_cases hcl : R.1 5 p = nI c
  · rw [if_pos hcl, if_neg t1, X4_its1 h hn hp, bds]
    refine (b99 1 _).trans ?_
    simp only [hcl, if_true, t1, if_false]
  · rw [if_neg hcl, if_pos rfl]
    refine (b99 0 _).trans ?_
    simp only [hcl, if_true, if_false]
theorem X4_likes_eq {n : Nat} {R M : StT} (h : RE n R (M.1 0)) (hn : n ≤ 8) {p c : Nat} (hp : p < n) (hc : c < 8) : f_X4_likes M (nI p) (nI c) = some (LK R p c) := by
  have e0 : f_X4_chairAt (nI c) 0 = some (nI (2 + 2 * c)) := by rw [li 0, chairAt_eq, Nat.add_zero]
  have e1 : f_X4_chairAt (nI c) 1 = some (nI (2 + 2 * c + 1)) := by rw [li 1, chairAt_eq]
  unfold f_X4_likes
  simp only [e0, e1, bds, nm, cki (show 2 + 2 * c < 66 by omega) (by decide : 66 < 2147483648), cki (show 2 + 2 * c + 1 < 66 by omega) (by decide : 66 < 2147483648), cln (show 2 + 2 * c < 2147483648 by omega), cln (show 2 + 2 * c + 1 < 2147483648 by omega), (h.2.2.1 c hc).1, (h.2.2.1 c hc).2, X4_isSunny_eq h, f_X4_likes_b45, X4_likes_b49_eq h hn hp hc]
  rw [← LKg_eq]
  unfold GS b2i
  by_cases hs : (¬ (R.2.2 1 - R.2.2 1 / 24 * 24 < 10) ∧ ¬ (14 < R.2.2 1 - R.2.2 1 / 24 * 24))
  · rw [if_pos hs, if_neg (by decide)]
    by_cases hv : R.1 0 c ≤ 10
    · rw [if_pos hv, if_neg (fun q => q.2.2 hv)]
    · rw [if_neg hv, if_pos ⟨hs.1, hs.2, hv⟩]
  · have hs2 : ¬ (¬ (R.2.2 1 - R.2.2 1 / 24 * 24 < 10) ∧ ¬ (14 < R.2.2 1 - R.2.2 1 / 24 * 24) ∧ ¬ (R.1 0 c ≤ 10)) := fun q => hs ⟨q.1, q.2.1⟩
    rw [if_neg hs, if_neg hs2, if_pos rfl]
theorem X4_isQuarrel_eq {n : Nat} {R M : StT} (h : RE n R (M.1 0)) (hn : n ≤ 8) {p q : Nat} (hp : p < n) : f_X4_isQuarrel M (nI p) (nI q) = some (b2i (((R.1 6 p >>> (nI q &&& 31)) &&& 1) = 1)) := by
  unfold f_X4_isQuarrel b2i
  rw [X4_its3 h hn hp, bds]
  by_cases h : ((R.1 6 p >>> (nI q &&& 31)) &&& 1) = 1 <;> simp [h]
theorem X4_minds_eq {n : Nat} {R M : StT} (h : RE n R (M.1 0)) (hn : n ≤ 8) {p q : Nat} (hp : p < n) (hq : q < n) : f_X4_minds M (nI p) (nI q) = some (MD R p q) := by
  unfold f_X4_minds
  simp only [X4_isQuarrel_eq h hn hp, bds, f_X4_minds_b15, X4_its0 h hn hp, X4_its0 h hn hq]
  unfold MD b2i
  by_cases ho : ((R.1 6 p >>> (nI q &&& 31)) &&& 1) = 1
  · by_cases k2 : R.1 3 p = 2
    · simp [ho, k2]
    by_cases k3 : R.1 3 p = 3
    · simp [ho, k3]
    by_cases k4 : R.1 3 p = 4
    · simp [ho, k4]
    by_cases k5 : R.1 3 p = 5
    · by_cases kq : R.1 3 q = 2 <;> simp [ho, k5, kq]
    simp [ho, k2, k3, k4, k5]
  · by_cases k2 : R.1 3 p = 2
    · simp [ho, k2]
    by_cases k3 : R.1 3 p = 3
    · simp [ho, k3]
    by_cases k4 : R.1 3 p = 4
    · simp [ho, k4]
    by_cases k5 : R.1 3 p = 5
    · by_cases kq : R.1 3 q = 2 <;> simp [ho, k5, kq]
    simp [ho, k2, k3, k4, k5]
theorem X4_givesUp_eq {n : Nat} {R M : StT} (h : RE n R (M.1 0)) (hn : n ≤ 8) {p : Nat} (hp : p < n) : f_X4_givesUp M (nI p) = some (GU R p) := by
  unfold f_X4_givesUp GU
  simp only [X4_its0 h hn hp, X4_its1 h hn hp, bds]
  by_cases k1 : R.1 3 p = 1
  · simp [k1]
  by_cases k3 : R.1 3 p = 3
  · simp [k3]
  by_cases k4 : R.1 3 p = 4
  · simp [k4]
  by_cases k5 : R.1 3 p = 5
  · simp [k5]
  simp [k1, k3, k4, k5]
/-- whoIn: who sits there -/
theorem X4_whoIn_l {n : Nat} {R M : StT} (hI : RI n R) (h : RE n R (M.1 0)) {c : Nat} (hc : c < 8) : ∀ (k i fuel : Nat), i + k = n → k < fuel → (∀ p, p < i → R.1 8 p ≠ nI c) → f_X4_whoIn_l2 M fuel (nI c) (nI i) = some (R.1 2 c) := by
  have hn := hI.1
  intro k
  induction k with
  | zero =>
    intro i fuel hi hf hno
    obtain ⟨fuel, rfl⟩ : ∃ m, fuel = m + 1 := ⟨fuel - 1, by omega⟩
    have e : i = n := by omega
    subst e
    rw [f_X4_whoIn_l2, ck0, cl0, h.1, if_pos ((nI_lei (by omega) (by omega)).mpr (Nat.le_refl i))]
    rcases hI.sit hc with hs | ⟨p, hp, hs⟩
    · rw [hs]
    · exact absurd (((hI.2.2.2.2.2.1 c hc).2 p hp).mp hs) (hno p hp)
  | succ k ih =>
    intro i fuel hi hf hno
    obtain ⟨fuel, rfl⟩ : ∃ m, fuel = m + 1 := ⟨fuel - 1, by omega⟩
    rw [f_X4_whoIn_l2, ck0, cl0, h.1, if_neg (fun q => by have := (nI_lei (by omega) (by omega)).mp q; omega), X4_its5 h hn (show i < n by omega), bds]
    by_cases hs : R.1 8 i = nI c
    · rw [if_pos hs, ((hI.2.2.2.2.2.1 c hc).2 i (by omega)).mpr hs]
    · rw [if_neg hs]
      show f_X4_whoIn_l2 M fuel (nI c) (nI i + 1) = _
      rw [nI_1]
      refine ih (i + 1) fuel (by omega) (by omega) (fun p hp => ?_)
      rcases Nat.lt_or_ge p i with q | q
      · exact hno p q
      · have e : p = i := by omega
        subst e
        exact hs
theorem X4_whoIn_eq {n : Nat} {R M : StT} (hI : RI n R) (h : RE n R (M.1 0)) {c : Nat} (hc : c < 8) : f_X4_whoIn M (nI c) = some (R.1 2 c) := by
  unfold f_X4_whoIn
  have := hI.1
  exact X4_whoIn_l hI h hc n 0 200 (by omega) (by omega) (fun p hp => absurd hp (Nat.not_lt_zero p))
