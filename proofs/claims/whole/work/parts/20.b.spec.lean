-- the room, as both sides tell it
/-- bit q of p's quarrels -/
def od (R : StT) (p q : Nat) : Prop := ((R.1 6 p >>> (nI q &&& 31)) &&& 1) = 1
/-- what the class' room keeps: n people -/
def RI (n : Nat) (R : StT) : Prop :=
  n ≤ 8 ∧ R.2.2 0 = nI n ∧
  (∀ c, c < 8 → (∃ v, v ≤ 20 ∧ R.1 0 c = nI v) ∧ (∃ d, d ≤ 9 ∧ R.1 1 c = nI d)) ∧
  (∀ p, p < n → (∃ k, k < 6 ∧ R.1 3 p = nI k) ∧ (∃ a, a ≤ 99 ∧ R.1 4 p = nI a) ∧ (R.1 5 p = -1 ∨ ∃ c, c < 8 ∧ R.1 5 p = nI c) ∧ (∃ q, q < 256 ∧ R.1 6 p = nI q) ∧ (R.1 8 p = -1 ∨ ∃ c, c < 8 ∧ R.1 8 p = nI c)) ∧
  (∀ p, n ≤ p → p < 8 → R.1 4 p = 0 ∧ R.1 5 p = -1 ∧ R.1 6 p = 0 ∧ R.1 7 p = 0 ∧ R.1 8 p = -1) ∧
  (∀ c, c < 8 → (R.1 2 c = -1 ∨ ∃ p, p < n ∧ R.1 2 c = nI p) ∧ ∀ p, p < n → (R.1 2 c = nI p ↔ R.1 8 p = nI c)) ∧
  (∀ p q, p < 8 → q < 8 → (od R p q ↔ od R q p))
/-- the reference's row tells the same room -/
def RE (n : Nat) (R : StT) (s : Nat → Int32) : Prop :=
  s 0 = nI n ∧ s 1 = R.2.2 1 ∧ (∀ c, c < 8 → s (2 + 2 * c) = R.1 0 c ∧ s (2 + 2 * c + 1) = R.1 1 c) ∧
  ∀ p, p < n → s (18 + 6 * p) = R.1 3 p ∧ s (18 + 6 * p + 1) = R.1 4 p ∧ s (18 + 6 * p + 2) = R.1 5 p ∧ s (18 + 6 * p + 3) = R.1 6 p ∧ s (18 + 6 * p + 4) = R.1 7 p ∧ s (18 + 6 * p + 5) = R.1 8 p
def sun (R : StT) : Prop := ¬ (R.2.2 1 - R.2.2 1 / 24 * 24 < 10) ∧ ¬ (14 < R.2.2 1 - R.2.2 1 / 24 * 24)
/-- how a guest likes it -/
def GS (R : StT) (c : Nat) : Int32 := if ¬ (R.2.2 1 - R.2.2 1 / 24 * 24 < 10) ∧ ¬ (14 < R.2.2 1 - R.2.2 1 / 24 * 24) ∧ ¬ (R.1 0 c ≤ 10) then R.1 0 c - R.1 1 c - 4 else R.1 0 c - R.1 1 c
def DF (R : StT) (c : Nat) : Int32 := R.1 0 c / 2 - 2 * R.1 1 c
def LK (R : StT) (p c : Nat) : Int32 :=
  if R.1 3 p = 1 then (if R.1 5 p = nI c then GS R c + R.1 4 p / 4 else GS R c)
  else if R.1 3 p = 2 then GS R c + 3
  else if R.1 3 p = 3 then DF R c
  else if R.1 3 p = 4 then (if R.1 5 p = nI c then GS R c + R.1 4 p / 4 + 10 else GS R c)
  else if R.1 3 p = 5 then (if c = 7 then DF R c + 6 else DF R c)
  else GS R c
def MD (R : StT) (p q : Nat) : Int32 :=
  let b : Int32 := if ((R.1 6 p >>> (nI q &&& 31)) &&& 1) = 1 then -6 else 1
  if R.1 3 p = 2 then 2 * b else if R.1 3 p = 3 then 0 else if R.1 3 p = 4 then b - 2 else if R.1 3 p = 5 then (if R.1 3 q = 2 then -1 else 0) else b
def GU (R : StT) (p : Nat) : Int32 :=
  if R.1 3 p = 1 then 8 + R.1 4 p / 10 else if R.1 3 p = 3 then 4 else if R.1 3 p = 4 then 99 else if R.1 3 p = 5 then 4 else 8
/-- what who sits in chair c adds, for p -/
def nbr (R : StT) (p c : Nat) : Int32 := if R.1 2 c < 0 then 0 else if R.1 2 c = nI p then 0 else MD R p (R.1 2 c).toNatClampNeg
def HW (R : StT) (p c : Nat) : Int32 := LK R p c + (if c = 0 then 0 else nbr R p (c - 1)) + (if 7 ≤ c then 0 else nbr R p (c + 1))
theorem sub4 (x : Int32) : x + (-4) = x - 4 := by
  rw [Int32.sub_eq_add_neg]
theorem add0 (x : Int32) : x + 0 = x := Int32.add_zero x
theorem X0_hasSun_eq (R : StT) : f_X0_hasSun R = some (b2i (¬ (R.2.2 1 - R.2.2 1 / 24 * 24 < 10) ∧ ¬ (14 < R.2.2 1 - R.2.2 1 / 24 * 24))) := by
  unfold f_X0_hasSun nm b2i
  by_cases h1 : R.2.2 1 - R.2.2 1 / 24 * 24 < 10
  · simp [h1]
  · by_cases h2 : 14 < R.2.2 1 - R.2.2 1 / 24 * 24
    · simp [h1, h2]
    · simp [h1, h2]
theorem X0_likes_eq (R : StT) {p c : Nat} (hp : p < 8) (hc : c < 8) : f_X0_likes R (nI p) (nI c) = some (LK R p c) := by
  have c7 : nI c = 7 ↔ c = 7 := by rw [li 7, nI_inj (by omega) (by omega)]
  unfold f_X0_likes
  simp only [nm, cki hp (by decide : 8 < 2147483648), cki hc (by decide : 8 < 2147483648), cln (show p < 2147483648 by omega), cln (show c < 2147483648 by omega), X0_hasSun_eq, bds,
    f_X0_likes_b17, f_X0_likes_b94, f_X0_likes_b102, f_X0_likes_b122, c7, sub4, add0]
  unfold LK GS DF
  by_cases k3 : R.1 3 p = 3
  · simp [k3]
  by_cases k5 : R.1 3 p = 5
  · by_cases h7 : c = 7 <;> simp [k5, h7]
  by_cases hv : R.1 0 c ≤ 10
  · by_cases k1 : R.1 3 p = 1
    · by_cases hcl : R.1 5 p = nI c <;> simp [hv, k1, hcl]
    by_cases k2 : R.1 3 p = 2
    · simp [hv, k2]
    by_cases k4 : R.1 3 p = 4
    · by_cases hcl : R.1 5 p = nI c <;> simp [hv, k4, hcl]
    simp [k1, k2, k3, k4, k5, hv]
  · by_cases hs : (¬ (R.2.2 1 - R.2.2 1 / 24 * 24 < 10) ∧ ¬ (14 < R.2.2 1 - R.2.2 1 / 24 * 24))
    · rw [b2i_1 hs]
      by_cases k1 : R.1 3 p = 1
      · by_cases hcl : R.1 5 p = nI c <;> simp [hv, k1, hcl, hs]
      by_cases k2 : R.1 3 p = 2
      · simp [hv, k2, hs]
      by_cases k4 : R.1 3 p = 4
      · by_cases hcl : R.1 5 p = nI c <;> simp [hv, k4, hcl, hs]
      simp [k1, k2, k3, k4, k5, hv, hs]
    · rw [b2i_0 hs]
      have hs2 : ¬ (¬ (R.2.2 1 - R.2.2 1 / 24 * 24 < 10) ∧ ¬ (14 < R.2.2 1 - R.2.2 1 / 24 * 24) ∧ ¬ (R.1 0 c ≤ 10)) := fun q => hs ⟨q.1, q.2.1⟩
      rw [if_neg hs2]
      by_cases k1 : R.1 3 p = 1
      · by_cases hcl : R.1 5 p = nI c <;> simp [hv, k1, hcl]
      by_cases k2 : R.1 3 p = 2
      · simp [hv, k2]
      by_cases k4 : R.1 3 p = 4
      · by_cases hcl : R.1 5 p = nI c <;> simp [hv, k4, hcl]
      simp [k1, k2, k3, k4, k5, hv]
theorem isOfKind2 : ∀ k, k < 6 → f_X3_isOfKind (nI k) 2 = some (b2i (nI k = 2)) := by
  intro k hk
  match k, hk with
  | 0, _ => rfl
  | 1, _ => rfl
  | 2, _ => rfl
  | 3, _ => rfl
  | 4, _ => rfl
  | 5, _ => rfl
theorem X0_odds_eq (R : StT) {p q : Nat} (hp : p < 8) : f_X0_areAtOdds R (nI p) (nI q) = some (b2i (((R.1 6 p >>> (nI q &&& 31)) &&& 1) = 1)) := by
  unfold f_X0_areAtOdds b2i
  rw [cki hp (by decide), cln (by omega)]
  by_cases h : ((R.1 6 p >>> (nI q &&& 31)) &&& 1) = 1 <;> simp [h]
theorem X0_minds_eq (R : StT) {p q : Nat} (hp : p < 8) (hq : q < 8) {k : Nat} (hk : k < 6) (ek : R.1 3 q = nI k) : f_X0_minds R (nI p) (nI q) = some (MD R p q) := by
  unfold f_X0_minds
  rw [X0_odds_eq R hp, bds]
  simp only [f_X0_minds_b15, cki hp (by decide : 8 < 2147483648), cki hq (by decide : 8 < 2147483648), cln (show p < 2147483648 by omega), cln (show q < 2147483648 by omega)]
  have hz : ∀ A B : Option Int32, (Option.bind (f_X3_isOfKind (R.1 3 q) 2) fun z5 => if z5 = 0 then A else B) = if R.1 3 q = 2 then B else A := by
    intro A B
    rw [ek, isOfKind2 k hk, bds]
    unfold b2i
    by_cases h : nI k = 2 <;> simp [h]
  simp only [hz]
  unfold MD b2i
  by_cases ho : ((R.1 6 p >>> (nI q &&& 31)) &&& 1) = 1
  · by_cases k2 : R.1 3 p = 2
    · simp [ho, k2]
    by_cases k3 : R.1 3 p = 3
    · simp [ho, k3]
    by_cases k4 : R.1 3 p = 4
    · simp [ho, k4]
    by_cases k5 : R.1 3 p = 5
    · by_cases kq : R.1 3 q = 2 <;> simp [ho, k5, kq]
    simp [ho, k2, k3, k4, k5]
  · by_cases k2 : R.1 3 p = 2
    · simp [ho, k2]
    by_cases k3 : R.1 3 p = 3
    · simp [ho, k3]
    by_cases k4 : R.1 3 p = 4
    · simp [ho, k4]
    by_cases k5 : R.1 3 p = 5
    · by_cases kq : R.1 3 q = 2 <;> simp [ho, k5, kq]
    simp [ho, k2, k3, k4, k5]
theorem X0_givesUp_eq (R : StT) {p : Nat} (hp : p < 8) : f_X0_givesUp R (nI p) = some (GU R p) := by
  unfold f_X0_givesUp GU
  simp only [cki hp (by decide : 8 < 2147483648), cln (show p < 2147483648 by omega)]
  by_cases k1 : R.1 3 p = 1
  · simp [k1]
  by_cases k3 : R.1 3 p = 3
  · simp [k3]
  by_cases k4 : R.1 3 p = 4
  · simp [k4]
  by_cases k5 : R.1 3 p = 5
  · simp [k5]
  simp [k1, k3, k4, k5]
/-- who sits somewhere is a number below n, or nobody -/
theorem RI.sit {n : Nat} {R : StT} (h : RI n R) {c : Nat} (hc : c < 8) : R.1 2 c = -1 ∨ ∃ p, p < n ∧ R.1 2 c = nI p := (h.2.2.2.2.2.1 c hc).1
theorem m1_neg : (-1 : Int32) < 0 := by decide
theorem nbr_none {R : StT} {p c : Nat} (h : R.1 2 c = -1) : nbr R p c = 0 := by
  unfold nbr
  rw [h, if_pos m1_neg]
theorem nbr_self {R : StT} {p c : Nat} (hp : p < 8) (h : R.1 2 c = nI p) : nbr R p c = 0 := by
  unfold nbr
  rw [h, if_neg (nI_n0 (by omega)), if_pos rfl]
theorem nbr_some {R : StT} {p q c : Nat} (hp : p < 8) (hq : q < 8) (h : R.1 2 c = nI q) (hne : q ≠ p) : nbr R p c = MD R p q := by
  unfold nbr
  rw [h, if_neg (nI_n0 (by omega)), if_neg (fun e => hne ((nI_inj (by omega) (by omega)).mp e)), cln (by omega)]
theorem X0_howWell_b50_eq {n : Nat} {R : StT} (h : RI n R) {p c : Nat} (hp : p < 8) (hc : c < 8) (x : Int32) : f_X0_howWell_b50 R (nI p) (nI c) x = some (x + (if 7 ≤ c then 0 else nbr R p (c + 1))) := by
  have h8 := h.1
  unfold f_X0_howWell_b50
  by_cases h7 : 7 ≤ c
  · have e : (7 : Int32) ≤ nI c := (nI_lei (a := 7) (by omega) (by omega)).mpr h7
    rw [if_pos e, if_pos h7, add0]
  · have e : ¬ (7 : Int32) ≤ nI c := fun q => h7 ((nI_lei (a := 7) (by omega) (by omega)).mp q)
    rw [if_neg e, if_neg h7]
    simp only [nI_1, cki (show c + 1 < 8 by omega) (by decide : 8 < 2147483648), cln (show c + 1 < 2147483648 by omega)]
    rcases h.sit (c := c + 1) (by omega) with hs | ⟨q, hq, hs⟩
    · rw [hs, if_pos m1_neg, nbr_none hs, add0]
    · rw [hs, if_neg (nI_n0 (by omega))]
      by_cases hqp : q = p
      · subst hqp
        rw [if_pos rfl, nbr_self hp hs, add0]
      · rw [if_neg (fun e => hqp ((nI_inj (by omega) (by omega)).mp e)), nbr_some hp (by omega) hs hqp]
        obtain ⟨k, hk, ek⟩ := (h.2.2.2.1 q hq).1
        rw [X0_minds_eq R hp (by omega) hk ek, bds]
        rfl
theorem X0_howWell_eq {n : Nat} {R : StT} (h : RI n R) {p c : Nat} (hp : p < 8) (hc : c < 8) : f_X0_howWell R (nI p) (nI c) = some (HW R p c) := by
  have h8 := h.1
  unfold f_X0_howWell HW
  rw [X0_likes_eq R hp hc, bds]
  by_cases h0 : c = 0
  · subst h0
    have e : nI 0 ≤ (0 : Int32) := (nI_lei (b := 0) (by omega) (by omega)).mpr (Nat.le_refl 0)
    rw [if_pos e, X0_howWell_b50_eq h hp hc, if_pos rfl, add0]
  · have e : ¬ nI c ≤ (0 : Int32) := fun q => h0 (Nat.le_zero.mp ((nI_lei (b := 0) (by omega) (by omega)).mp q))
    have es : nI c - (1 : Int32) = nI (c - 1) := by rw [li 1]; exact pk_sub (by omega)
    rw [if_neg e, if_neg h0]
    simp only [es, cki (show c - 1 < 8 by omega) (by decide : 8 < 2147483648), cln (show c - 1 < 2147483648 by omega), X0_howWell_b50_eq h hp hc]
    rcases h.sit (c := c - 1) (by omega) with hs | ⟨q, hq, hs⟩
    · rw [hs, if_pos m1_neg, nbr_none hs, add0]
    · rw [hs, if_neg (nI_n0 (by omega))]
      by_cases hqp : q = p
      · subst hqp
        rw [if_pos rfl, nbr_self hp hs, add0]
      · rw [if_neg (fun e => hqp ((nI_inj (by omega) (by omega)).mp e)), nbr_some hp (by omega) hs hqp]
        obtain ⟨k, hk, ek⟩ := (h.2.2.2.1 q hq).1
        rw [X0_minds_eq R hp (by omega) hk ek, bds]
        rfl
