-- sits: the sum over all, by those who are beside
def nbi (R : StT) (p d i : Nat) : Int32 := if R.1 2 d < 0 then 0 else if R.1 2 d = nI p then 0 else if (R.1 2 d).toNatClampNeg < i then MD R p (R.1 2 d).toNatClampNeg else 0
def tot (R : StT) (p c i : Nat) : Int32 := (if c = 0 then 0 else nbi R p (c - 1) i) + (if 7 ≤ c then 0 else nbi R p (c + 1) i)
def tm (R : StT) (p d i : Nat) : Int32 := if R.1 2 d = nI i ∧ i ≠ p then MD R p i else 0
theorem zadd (x : Int32) : 0 + x = x := Int32.zero_add x
theorem nbi_0 (R : StT) (p d : Nat) : nbi R p d 0 = 0 := by
  unfold nbi
  by_cases h1 : R.1 2 d < 0
  · rw [if_pos h1]
  · by_cases h2 : R.1 2 d = nI p
    · rw [if_neg h1, if_pos h2]
    · rw [if_neg h1, if_neg h2, if_neg (Nat.not_lt_zero _)]
theorem nbi_s {n : Nat} {R : StT} (hI : RI n R) {p d i : Nat} (hp : p < 8) (hd : d < 8) (hi : i < n) : nbi R p d (i + 1) = nbi R p d i + tm R p d i := by
  have hn := hI.1
  unfold nbi tm
  rcases hI.sit hd with hs | ⟨q, hq, hs⟩
  · rw [hs, if_pos m1_neg, if_pos m1_neg, if_neg (fun c => nI_m1 (p := i) (by omega) c.1.symm), add0]
  · rw [hs, if_neg (nI_n0 (by omega)), if_neg (nI_n0 (by omega)), cln (by omega)]
    by_cases hqp : q = p
    · subst hqp
      rw [if_pos rfl, if_pos rfl, if_neg (fun c => c.2 ((nI_inj (by omega) (by omega)).mp c.1).symm), add0]
    · have hne : ¬ nI q = nI p := fun e => hqp ((nI_inj (by omega) (by omega)).mp e)
      rw [if_neg hne, if_neg hne]
      rcases Nat.lt_trichotomy q i with hl | hl | hl
      · rw [if_pos (by omega), if_pos hl, if_neg (fun c => by have := (nI_inj (by omega) (by omega)).mp c.1; omega), add0]
      · subst hl
        rw [if_pos (by omega), if_neg (by omega), if_pos ⟨rfl, hqp⟩, zadd]
      · rw [if_neg (by omega), if_neg (by omega), if_neg (fun c => by have := (nI_inj (by omega) (by omega)).mp c.1; omega), add0]
theorem nbi_n {n : Nat} {R : StT} (hI : RI n R) {p d : Nat} (hd : d < 8) : nbi R p d n = nbr R p d := by
  have hn := hI.1
  unfold nbi nbr
  rcases hI.sit hd with hs | ⟨q, hq, hs⟩
  · rw [hs, if_pos m1_neg, if_pos m1_neg]
  · rw [hs, cln (by omega), if_pos hq]
theorem tot_0 (R : StT) (p c : Nat) : tot R p c 0 = 0 := by
  unfold tot
  rw [nbi_0, nbi_0]
  by_cases h : c = 0 <;> by_cases h2 : 7 ≤ c <;> simp [h, h2]
theorem tot_n {n : Nat} {R : StT} (hI : RI n R) {p c : Nat} (hc : c < 8) : LK R p c + tot R p c n = HW R p c := by
  unfold tot HW
  rw [← Int32.add_assoc]
  by_cases h : c = 0
  · by_cases h2 : 7 ≤ c
    · omega
    · rw [if_pos h, if_neg h2, if_pos h, if_neg h2, nbi_n hI (by omega)]
  · by_cases h2 : 7 ≤ c
    · rw [if_neg h, if_pos h2, if_neg h, if_pos h2, nbi_n hI (by omega)]
    · rw [if_neg h, if_neg h2, if_neg h, if_neg h2, nbi_n hI (by omega), nbi_n hI (by omega)]
theorem add4 (a b c d : Int32) : a + b + (c + d) = a + c + (b + d) := by
  rw [Int32.add_assoc, Int32.add_assoc, ← Int32.add_assoc b, Int32.add_comm b c, Int32.add_assoc]
theorem tot_s {n : Nat} {R : StT} (hI : RI n R) {p c i : Nat} (hp : p < 8) (hc : c < 8) (hi : i < n) : tot R p c (i + 1) = tot R p c i + ((if c = 0 then 0 else tm R p (c - 1) i) + (if 7 ≤ c then 0 else tm R p (c + 1) i)) := by
  unfold tot
  by_cases h : c = 0
  · by_cases h2 : 7 ≤ c
    · omega
    · rw [if_pos h, if_neg h2, if_pos h, if_neg h2, if_pos h, if_neg h2, nbi_s hI hp (by omega) hi, zadd, zadd, zadd]
  · by_cases h2 : 7 ≤ c
    · rw [if_neg h, if_pos h2, if_neg h, if_pos h2, if_neg h, if_pos h2, nbi_s hI hp (by omega) hi, add0, add0, add0]
    · rw [if_neg h, if_neg h2, if_neg h, if_neg h2, if_neg h, if_neg h2, nbi_s hI hp (by omega) hi, nbi_s hI hp (by omega) hi]
      exact add4 _ _ _ _
theorem off1 {d c : Nat} (hd : d < 8) (hc : c < 8) : nI d - nI c = 1 ↔ d = c + 1 := by
  rw [ieq, pk_sub_toInt (by omega) (by omega)]
  show (d : Int) - (c : Int) = 1 ↔ d = c + 1
  omega
theorem offm {d c : Nat} (hd : d < 8) (hc : c < 8) : nI d - nI c = -1 ↔ d + 1 = c := by
  rw [ieq, pk_sub_toInt (by omega) (by omega)]
  show (d : Int) - (c : Int) = -1 ↔ d + 1 = c
  omega
/-- what one turn of the loop adds -/
theorem tm_eq {n : Nat} {R : StT} (hI : RI n R) {p c i : Nat} (hp : p < 8) (hc : c < 8) (hi : i < n) :
    (if i = p then 0 else if R.1 8 i = -1 then 0 else if R.1 8 i - nI c = 1 ∨ R.1 8 i - nI c = -1 then MD R p i else 0) = (if c = 0 then 0 else tm R p (c - 1) i) + (if 7 ≤ c then 0 else tm R p (c + 1) i) := by
  have hn := hI.1
  have sw : ∀ d, d < 8 → (R.1 2 d = nI i ↔ R.1 8 i = nI d) := fun d hd => (hI.2.2.2.2.2.1 d hd).2 i hi
  by_cases hip : i = p
  · have z : ∀ d, tm R p d i = 0 := fun d => by unfold tm; rw [if_neg (fun c => c.2 hip)]
    rw [if_pos hip, z, z]
    by_cases h : c = 0 <;> by_cases h2 : 7 ≤ c <;> simp [h, h2]
  · rw [if_neg hip]
    have tz : ∀ d, d < 8 → R.1 8 i ≠ nI d → tm R p d i = 0 := fun d hd hne => by unfold tm; rw [if_neg (fun c => hne ((sw d hd).mp c.1))]
    have to : ∀ d, d < 8 → R.1 8 i = nI d → tm R p d i = MD R p i := fun d hd he => by unfold tm; rw [if_pos ⟨(sw d hd).mpr he, hip⟩]
    rcases (hI.2.2.2.1 i hi).2.2.2.2 with hs | ⟨d, hd, hs⟩
    · rw [if_pos hs]
      have z : ∀ d, d < 8 → tm R p d i = 0 := fun d hd => tz d hd (by rw [hs]; exact fun e => nI_m1 (by omega) e.symm)
      by_cases h : c = 0
      · by_cases h2 : 7 ≤ c
        · omega
        · rw [if_pos h, if_neg h2, z (c + 1) (by omega), add0]
      · by_cases h2 : 7 ≤ c
        · rw [if_neg h, if_pos h2, z (c - 1) (by omega), add0]
        · rw [if_neg h, if_neg h2, z (c - 1) (by omega), z (c + 1) (by omega), add0]
    · have hm : ¬ R.1 8 i = -1 := by rw [hs]; exact nI_m1 (by omega)
      have dif : ∀ e, e < 8 → e ≠ d → R.1 8 i ≠ nI e := fun e he hne q => hne ((nI_inj (by omega) (by omega)).mp (hs.symm.trans q)).symm
      rw [if_neg hm, hs]
      by_cases e1 : d = c + 1
      · subst e1
        rw [if_pos (Or.inl ((off1 hd hc).mpr rfl)), if_neg (show ¬ 7 ≤ c by omega), to (c + 1) hd hs]
        by_cases h : c = 0
        · rw [if_pos h, zadd]
        · rw [if_neg h, tz (c - 1) (by omega) (dif _ (by omega) (by omega)), zadd]
      · by_cases e2 : d + 1 = c
        · have e3 : c - 1 = d := by omega
          rw [if_pos (Or.inr ((offm hd hc).mpr e2)), if_neg (show ¬ c = 0 by omega), e3, to d hd hs]
          by_cases h : 7 ≤ c
          · rw [if_pos h, add0]
          · rw [if_neg h, tz (c + 1) (by omega) (dif _ (by omega) (by omega)), add0]
        · rw [if_neg (fun q => q.elim (fun z => e1 ((off1 hd hc).mp z)) (fun z => e2 ((offm hd hc).mp z)))]
          by_cases h : c = 0
          · by_cases h2 : 7 ≤ c
            · omega
            · rw [if_pos h, if_neg h2, tz (c + 1) (by omega) (dif _ (by omega) (by omega)), add0]
          · by_cases h2 : 7 ≤ c
            · rw [if_neg h, if_pos h2, tz (c - 1) (by omega) (dif _ (by omega) (by omega)), add0]
            · rw [if_neg h, if_neg h2, tz (c - 1) (by omega) (dif _ (by omega) (by omega)), tz (c + 1) (by omega) (dif _ (by omega) (by omega)), add0]
theorem X4_sits_l {n : Nat} {R M : StT} (hI : RI n R) (h : RE n R (M.1 0)) {p c : Nat} (hp : p < n) (hc : c < 8) : ∀ (k i fuel : Nat) (x : Int32), i + k = n → k < fuel → f_X4_sits_l10 M fuel (nI p) (nI c) (x + tot R p c i) (nI i) = some (x + tot R p c n) := by
  have hn := hI.1
  intro k
  induction k with
  | zero =>
    intro i fuel x hi hf
    obtain ⟨fuel, rfl⟩ : ∃ m, fuel = m + 1 := ⟨fuel - 1, by omega⟩
    have e : i = n := by omega
    subst e
    rw [f_X4_sits_l10, ck0, cl0, h.1, if_pos ((nI_lei (by omega) (by omega)).mpr (Nat.le_refl i))]
  | succ k ih =>
    intro i fuel x hi hf
    obtain ⟨fuel, rfl⟩ : ∃ m, fuel = m + 1 := ⟨fuel - 1, by omega⟩
    have hin : i < n := by omega
    have go : ∀ t : Int32, t = (if c = 0 then 0 else tm R p (c - 1) i) + (if 7 ≤ c then 0 else tm R p (c + 1) i) → f_X4_sits_b85 (f_X4_sits_l10 M fuel) M (nI p) (nI c) (nI i) t (x + tot R p c i) = some (x + tot R p c n) := by
      intro t ht
      show f_X4_sits_l10 M fuel (nI p) (nI c) (x + tot R p c i + t) (nI i + 1) = _
      rw [nI_1, ht, Int32.add_assoc, ← tot_s hI (by omega) hc hin]
      exact ih (i + 1) fuel x (by omega) (by omega)
    have tm9 := tm_eq hI (p := p) (by omega) hc hin
    rw [f_X4_sits_l10, ck0, cl0, h.1, if_neg (fun q => by have := (nI_lei (by omega) (by omega)).mp q; omega), X4_its5 h hn hin, bds]
    simp only [nm, bds]
    have b84 : ∀ a b, f_X4_sits_b84 (f_X4_sits_l10 M fuel) M (nI p) (nI c) a b = f_X4_sits_b85 (f_X4_sits_l10 M fuel) M (nI p) (nI c) a 0 b := fun _ _ => rfl
    have b60 : ∀ z, f_X4_sits_b60 (f_X4_sits_l10 M fuel) M (nI p) (nI c) (x + tot R p c i) (nI i) z = if i = p then f_X4_sits_b85 (f_X4_sits_l10 M fuel) M (nI p) (nI c) (nI i) 0 (x + tot R p c i) else if z = 0 then f_X4_sits_b85 (f_X4_sits_l10 M fuel) M (nI p) (nI c) (nI i) 0 (x + tot R p c i) else f_X4_sits_b85 (f_X4_sits_l10 M fuel) M (nI p) (nI c) (nI i) (MD R p i) (x + tot R p c i) := by
      intro z
      unfold f_X4_sits_b60
      rw [X4_minds_eq h hn hp hin, bds, b84]
      by_cases e : i = p
      · rw [if_pos e, if_pos (by rw [e])]
      · rw [if_neg e, if_neg (fun q => e ((nI_inj (by omega) (by omega)).mp q))]
    simp only [f_X4_sits_b59, f_X4_sits_b55, b60]
    by_cases e : i = p
    · rw [if_pos e] at tm9
      simp only [if_pos e, ite_self]
      exact go 0 tm9
    · rw [if_neg e] at tm9
      simp only [if_neg e]
      by_cases hs : R.1 8 i = -1
      · rw [if_pos hs] at tm9
        rw [if_pos hs, if_pos trivial]
        exact go 0 tm9
      · rw [if_neg hs] at tm9
        rw [if_neg hs]
        by_cases h1 : R.1 8 i - nI c = 1
        · rw [if_pos (Or.inl h1)] at tm9
          rw [if_pos h1, if_neg (by decide)]
          exact go _ tm9
        · rw [if_neg h1]
          by_cases h2 : R.1 8 i - nI c = -1
          · rw [if_pos (Or.inr h2)] at tm9
            rw [if_pos h2, if_neg (by decide)]
            exact go _ tm9
          · rw [if_neg (fun q => q.elim h1 h2)] at tm9
            rw [if_neg h2, if_pos trivial]
            exact go 0 tm9
theorem X4_sits_eq {n : Nat} {R M : StT} (hI : RI n R) (h : RE n R (M.1 0)) {p c : Nat} (hp : p < n) (hc : c < 8) : f_X4_sits M (nI p) (nI c) = some (HW R p c) := by
  have hn := hI.1
  unfold f_X4_sits
  rw [X4_likes_eq h hn hp hc, bds]
  have := X4_sits_l hI h hp hc n 0 200 (LK R p c) (by omega) (by omega)
  rw [tot_0, add0, tot_n hI hc] at this
  exact this
