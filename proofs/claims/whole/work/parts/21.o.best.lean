-- best: the most over all seatings
theorem ltn_le {a b : Int32} (h : ¬ a < b) : b ≤ a := by rw [ilt] at h; rw [ile]; omega
theorem lt_le {a b : Int32} (h : a < b) : a ≤ b := by rw [ilt] at h; rw [ile]; omega
theorem le_tr {a b c : Int32} (h : a ≤ b) (h2 : b ≤ c) : a ≤ c := by rw [ile] at *; omega
theorem le_as {a b : Int32} (h : a ≤ b) (h2 : b ≤ a) : a = b := by rw [ile] at *; rw [ieq]; omega
theorem le_rf (a : Int32) : a ≤ a := by rw [ile]; omega
/-- the row with other seats -/
def rwU (n : Nat) (s u : Nat → Int32) : Nat → Int32 := fun j => if 18 ≤ j ∧ j < 18 + 6 * n ∧ (j - 18) % 6 = 5 then u ((j - 18) / 6) else s j
theorem rwU_p {n : Nat} {s u : Nat → Int32} {p : Nat} (hp : p < n) : rwU n s u (18 + 6 * p + 5) = u p := by
  unfold rwU
  rw [if_pos (by omega)]
  exact congrArg u (by omega)
theorem rwU_o {n : Nat} {s u : Nat → Int32} {j : Nat} (h : ∀ p, p < n → j ≠ 18 + 6 * p + 5) : rwU n s u j = s j := by
  unfold rwU
  rw [if_neg]
  intro q
  exact h ((j - 18) / 6) (by omega) (by omega)
theorem RE.rwU {n : Nat} {R0 R : StT} {s u : Nat → Int32} (h : RE n R0 s) (hn : n ≤ 8) (hs : Sm R0 R) (h8 : ∀ p, p < n → R.1 8 p = u p) : RE n R (rwU n s u) :=
  h.re hn hs (fun j hj => rwU_o hj) (fun p hp => by rw [rwU_p hp, h8 p hp])
def ST (n : Nat) (R0 R : StT) (u : Nat → Int32) : Prop := RI n R ∧ Sm R0 R ∧ ∀ x, x < n → R.1 8 x = u x
def VR (n : Nat) (R0 : StT) (u : Nat → Int32) (v : Int32) : Prop := ∃ R, ST n R0 R u ∧ tgS R n 0 0 = v
theorem VR.det {n : Nat} {R0 : StT} {s : Nat → Int32} (e0 : RE n R0 s) (hn : n ≤ 8) {u u2 : Nat → Int32} {v v2 : Int32} (h : VR n R0 u v) (h2 : VR n R0 u2 v2) (e : ∀ x, x < n → u2 x = u x) : v = v2 := by
  obtain ⟨R, ⟨i, sm, st⟩, hv⟩ := h
  obtain ⟨R2, ⟨i2, sm2, st2⟩, hv2⟩ := h2
  have a := X4_peaceNow_eq (M := setA R0 0 (rwU n s u)) i (by rw [setA_s]; exact e0.rwU hn sm st)
  have b := X4_peaceNow_eq (M := setA R0 0 (rwU n s u)) i2 (by rw [setA_s]; exact e0.rwU hn sm2 (fun p hp => (st2 p hp).trans (e p hp)))
  rw [a] at b
  rw [← hv, ← hv2]
  exact Option.some.inj b
def Bj (n : Nat) (D : Nat → Prop) (E : Int32 → Prop) (w u : Nat → Int32) : Prop :=
  (∀ x, x < n → ¬ D x → u x = w x) ∧ (∀ x, D x → E (u x)) ∧ (∀ x y, D x → D y → u x = u y → x = y) ∧ (∀ c, E c → ∃ x, D x ∧ u x = c)
theorem Bj.cg {n : Nat} {D D2 : Nat → Prop} {E E2 : Int32 → Prop} {w u : Nat → Int32} (hD : ∀ x, D x ↔ D2 x) (hE : ∀ c, E c ↔ E2 c) (h : Bj n D E w u) : Bj n D2 E2 w u := by
  obtain ⟨a, b, c, d⟩ := h
  refine ⟨fun x hx q => a x hx (fun z => q ((hD x).mp z)), fun x q => (hE _).mp (b x ((hD x).mpr q)), fun x y q r => c x y ((hD x).mpr q) ((hD y).mpr r), fun k q => ?_⟩
  obtain ⟨x, z, y⟩ := d k ((hE k).mpr q)
  exact ⟨x, (hD x).mp z, y⟩
theorem Bj.down {n : Nat} {D : Nat → Prop} {E : Int32 → Prop} {w w2 u : Nat → Int32} {x : Nat} {c : Int32} (h : Bj n D E w u) (hx : D x) (hc : u x = c) (w2c : w2 x = c) (w2o : ∀ y, y < n → ¬ D y → w2 y = w y) : Bj n (fun y => D y ∧ y ≠ x) (fun d => E d ∧ d ≠ c) w2 u := by
  obtain ⟨h1, h2, h3, h4⟩ := h
  refine ⟨fun y hy q => ?_, fun y q => ⟨h2 y q.1, fun z => q.2 (h3 y x q.1 hx (z.trans hc.symm))⟩, fun y z q r => h3 y z q.1 r.1, fun d q => ?_⟩
  · by_cases z : y = x
    · rw [z, hc, w2c]
    · have nd : ¬ D y := fun k => q ⟨k, z⟩
      rw [h1 y hy nd, w2o y hy nd]
  · obtain ⟨y, a, b⟩ := h4 d q.1
    exact ⟨y, ⟨a, fun z => q.2 (by rw [← b, z, hc])⟩, b⟩
theorem Bj.up {n : Nat} {D : Nat → Prop} {E : Int32 → Prop} {w w2 u : Nat → Int32} {x : Nat} {c : Int32} (h : Bj n (fun y => D y ∧ y ≠ x) (fun d => E d ∧ d ≠ c) w2 u) (hx : D x) (hxn : x < n) (hc : E c) (w2c : w2 x = c) (w2o : ∀ y, y < n → ¬ D y → w2 y = w y) : Bj n D E w u ∧ u x = c := by
  obtain ⟨h1, h2, h3, h4⟩ := h
  have ux : u x = c := (h1 x hxn (fun q => q.2 rfl)).trans w2c
  refine ⟨⟨fun y hy q => (h1 y hy (fun z => q z.1)).trans (w2o y hy q), fun y q => ?_, fun y z q r e => ?_, fun d q => ?_⟩, ux⟩
  · by_cases z : y = x
    · rw [z, ux]; exact hc
    · exact (h2 y ⟨q, z⟩).1
  · by_cases a : y = x
    · by_cases b : z = x
      · rw [a, b]
      · exact absurd (by rw [← e, a, ux]) (h2 z ⟨r, b⟩).2
    · by_cases b : z = x
      · exact absurd (by rw [e, b, ux]) (h2 y ⟨q, a⟩).2
      · exact h3 y z ⟨q, a⟩ ⟨r, b⟩ e
  · by_cases z : d = c
    · exact ⟨x, hx, by rw [ux, z]⟩
    · obtain ⟨y, a, b⟩ := h4 d ⟨q, z⟩
      exact ⟨y, a.1, b⟩
def MX (n : Nat) (R0 : StT) (S : (Nat → Int32) → Prop) (v : Int32) : Prop := (∃ u, S u ∧ VR n R0 u v) ∧ ∀ u, S u → ∃ v2, VR n R0 u v2 ∧ v2 ≤ v
def DP (P : Nat → Nat) (m k : Nat) : Nat → Prop := fun x => ∃ j, k ≤ j ∧ j < m ∧ x = P j
def EP (P : Nat → Nat) (m k : Nat) (u : Nat → Int32) : Int32 → Prop := fun c => ∃ x, DP P m k x ∧ u x = c
def swU (u : Nat → Int32) (p q : Nat) : Nat → Int32 := upd (upd u p (u q)) q (u p)
theorem swU_id (u : Nat → Int32) (p : Nat) : swU u p p = u := by
  unfold swU
  funext j
  rw [upd_i, upd_i]
  by_cases z : j = p
  · rw [if_pos z, z]
  · rw [if_neg z, if_neg z]
theorem DP_s {P : Nat → Nat} {m k : Nat} (hP : ∀ a b, a < m → b < m → P a = P b → a = b) (hk : k < m) (x : Nat) : DP P m k x ∧ x ≠ P k ↔ DP P m (k + 1) x := by
  constructor
  · rintro ⟨⟨j, h1, h2, h3⟩, h4⟩
    refine ⟨j, ?_, h2, h3⟩
    have : j ≠ k := fun z => h4 (by rw [h3, z])
    omega
  · rintro ⟨j, h1, h2, h3⟩
    refine ⟨⟨j, by omega, h2, h3⟩, fun z => ?_⟩
    have := hP j k h2 hk (h3.symm.trans z)
    omega
theorem EP_s {P : Nat → Nat} {m k i : Nat} {u : Nat → Int32} (hP : ∀ a b, a < m → b < m → P a = P b → a = b) (hu : ∀ a b, a < m → b < m → u (P a) = u (P b) → a = b) (hk : k ≤ i) (hi : i < m) (c : Int32) : EP P m k u c ∧ c ≠ u (P i) ↔ EP P m (k + 1) (swU u (P k) (P i)) c := by
  constructor
  · rintro ⟨⟨x, ⟨j, h1, h2, h3⟩, h4⟩, h5⟩
    subst h3
    have ji : j ≠ i := fun z => h5 (by rw [← h4, z])
    by_cases z : j = k
    · subst z
      exact ⟨P i, ⟨i, by omega, hi, rfl⟩, by unfold swU; rw [upd_s]; exact h4⟩
    · refine ⟨P j, ⟨j, by omega, h2, rfl⟩, ?_⟩
      unfold swU
      rw [upd_o _ _ (fun q => ji (hP j i h2 hi q)), upd_o _ _ (fun q => z (hP j k h2 (by omega) q))]
      exact h4
  · rintro ⟨x, ⟨j, h1, h2, h3⟩, h4⟩
    subst h3
    unfold swU at h4
    by_cases z : j = i
    · subst z
      rw [upd_s] at h4
      refine ⟨⟨P k, ⟨k, Nat.le_refl k, by omega, rfl⟩, h4⟩, fun q => ?_⟩
      have := hu k j (by omega) hi (h4.trans q)
      omega
    · rw [upd_o _ _ (fun q => z (hP j i h2 hi q)), upd_o _ _ (fun q => by have := hP j k h2 (by omega) q; omega)] at h4
      refine ⟨⟨P j, ⟨j, by omega, h2, rfl⟩, h4⟩, fun q => z (hu j i h2 hi (h4.trans q))⟩
