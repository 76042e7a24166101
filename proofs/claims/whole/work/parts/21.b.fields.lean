-- single numbers of a room
theorem RE.w {n : Nat} {R : StT} {s : Nat → Int32} (h : RE n R s) {p w : Nat} (hp : p < n) (hw : w < 6) : s (18 + 6 * p + w) = R.1 (3 + w) p := by
  obtain ⟨b0, b1, b2, b3, b4, b5⟩ := h.2.2.2 p hp
  match w, hw with
  | 0, _ => exact b0
  | 1, _ => exact b1
  | 2, _ => exact b2
  | 3, _ => exact b3
  | 4, _ => exact b4
  | 5, _ => exact b5
theorem RE.c {n : Nat} {R : StT} {s : Nat → Int32} (h : RE n R s) {c w : Nat} (hc : c < 8) (hw : w < 2) : s (2 + 2 * c + w) = R.1 w c := by
  match w, hw with
  | 0, _ => exact (h.2.2.1 c hc).1
  | 1, _ => exact (h.2.2.1 c hc).2
theorem RE.mk {n : Nat} {R : StT} {s : Nat → Int32} (h0 : s 0 = nI n) (h1 : s 1 = R.2.2 1) (hc : ∀ c w, c < 8 → w < 2 → s (2 + 2 * c + w) = R.1 w c) (hp : ∀ p w, p < n → w < 6 → s (18 + 6 * p + w) = R.1 (3 + w) p) : RE n R s :=
  ⟨h0, h1, fun c h => ⟨hc c 0 h (by decide), hc c 1 h (by decide)⟩, fun p h => ⟨hp p 0 h (by decide), hp p 1 h (by decide), hp p 2 h (by decide), hp p 3 h (by decide), hp p 4 h (by decide), hp p 5 h (by decide)⟩⟩
theorem setA_i (R : StT) (k j : Nat) (f : Nat → Int32) : (setA R k f).1 j = if j = k then f else R.1 j := rfl
theorem RE.chair {n : Nat} {R : StT} {s : Nat → Int32} (h : RE n R s) (hn : n ≤ 8) {c w : Nat} (hc : c < 8) (hw : w < 2) (v : Int32) : RE n (setA R w (upd (R.1 w) c v)) (upd s (2 + 2 * c + w) v) := by
  refine RE.mk (by rw [upd_o _ _ (by omega)]; exact h.1) (by rw [upd_o _ _ (by omega)]; exact h.2.1) (fun d x hd hx => ?_) (fun p x hp hx => ?_)
  · rw [upd_i, setA_i]
    by_cases e : x = w
    · subst e
      rw [if_pos rfl, upd_i]
      by_cases e2 : d = c
      · rw [if_pos (by rw [e2]), if_pos e2]
      · rw [if_neg (by omega), if_neg e2]; exact h.c hd hx
    · rw [if_neg (by omega), if_neg e]; exact h.c hd hx
  · rw [upd_o _ _ (by omega), setA_o _ _ (by omega)]; exact h.w hp hx
theorem RE.pers {n : Nat} {R : StT} {s : Nat → Int32} (h : RE n R s) (hn : n ≤ 8) {p w : Nat} (hp : p < n) (hw : w < 6) (v : Int32) : RE n (setA R (3 + w) (upd (R.1 (3 + w)) p v)) (upd s (18 + 6 * p + w) v) := by
  refine RE.mk (by rw [upd_o _ _ (by omega)]; exact h.1) (by rw [upd_o _ _ (by omega)]; exact h.2.1) (fun d x hd hx => ?_) (fun q x hq hx => ?_)
  · rw [upd_o _ _ (by omega), setA_o _ _ (by omega)]; exact h.c hd hx
  · rw [upd_i, setA_i]
    by_cases e : x = w
    · subst e
      rw [if_pos rfl, upd_i]
      by_cases e2 : q = p
      · rw [if_pos (by rw [e2]), if_pos e2]
      · rw [if_neg (by omega), if_neg e2]; exact h.w hq hx
    · rw [if_neg (by omega), if_neg (by omega)]; exact h.w hq hx
theorem RI.view {n : Nat} {R : StT} (h : RI n R) {c v : Nat} (hv : v ≤ 20) : RI n (setA R 0 (upd (R.1 0) c (nI v))) := by
  obtain ⟨a1, a2, a3, a4, a5, a6, a7⟩ := h
  refine ⟨a1, a2, fun d hd => ⟨?_, ?_⟩, a4, a5, a6, a7⟩
  · rw [setA_s, upd_i]
    by_cases e : d = c
    · rw [if_pos e]; exact ⟨v, hv, rfl⟩
    · rw [if_neg e]; exact (a3 d hd).1
  · rw [setA_o _ _ (by decide)]; exact (a3 d hd).2
theorem RI.draught {n : Nat} {R : StT} (h : RI n R) {c v : Nat} (hv : v ≤ 9) : RI n (setA R 1 (upd (R.1 1) c (nI v))) := by
  obtain ⟨a1, a2, a3, a4, a5, a6, a7⟩ := h
  refine ⟨a1, a2, fun d hd => ⟨?_, ?_⟩, a4, a5, a6, a7⟩
  · rw [setA_o _ _ (by decide)]; exact (a3 d hd).1
  · rw [setA_s, upd_i]
    by_cases e : d = c
    · rw [if_pos e]; exact ⟨v, hv, rfl⟩
    · rw [if_neg e]; exact (a3 d hd).2
theorem RI.kind {n : Nat} {R : StT} (h : RI n R) {p v : Nat} (hv : v < 6) : RI n (setA R 3 (upd (R.1 3) p (nI v))) := by
  obtain ⟨a1, a2, a3, a4, a5, a6, a7⟩ := h
  refine ⟨a1, a2, a3, fun q hq => ⟨?_, (a4 q hq).2⟩, a5, a6, a7⟩
  rw [setA_s, upd_i]
  by_cases e : q = p
  · rw [if_pos e]; exact ⟨v, hv, rfl⟩
  · rw [if_neg e]; exact (a4 q hq).1
theorem RI.age {n : Nat} {R : StT} (h : RI n R) {p v : Nat} (hp : p < n) (hv : v ≤ 99) : RI n (setA R 4 (upd (R.1 4) p (nI v))) := by
  obtain ⟨a1, a2, a3, a4, a5, a6, a7⟩ := h
  refine ⟨a1, a2, a3, fun q hq => ⟨(a4 q hq).1, ?_, (a4 q hq).2.2⟩, fun q hq hq8 => ⟨?_, (a5 q hq hq8).2⟩, a6, a7⟩
  · rw [setA_s, upd_i]
    by_cases e : q = p
    · rw [if_pos e]; exact ⟨v, hv, rfl⟩
    · rw [if_neg e]; exact (a4 q hq).2.1
  · rw [setA_s, upd_o _ _ (by omega)]; exact (a5 q hq hq8).1
theorem RI.claim {n : Nat} {R : StT} (h : RI n R) {p : Nat} (hp : p < n) {x : Int32} (hx : x = -1 ∨ ∃ c, c < 8 ∧ x = nI c) : RI n (setA R 5 (upd (R.1 5) p x)) := by
  obtain ⟨a1, a2, a3, a4, a5, a6, a7⟩ := h
  refine ⟨a1, a2, a3, fun q hq => ⟨(a4 q hq).1, (a4 q hq).2.1, ?_, (a4 q hq).2.2.2⟩, fun q hq hq8 => ⟨(a5 q hq hq8).1, ?_, (a5 q hq hq8).2.2⟩, a6, a7⟩
  · rw [setA_s, upd_i]
    by_cases e : q = p
    · rw [if_pos e]; exact hx
    · rw [if_neg e]; exact (a4 q hq).2.2.1
  · rw [setA_s, upd_o _ _ (by omega)]; exact (a5 q hq hq8).2.1
theorem RI.gap {n : Nat} {R : StT} (h : RI n R) {p : Nat} (hp : p < n) (x : Int32) : RI n (setA R 7 (upd (R.1 7) p x)) := by
  refine h.tick (fun k hk => setA_o _ _ hk) rfl (fun q hq hq8 => ?_)
  rw [setA_s, upd_o _ _ (by omega)]
  exact (h.2.2.2.2.1 q hq hq8).2.2.2.1
-- quarrels: bits
theorem bt8 : ∀ m, m < 256 → ∀ q, q < 8 → ((((nI m >>> (nI q &&& 31)) &&& 1) = 1) ↔ m.testBit q = true) := by decide +kernel
def clr (m q : Nat) : Nat := if m.testBit q = true then m - 2 ^ q else m
theorem bor8 : ∀ m, m < 256 → ∀ q, q < 8 → nI m ||| ((1 : Int32) <<< (nI q &&& 31)) = nI (m ||| 2 ^ q) ∧ m ||| 2 ^ q < 256 := by decide +kernel
theorem bcl8 : ∀ m, m < 256 → ∀ q, q < 8 → nI m &&& (((1 : Int32) <<< (nI q &&& 31)) ^^^ -1) = nI (clr m q) ∧ clr m q < 256 := by decide +kernel
theorem bor_t : ∀ m, m < 256 → ∀ q, q < 8 → ∀ r, r < 8 → ((m ||| 2 ^ q).testBit r = true ↔ m.testBit r = true ∨ r = q) := by decide +kernel
theorem bcl_t : ∀ m, m < 256 → ∀ q, q < 8 → ∀ r, r < 8 → ((clr m q).testBit r = true ↔ m.testBit r = true ∧ r ≠ q) := by decide +kernel
theorem RI.q8 {n : Nat} {R : StT} (h : RI n R) {p : Nat} (hp : p < 8) : ∃ m, m < 256 ∧ R.1 6 p = nI m := by
  by_cases hn : p < n
  · exact (h.2.2.2.1 p hn).2.2.2.1
  · exact ⟨0, by decide, (h.2.2.2.2.1 p (by omega) hp).2.2.1⟩
theorem od_t {R : StT} {p q m : Nat} (e : R.1 6 p = nI m) (hm : m < 256) (hq : q < 8) : od R p q ↔ m.testBit q = true := by
  unfold od
  rw [e]
  exact bt8 m hm q hq
def qOn (x : Int32) (q : Nat) : Int32 := x ||| ((1 : Int32) <<< (nI q &&& 31))
def qOff (x : Int32) (q : Nat) : Int32 := x &&& (((1 : Int32) <<< (nI q &&& 31)) ^^^ -1)
/-- two quarrel, or don't -/
def poS (R : StT) (p q : Nat) (b : Bool) : StT :=
  if b = true then setA (setA R 6 (upd (R.1 6) p (qOn (R.1 6 p) q))) 6 (upd (upd (R.1 6) p (qOn (R.1 6 p) q)) q (qOn (R.1 6 q) p))
  else setA (setA R 6 (upd (R.1 6) p (qOff (R.1 6 p) q))) 6 (upd (upd (R.1 6) p (qOff (R.1 6 p) q)) q (qOff (R.1 6 q) p))
theorem poS_eq (R : StT) {p q : Nat} (b : Bool) : poS R p q b = setA R 6 (upd (upd (R.1 6) p (if b = true then qOn (R.1 6 p) q else qOff (R.1 6 p) q)) q (if b = true then qOn (R.1 6 q) p else qOff (R.1 6 q) p)) := by
  unfold poS
  by_cases h : b = true
  · rw [if_pos h, if_pos h, if_pos h, setA_tw]
  · rw [if_neg h, if_neg h, if_neg h, setA_tw]
theorem X0_po_eq (R : StT) {p q : Nat} (hp : p < 8) (hq : q < 8) (hne : p ≠ q) (b : Bool) : f_X0_putAtOdds R (nI p) (nI q) (if b = true then 1 else 0) = some (poS R p q b) := by
  unfold f_X0_putAtOdds poS qOn qOff
  simp only [nm, cki hp (by decide : 8 < 2147483648), cki hq (by decide : 8 < 2147483648), cln (show p < 2147483648 by omega), cln (show q < 2147483648 by omega), setA_s, upd_o _ _ (show q ≠ p by omega)]
  by_cases h : b = true
  · rw [if_pos h, if_neg i1n, if_pos h]
  · rw [if_neg h, if_pos rfl, if_neg h]
theorem od_i (R : StT) (p q : Nat) : od R p q ↔ ((R.1 6 p >>> (nI q &&& 31)) &&& 1) = 1 := Iff.rfl
theorem qOn_t {x : Int32} {m q r : Nat} (e : x = nI m) (hm : m < 256) (hq : q < 8) (hr : r < 8) : (((qOn x q >>> (nI r &&& 31)) &&& 1) = 1) ↔ m.testBit r = true ∨ r = q := by
  unfold qOn
  rw [e, (bor8 m hm q hq).1, bt8 _ (bor8 m hm q hq).2 r hr]
  exact bor_t m hm q hq r hr
theorem qOff_t {x : Int32} {m q r : Nat} (e : x = nI m) (hm : m < 256) (hq : q < 8) (hr : r < 8) : (((qOff x q >>> (nI r &&& 31)) &&& 1) = 1) ↔ m.testBit r = true ∧ r ≠ q := by
  unfold qOff
  rw [e, (bcl8 m hm q hq).1, bt8 _ (bcl8 m hm q hq).2 r hr]
  exact bcl_t m hm q hq r hr
theorem po_od {n : Nat} {R : StT} (h : RI n R) {p q : Nat} (hp : p < 8) (hq : q < 8) (hne : p ≠ q) (b : Bool) {u v : Nat} (hu : u < 8) (hv : v < 8) : od (poS R p q b) u v ↔ if (u = p ∧ v = q) ∨ (u = q ∧ v = p) then b = true else od R u v := by
  rw [poS_eq, od_i, setA_s, upd_i, upd_i]
  obtain ⟨mp, hmp, emp⟩ := h.q8 hp
  obtain ⟨mq, hmq, emq⟩ := h.q8 hq
  by_cases e1 : u = q
  · rw [if_pos e1]
    subst e1
    have ne : ¬ (u = p ∧ v = u) := fun z => hne z.1.symm
    cases b with
    | true =>
      rw [if_pos rfl, qOn_t emq hmq hp hv]
      by_cases e2 : v = p
      · rw [if_pos (Or.inr ⟨rfl, e2⟩)]; exact ⟨fun _ => rfl, fun _ => Or.inr e2⟩
      · rw [if_neg (fun z => z.elim ne (fun z => e2 z.2)), od_t emq hmq hv]; exact ⟨fun z => z.elim id (fun z => absurd z e2), Or.inl⟩
    | false =>
      rw [if_neg (by decide), qOff_t emq hmq hp hv]
      by_cases e2 : v = p
      · rw [if_pos (Or.inr ⟨rfl, e2⟩)]; exact ⟨fun z => absurd e2 z.2, fun z => by cases z⟩
      · rw [if_neg (fun z => z.elim ne (fun z => e2 z.2)), od_t emq hmq hv]; exact ⟨fun z => z.1, fun z => ⟨z, e2⟩⟩
  · rw [if_neg e1]
    by_cases e3 : u = p
    · rw [if_pos e3]
      subst e3
      have ne : ¬ (u = q ∧ v = u) := fun z => hne z.1
      cases b with
      | true =>
        rw [if_pos rfl, qOn_t emp hmp hq hv]
        by_cases e2 : v = q
        · rw [if_pos (Or.inl ⟨rfl, e2⟩)]; exact ⟨fun _ => rfl, fun _ => Or.inr e2⟩
        · rw [if_neg (fun z => z.elim (fun z => e2 z.2) ne), od_t emp hmp hv]; exact ⟨fun z => z.elim id (fun z => absurd z e2), Or.inl⟩
      | false =>
        rw [if_neg (by decide), qOff_t emp hmp hq hv]
        by_cases e2 : v = q
        · rw [if_pos (Or.inl ⟨rfl, e2⟩)]; exact ⟨fun z => absurd e2 z.2, fun z => by cases z⟩
        · rw [if_neg (fun z => z.elim (fun z => e2 z.2) ne), od_t emp hmp hv]; exact ⟨fun z => z.1, fun z => ⟨z, e2⟩⟩
    · rw [if_neg e3, if_neg (fun z => z.elim (fun z => e3 z.1) (fun z => e1 z.1)), od_i]
theorem RI.po {n : Nat} {R : StT} (h : RI n R) {p q : Nat} (hp : p < n) (hq : q < n) (hne : p ≠ q) (b : Bool) : RI n (poS R p q b) := by
  have hn := h.1
  have sym := fun (u v : Nat) (hu : u < 8) (hv : v < 8) => (po_od h (show p < 8 by omega) (show q < 8 by omega) hne b hu hv)
  have small : ∀ (x : Int32) (r : Nat), r < 8 → (∃ m, m < 256 ∧ x = nI m) → ∃ m, m < 256 ∧ (if b = true then qOn x r else qOff x r) = nI m := by
    intro x r hr ⟨m, hm, e⟩
    by_cases z : b = true
    · rw [if_pos z]; unfold qOn; rw [e]; exact ⟨_, (bor8 m hm r hr).2, (bor8 m hm r hr).1⟩
    · rw [if_neg z]; unfold qOff; rw [e]; exact ⟨_, (bcl8 m hm r hr).2, (bcl8 m hm r hr).1⟩
  obtain ⟨a1, a2, a3, a4, a5, a6, a7⟩ := id h
  refine ⟨a1, by rw [poS_eq]; exact a2, by rw [poS_eq]; exact a3, fun r hr => ?_, fun r hr hr8 => ?_, by rw [poS_eq]; exact a6, fun u v hu hv => ?_⟩
  · rw [poS_eq]
    refine ⟨(a4 r hr).1, (a4 r hr).2.1, (a4 r hr).2.2.1, ?_, (a4 r hr).2.2.2.2⟩
    rw [setA_s, upd_i, upd_i]
    by_cases e1 : r = q
    · rw [if_pos e1]; exact small _ p (by omega) (h.q8 (by omega))
    · rw [if_neg e1]
      by_cases e2 : r = p
      · rw [if_pos e2]; exact small _ q (by omega) (h.q8 (by omega))
      · rw [if_neg e2]; exact (a4 r hr).2.2.2.1
  · rw [poS_eq]
    refine ⟨(a5 r hr hr8).1, (a5 r hr hr8).2.1, ?_, (a5 r hr hr8).2.2.2⟩
    rw [setA_s, upd_o _ _ (by omega), upd_o _ _ (by omega)]
    exact (a5 r hr hr8).2.2.1
  · rw [sym u v hu hv, sym v u hv hu]
    by_cases c : (u = p ∧ v = q) ∨ (u = q ∧ v = p)
    · rw [if_pos c, if_pos (c.elim (fun z => Or.inr ⟨z.2, z.1⟩) (fun z => Or.inl ⟨z.2, z.1⟩))]
    · rw [if_neg c, if_neg (fun z => c (z.elim (fun z => Or.inr ⟨z.2, z.1⟩) (fun z => Or.inl ⟨z.2, z.1⟩)))]
      exact a7 u v hu hv
theorem X4_po_eq {n : Nat} {R M : StT} (h : RE n R (M.1 0)) (hn : n ≤ 8) {p q : Nat} (hp : p < n) (hq : q < n) (hne : p ≠ q) (b : Bool) : ∃ s, f_X4_quarrels M (nI p) (nI q) (if b = true then 1 else 0) = some (setA M 0 s) ∧ RE n (poS R p q b) s := by
  have e1 : f_X4_spotOf (nI p) 3 = some (nI (18 + 6 * p + 3)) := by rw [li 3, spotOf_eq]
  have e2 : f_X4_spotOf (nI q) 3 = some (nI (18 + 6 * q + 3)) := by rw [li 3, spotOf_eq]
  unfold f_X4_quarrels f_X4_quarrels_b51
  simp only [e1, e2, bds, nm, cki (show 18 + 6 * p + 3 < 66 by omega) (by decide : 66 < 2147483648), cki (show 18 + 6 * q + 3 < 66 by omega) (by decide : 66 < 2147483648), cln (show 18 + 6 * p + 3 < 2147483648 by omega), cln (show 18 + 6 * q + 3 < 2147483648 by omega), setA_s, upd_o _ _ (show 18 + 6 * q + 3 ≠ 18 + 6 * p + 3 by omega), setA_tw]
  rw [h.w (w := 3) hp (by decide), h.w (w := 3) hq (by decide)]
  have r1 := fun v : Int32 => RE.pers h hn (w := 3) hp (by decide) v
  have key : ∀ x y : Int32, RE n (setA R 6 (upd (upd (R.1 6) p x) q y)) (upd (upd (M.1 0) (18 + 6 * p + 3) x) (18 + 6 * q + 3) y) := by
    intro x y
    have r2 := RE.pers (r1 x) hn (w := 3) hq (by decide) y
    rw [setA_s, setA_tw] at r2
    exact r2
  by_cases z : b = true
  · rw [if_pos z, if_neg i1n, if_neg i1n]
    refine ⟨_, rfl, ?_⟩
    rw [poS_eq, if_pos z, if_pos z]
    exact key _ _
  · rw [if_neg z, if_pos rfl, if_pos rfl]
    refine ⟨_, rfl, ?_⟩
    rw [poS_eq, if_neg z, if_neg z]
    exact key _ _
