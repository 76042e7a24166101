theorem flL_0 (f : Nat → Int64) (v : Int64) : flL f 0 v = f := by
  funext j; simp [flL]
theorem flL_s (f : Nat → Int64) (i : Nat) (v : Int64) : vp_updL (flL f i v) i v = flL f (i + 1) v := by
  funext j
  simp only [vp_updL, flL]
  by_cases h : j = i
  · subst h; simp
  · by_cases h2 : j < i
    · simp [h, h2, Nat.lt_succ_of_lt h2]
    · have h3 : ¬ j < i + 1 := by omega
      simp [h, h2, h3]
theorem flI_0 (f : Nat → Int32) (v : Int32) : flI f 0 v = f := by
  funext j; simp [flI]
theorem flI_s (f : Nat → Int32) (i : Nat) (v : Int32) : upd (flI f i v) i v = flI f (i + 1) v := by
  funext j
  simp only [upd, flI]
  by_cases h : j = i
  · subst h; simp
  · by_cases h2 : j < i
    · simp [h, h2, Nat.lt_succ_of_lt h2]
    · have h3 : ¬ j < i + 1 := by omega
      simp [h, h2, h3]
abbrev al_ws (g : GT) (a n : Nat) (f : Nat → Int64) : va_W := [(a, .inl (g.2.2.1, n, .inr (.inl f)))]
abbrev ai_ws (g : GT) (a n : Nat) (f : Nat → Int32) : va_W := [(a, .inl (g.2.1, n, .inl f))]
theorem ck_in {α : Type} {i : Int32} {n : Nat} {A : Option α} (h : vp_in i n) : ck i n A = A := if_neg h
set_option maxHeartbeats 4000000 in
set_option maxRecDepth 100000 in
theorem c_filll {g : GT} {l : Launch} {a n : Nat} {f : Nat → Int64} {v : Int64} (hn : n < 2 ^ 31) : Ct g l yJ7_fill_d0a16 (wd yJ7_fill_d0a16 cJ7_fill_d0a16 5 none) (rmh 1) [.ref a, .long v] (al_ws g a n f) (al_ws g a n (flL f n v)) none := by
  refine Ct.of (lv := [(0, .ref a), (1, .long v)]) (by decide) (Nat.le_of_ble_eq_true rfl) rfl (fun K hl fx hf => ?_)
  have L : ∀ (k i : Nat), i + k = n → WA g K 5 0 0 6 [(4, .int (nI n)), (3, .int (nI i)), (0, .ref a), (1, .long v)] [] (al_ws g a n (flL f i v)) := by
    intro k
    induction k with
    | zero =>
      intro i hi
      have e : i = n := by omega
      subst e
      refine wa_iload_n fx 1 dJ7_fill_d0a16_6 rfl ?_
      refine wa_iload fx 0 dJ7_fill_d0a16_7 rfl ?_
      refine wa_icmp_ge (ρ := Nat) (A := 0) (B := 1) (r := 0) fx 22 dJ7_fill_d0a16_9 (by decide) (if_pos (nI_le (Nat.le_refl i) hn)) (fun _ => ?_) (fun h => absurd h (by decide))
      exact fn_v (al_ws g a i) fx hf rfl dJ7_fill_d0a16_22
    | succ k ih =>
      intro i hi
      have hlt : i < n := by omega
      refine wa_iload_n fx 1 dJ7_fill_d0a16_6 rfl ?_
      refine wa_iload fx 0 dJ7_fill_d0a16_7 rfl ?_
      refine wa_icmp_ge (ρ := Nat) (A := 0) (B := 1) (r := 1) fx 22 dJ7_fill_d0a16_9 (by decide) (if_neg (nI_ge hlt hn)) (fun h => absurd h (by decide)) (fun _ => ?_)
      refine wa_aload_n fx 2 dJ7_fill_d0a16_12 rfl ?_
      refine wa_iload_n fx 1 dJ7_fill_d0a16_13 rfl ?_
      refine wa_lload_n fx 3 dJ7_fill_d0a16_14 rfl ?_
      refine wa_last (ρ := Nat → Int64) (al_ws g a n) (s2 := flL f (i + 1) v) (kk := fun s => some s) (r := flL f (i + 1) v) fx 0 rfl dJ7_fill_d0a16_15 (by rw [ck_in (vp_in_nI hlt hn)]; rfl) ?_ (fun y h => ?_)
      · show [_] = [_]
        rw [nI_clamp (Nat.lt_trans hlt hn), flL_s]
      · cases h
        refine wa_iinc (ρ := Int32) (r := nI (i + 1)) (kk := fun x => x) fx 1 (fun y => [(3, .int y), (4, .int (nI n)), (0, .ref a), (1, .long v)]) dJ7_fill_d0a16_16 rfl (by rfl) (by decide) (fun _ => rfl) (nI_1 i) (fun y h => ?_)
        have h : y = nI (i + 1) := h
        subst h
        refine wa_goto fx 6 dJ7_fill_d0a16_19 (by decide) ?_
        refine wa_sub [1, 0, 2, 3] rfl ?_
        exact ih (i + 1) (by omega)
  refine wa_iconst fx (0 : Int32) dJ7_fill_d0a16_0 (by decide) ?_
  refine wa_istore_n fx [(3, .int 0), (0, .ref a), (1, .long v)] dJ7_fill_d0a16_1 rfl (by decide) rfl ?_
  refine wa_aload_n fx 1 dJ7_fill_d0a16_2 rfl ?_
  refine wa_alen fx 0 1 rfl rfl (nI n) rfl dJ7_fill_d0a16_3 ?_
  refine wa_istore fx [(4, .int (nI n)), (3, .int 0), (0, .ref a), (1, .long v)] dJ7_fill_d0a16_4 (by decide) rfl ?_
  have h0 := L n 0 (by omega)
  rw [flL_0] at h0
  exact h0
set_option maxHeartbeats 4000000 in
set_option maxRecDepth 100000 in
theorem c_filli {g : GT} {l : Launch} {a n : Nat} {f : Nat → Int32} {v : Int32} (hn : n < 2 ^ 31) : Ct g l yJ7_fill_53178 (wd yJ7_fill_53178 cJ7_fill_53178 4 none) (rmh 1) [.ref a, .int v] (ai_ws g a n f) (ai_ws g a n (flI f n v)) none := by
  refine Ct.of (lv := [(0, .ref a), (1, .int v)]) (by decide) (Nat.le_of_ble_eq_true rfl) rfl (fun K hl fx hf => ?_)
  have L : ∀ (k i : Nat), i + k = n → WA g K 4 0 0 5 [(3, .int (nI n)), (2, .int (nI i)), (0, .ref a), (1, .int v)] [] (ai_ws g a n (flI f i v)) := by
    intro k
    induction k with
    | zero =>
      intro i hi
      have e : i = n := by omega
      subst e
      refine wa_iload_n fx 1 dJ7_fill_53178_5 rfl ?_
      refine wa_iload_n fx 0 dJ7_fill_53178_6 rfl ?_
      refine wa_icmp_ge (ρ := Nat) (A := 0) (B := 1) (r := 0) fx 20 dJ7_fill_53178_7 (by decide) (if_pos (nI_le (Nat.le_refl i) hn)) (fun _ => ?_) (fun h => absurd h (by decide))
      exact fn_v (ai_ws g a i) fx hf rfl dJ7_fill_53178_20
    | succ k ih =>
      intro i hi
      have hlt : i < n := by omega
      refine wa_iload_n fx 1 dJ7_fill_53178_5 rfl ?_
      refine wa_iload_n fx 0 dJ7_fill_53178_6 rfl ?_
      refine wa_icmp_ge (ρ := Nat) (A := 0) (B := 1) (r := 1) fx 20 dJ7_fill_53178_7 (by decide) (if_neg (nI_ge hlt hn)) (fun h => absurd h (by decide)) (fun _ => ?_)
      refine wa_aload_n fx 2 dJ7_fill_53178_10 rfl ?_
      refine wa_iload_n fx 1 dJ7_fill_53178_11 rfl ?_
      refine wa_iload_n fx 3 dJ7_fill_53178_12 rfl ?_
      refine wa_iast (ρ := Nat → Int32) (ai_ws g a n) (s2 := flI f (i + 1) v) (kk := fun s => some s) (r := flI f (i + 1) v) fx 0 rfl dJ7_fill_53178_13 (by rw [ck_in (vp_in_nI hlt hn)]; rfl) ?_ (fun y h => ?_)
      · show [_] = [_]
        rw [nI_clamp (Nat.lt_trans hlt hn), flI_s]
      · cases h
        refine wa_iinc (ρ := Int32) (r := nI (i + 1)) (kk := fun x => x) fx 1 (fun y => [(2, .int y), (3, .int (nI n)), (0, .ref a), (1, .int v)]) dJ7_fill_53178_14 rfl (by rfl) (by decide) (fun _ => rfl) (nI_1 i) (fun y h => ?_)
        have h : y = nI (i + 1) := h
        subst h
        refine wa_goto fx 5 dJ7_fill_53178_17 (by decide) ?_
        refine wa_sub [1, 0, 2, 3] rfl ?_
        exact ih (i + 1) (by omega)
  refine wa_iconst fx (0 : Int32) dJ7_fill_53178_0 (by decide) ?_
  refine wa_istore_n fx [(2, .int 0), (0, .ref a), (1, .int v)] dJ7_fill_53178_1 rfl (by decide) rfl ?_
  refine wa_aload_n fx 1 dJ7_fill_53178_2 rfl ?_
  refine wa_alen fx 0 0 rfl rfl (nI n) rfl dJ7_fill_53178_3 ?_
  refine wa_istore_n fx [(3, .int (nI n)), (2, .int 0), (0, .ref a), (1, .int v)] dJ7_fill_53178_4 rfl (by decide) rfl ?_
  have h0 := L n 0 (by omega)
  rw [flI_0] at h0
  exact h0
-- a call of fill, in a world where the row is the cell q0
theorem sp_er {α : Type} : ∀ (ws : List α) (q0 : Nat) (x : α), ws[q0]? = some x → ws.Perm (x :: ws.eraseIdx q0)
  | [], q0, x, h => by simp at h
  | y :: ys, 0, x, h => by
    have e : y = x := by simpa using h
    subst e
    exact List.Perm.refl _
  | y :: ys, q0 + 1, x, h => by
    have h2 := sp_er ys q0 x (by simpa using h)
    rw [List.eraseIdx_cons_succ]
    exact (h2.cons y).trans (List.Perm.swap x y _)
theorem sp_at {ws : va_W} {q0 : Nat} {x : Nat × va_E} (h : ws[q0]? = some x) : ws.Perm (ws.eraseIdx q0 ++ [x]) :=
  (sp_er ws q0 x h).trans (List.perm_append_comm (l₁ := [x]) (l₂ := ws.eraseIdx q0))
theorem er_set {ws : va_W} {q0 : Nat} {x y : Nat × va_E} (h : ws[q0]? = some x) : (ws.set q0 y).Perm (ws.eraseIdx q0 ++ [y]) := by
  obtain ⟨hl, -⟩ := List.getElem?_eq_some_iff.mp h
  have h2 : (ws.set q0 y)[q0]? = some y := by rw [List.getElem?_set]; simp [hl]
  have h3 := sp_at h2
  rw [List.eraseIdx_set_eq] at h3
  exact h3
theorem wa_filll {g : GT} {K : KT} {h0 : Nat} {cc : ByteArray} {nL pc : Nat} {rt : Option FieldType} {own : String} {lv : List (Nat × Value)} {st : List Value} {ws : va_W} {σ : Type} (wf : σ → va_W) (fx : Fx g K (rmh (h0 + 1 + 1)) cc nL rt own) {index : Nat} (hw : Cond.methodLink own index yJ7_fill_d0a16 ∈ WT) (q0 : Nat) {a n : Nat} {f : Nat → Int64} {v : Int64} (ha : ws[q0]? = some (a, .inl (g.2.2.1, n, .inr (.inl f)))) (hn : n < 2 ^ 31) (d : decode cc pc = .ok (.invokestatic index, 3)) (hc : (st.map fun v => v.category).sum ≤ 8) {ρ : Type} {s2 : σ} {kk : σ → Option ρ} {r : ρ} (h : nm s2 kk = some r) (e : ws.set q0 (a, .inl (g.2.2.1, n, .inr (.inl (flL f n v)))) = wf s2) (k : ∀ y, kk y = some r → WA g K nL 0 0 (pc + 3) lv st (wf y)) : WA g K nL 0 0 pc lv (.long v :: .ref a :: st) ws := by
  refine wa_S (β := Unit) (ρ := Unit) (fc := some ()) (kk := fun _ => some ()) (r := ()) (rmc := rmh 1) (As := [.ref a, .long v]) (st := st) (wc := al_ws g a n f) (wr := ws.eraseIdx q0) (wcz := fun _ => al_ws g a n (flL f n v)) (w2 := fun _ => wf s2) (o := fun _ => none) (s2 := fun _ => st) fx mm_J7_fill_d0a16 hw d rfl (fun _ _ => c_filll hn) (rm_ok (by omega) (by decide)) ⟨Nat.zero_le _, Nat.zero_le _⟩ rfl (sp_at ha) (fun _ => by rw [← e]; exact er_set ha) rfl hc (fun _ => rfl) (fun _ _ => k s2 h)
theorem wa_filli {g : GT} {K : KT} {h0 : Nat} {cc : ByteArray} {nL n1 n2 pc : Nat} {rt : Option FieldType} {own : String} {lv : List (Nat × Value)} {st : List Value} {ws : va_W} {rm : Room} {σ : Type} (wf : σ → va_W) (fx : Fx g K rm cc nL rt own) (hrm : 2 ≤ rm.frames ∧ 80 ≤ rm.locals ∧ n1 ≤ rm.cells ∧ n2 ≤ rm.slots) {index : Nat} (hw : Cond.methodLink own index yJ7_fill_53178 ∈ WT) (q0 : Nat) {a n : Nat} {f : Nat → Int32} {v : Int32} (ha : ws[q0]? = some (a, .inl (g.2.1, n, .inl f))) (hn : n < 2 ^ 31) (d : decode cc pc = .ok (.invokestatic index, 3)) (hc : (st.map fun v => v.category).sum ≤ 8) {ρ : Type} {s2 : σ} {kk : σ → Option ρ} {r : ρ} (h : nm s2 kk = some r) (e : ws.set q0 (a, .inl (g.2.1, n, .inl (flI f n v))) = wf s2) (k : ∀ y, kk y = some r → WA g K nL n1 n2 (pc + 3) lv st (wf y)) : WA g K nL n1 n2 pc lv (.int v :: .ref a :: st) ws := by
  refine wa_S (β := Unit) (ρ := Unit) (fc := some ()) (kk := fun _ => some ()) (r := ()) (rmc := rmh 1) (As := [.ref a, .int v]) (st := st) (wc := ai_ws g a n f) (wr := ws.eraseIdx q0) (wcz := fun _ => ai_ws g a n (flI f n v)) (w2 := fun _ => wf s2) (o := fun _ => none) (s2 := fun _ => st) fx mm_J7_fill_53178 hw d rfl (fun _ _ => c_filli hn) ⟨rfl, rfl, hrm.1, by show 8 + (4 + 11) + 40 * 1 ≤ _; omega⟩ ⟨hrm.2.2.1, hrm.2.2.2⟩ rfl (sp_at ha) (fun _ => by rw [← e]; exact er_set ha) rfl hc (fun _ => rfl) (fun _ _ => k s2 h)

