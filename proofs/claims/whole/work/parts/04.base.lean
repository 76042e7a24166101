-- pure words: states, naming, checks
abbrev StT : Type := (Nat → Nat → Int32) × (Nat → Nat → Int64) × (Nat → Int32)
def setA (st : StT) (k : Nat) (f : Nat → Int32) : StT := (fun j => if j = k then f else st.1 j, st.2)
def setL (st : StT) (k : Nat) (f : Nat → Int64) : StT := (st.1, fun j => if j = k then f else st.2.1 j, st.2.2)
def setF (st : StT) (k : Nat) (v : Int32) : StT := (st.1, st.2.1, fun j => if j = k then v else st.2.2 j)
def gset (G : Nat → StT) (k : Nat) (st : StT) : Nat → StT := fun j => if j = k then st else G j
def nm {α β : Type} (e : α) (k : α → β) : β := k e
def ck {α : Type} (i : Int32) (n : Nat) (A : Option α) : Option α := if i < 0 ∨ n ≤ i.toNatClampNeg then none else A
def ckb {α : Type} (x : Int32) (A : Option α) : Option α := if x = 0 ∨ x = 1 then A else none
theorem of_ck {α : Type} {i : Int32} {n : Nat} {A : Option α} {r : α} (h : ck i n A = some r) : vp_in i n ∧ A = some r := by
  unfold ck at h
  by_cases hc : i < 0 ∨ n ≤ i.toNatClampNeg
  · rw [if_pos hc] at h; cases h
  · rw [if_neg hc] at h; exact ⟨hc, h⟩
theorem of_ckb {α : Type} {x : Int32} {A : Option α} {r : α} (h : ckb x A = some r) : (x = 0 ∨ x = 1) ∧ A = some r := by
  unfold ckb at h
  by_cases hc : x = 0 ∨ x = 1
  · rw [if_pos hc] at h; exact ⟨hc, h⟩
  · rw [if_neg hc] at h; cases h
theorem of_bind {α β : Type} {x : Option β} {f : β → Option α} {r : α} (h : Option.bind x f = some r) : ∃ b, x = some b ∧ f b = some r := by
  cases x with
  | none => cases h
  | some b => exact ⟨b, rfl, h⟩
theorem nb_of {x : Int32} (h : x = 0 ∨ x = 1) : narrow .boolean (.int x) = .int x := by
  rcases h with rfl | rfl <;> decide
theorem fb_of {x : Int32} (h : x = 0 ∨ x = 1) : fits .boolean (.int x) = true := by
  rcases h with rfl | rfl <;> decide
-- the fixed things of a run: D, int[], long[], Sheet[], KIND_ABOVE's row, the String constants and their bytes
abbrev GT : Type := va_G × ClassId × ClassId × ClassId × Nat × (Nat → Nat) × (Nat → Nat)
abbrev gT (g : GT) : List (ClassId × FieldType) := [(g.2.1, .int), (g.2.2.1, .long), (g.2.2.2.1, .object "WindowChairs$Sheet")]
def kaF (j : Nat) : Int32 := match j with
  | 0 => -1
  | 1 => 0
  | 2 => 0
  | 3 => 0
  | 4 => 1
  | _ => 3
def sx_i : List Nat := [102, 92, 94, 96, 98, 100, 112, 121, 125, 71, 137, 142, 80, 86]
def sx_t : List String := ["guest", "old", "talker", "deaf", "queen", "sleeper", "years", "claims", "in", "chair", "view", "draught", "quarrel", "peace"]
def sx_b : List (List Int32) := [[103, 117, 101, 115, 116], [111, 108, 100], [116, 97, 108, 107, 101, 114], [100, 101, 97, 102], [113, 117, 101, 101, 110], [115, 108, 101, 101, 112, 101, 114], [121, 101, 97, 114, 115], [99, 108, 97, 105, 109, 115], [105, 110], [99, 104, 97, 105, 114], [118, 105, 101, 119], [100, 114, 97, 117, 103, 104, 116], [113, 117, 97, 114, 114, 101, 108], [112, 101, 97, 99, 101]]
def sx_n : List Nat := [5, 3, 6, 4, 5, 7, 5, 6, 2, 5, 4, 7, 7, 5]
def Ev (g : GT) (A : Nat → Prop) (U : State) (H : Heap) : Prop :=
  va_Z "WindowChairs" "KIND_ABOVE" "[I" (.ref g.2.2.2.2.1) A U H ∧ va_T .int g.2.2.2.2.1 6 (fun j => .int (kaF j)) A U H ∧
  (va_Nw (.methodLinkNest RX0 76 yX3_isOfKind "WindowChairs") U ∧ va_Nw (.methodLinkNest RX0 64 yX3_isChair "WindowChairs") U ∧ va_Nw (.methodLinkNest RX2 63 yX3_isKind "WindowChairs") U) ∧
  vk_S 14 sx_n sx_b g.2.2.2.2.2.1 g.2.2.2.2.2.2 A U H ∧ (∀ i, i < 14 → vk_R RX2 (sx_i.getD i 0) (sx_t.getD i "") (g.2.2.2.2.2.1 i) U) ∧
  va_Z "java/lang/String" "COMPACT_STRINGS" "Z" (.int 1) A U H ∧ va_Zq "jdk/internal/util/Preconditions" "SIOOBE_FORMATTER" "Ljava/util/function/BiFunction;" A U H ∧ va_AO "WindowChairs$Sheet" U
theorem Ev.warm {g : GT} {A : Nat → Prop} {s U : State} {H : Heap} (hW : s.WarmedH U.vm) (h : Ev g A s H) : Ev g A U H := by
  obtain ⟨h1, h2, ⟨h3, h4, h5⟩, h6, h7, h8, h9, h10⟩ := h
  exact ⟨va_Z.moved hW.alike h1, va_T.moved hW.alike h2, ⟨va_Nw.warmM hW h3, va_Nw.warmM hW h4, va_Nw.warmM hW h5⟩, vk_S.moved hW.alike h6, fun i hi => vk_R.warm hW (h7 i hi), va_Z.moved hW.alike h8, va_Zq.moved hW.alike h9, va_AO.moved hW.alike h10⟩
theorem Ev.same {g : GT} {A : Nat → Prop} {u U : State} {H : Heap} (hv : U.vm = u.vm) (h : Ev g A u H) : Ev g A U H := by
  obtain ⟨h1, h2, ⟨h3, h4, h5⟩, h6, h7, h8, h9, h10⟩ := h
  have al : u.vm.Alike U.vm := by rw [hv]; exact Vm.Alike.refl u.vm
  exact ⟨va_Z.moved al h1, va_T.moved al h2, ⟨va_Nw.same rfl hv.symm h3, va_Nw.same rfl hv.symm h4, va_Nw.same rfl hv.symm h5⟩, vk_S.moved al h6, fun i hi => vk_R.same hv (h7 i hi), va_Z.moved al h8, va_Zq.moved al h9, va_AO.moved al h10⟩
theorem Ev.kept {g : GT} {A : Nat → Prop} {U : State} {H H1 : Heap} (h : Ev g A U H) (hq : ∀ a : Nat, a < H.size → ¬ A a → H1[a]? = H[a]?) : Ev g A U H1 := by
  obtain ⟨h1, h2, h3, h6, h7, h8, h9, h10⟩ := h
  exact ⟨h1.kept hq, h2.kept hq, h3, h6.kept hq, h7, h8.kept hq, h9.kept hq, h10⟩
theorem Ev.narrow {g : GT} {A B : Nat → Prop} {U : State} {H : Heap} (h : Ev g A U H) (hAB : ∀ q, B q → A q) : Ev g B U H := by
  obtain ⟨h1, h2, h3, h6, h7, h8, h9, h10⟩ := h
  exact ⟨h1.narrow hAB, h2.narrow hAB, h3, h6.narrow hAB, h7, h8.narrow hAB, h9.narrow hAB, h10⟩
-- worlds by order: a permutation changes nothing
theorem P_perm {D : va_G} {cl : List vw_C} {a b : va_W} {H : Heap} (h : a.Perm b) (hP : va_P D cl a H) : va_P D cl b H := by
  intro k q hq
  obtain ⟨i, hi⟩ := List.getElem?_of_mem (h.mem_iff.mpr (List.mem_of_getElem? hq))
  exact hP i q hi
theorem D_iff {A : Nat → Prop} {ws : va_W} : va_D A ws ↔ (ws.map (fun q => q.1)).Nodup ∧ ∀ q ∈ ws, A q.1 := by
  constructor
  · intro h
    refine ⟨?_, fun q hq => ?_⟩
    · refine List.pairwise_iff_getElem.mpr (fun i j hi hj hij e => ?_)
      have hi' : i < ws.length := by simpa using hi
      have hj' : j < ws.length := by simpa using hj
      have := h.1 i j ws[i] ws[j] (List.getElem?_eq_getElem hi') (List.getElem?_eq_getElem hj') (by simpa using e)
      omega
    · obtain ⟨i, hi⟩ := List.getElem?_of_mem hq
      exact h.2 i q hi
  · intro h
    refine ⟨fun i j p q hp hq e => ?_, fun k q hq => h.2 q (List.mem_of_getElem? hq)⟩
    obtain ⟨hi, rfl⟩ := List.getElem?_eq_some_iff.mp hp
    obtain ⟨hj, rfl⟩ := List.getElem?_eq_some_iff.mp hq
    have hn := List.pairwise_iff_getElem.mp h.1
    rcases Nat.lt_trichotomy i j with hl | hl | hl
    · exact absurd (by rw [List.getElem_map, List.getElem_map]; exact e) (hn i j (by simpa using hi) (by simpa using hj) hl)
    · exact hl
    · exact absurd (by rw [List.getElem_map, List.getElem_map]; exact e.symm) (hn j i (by simpa using hj) (by simpa using hi) hl)
theorem D_perm {A : Nat → Prop} {a b : va_W} (h : a.Perm b) (hD : va_D A a) : va_D A b := by
  rw [D_iff] at hD ⊢
  exact ⟨(h.map (fun q => q.1)).nodup_iff.mp hD.1, fun q hq => hD.2 q (h.mem_iff.mpr hq)⟩
theorem A_perm {A : Nat → Prop} {ws wr wc : va_W} {H0 H : Heap} {locs : List Loc} (hsp : ws.Perm (wr ++ wc)) (hD : va_D A ws) (hS : va_S A H0 H locs) (hA : ∀ q, H0.size ≤ q → A q) : ∀ q, va_A wc H.size q → A q := by
  intro q h
  rcases h with ⟨k, e, h⟩ | h
  · exact (D_iff.mp hD).2 (q, e) (hsp.mem_iff.mpr (List.mem_append_right _ (List.mem_of_getElem? h)))
  · exact hA q (Nat.le_trans hS.1 h)
theorem J_perm {A : Nat → Prop} {D : va_G} {cl : List vw_C} {ws wr wc w1 : va_W} {H0 H H1 : Heap} {locs : List Loc} (hsp : ws.Perm (wr ++ wc)) (hP : va_P D cl ws H) (hD : va_D A ws) (hS : va_S A H0 H locs) (hA : ∀ q, H0.size ≤ q → A q) (hk : ∀ q : Nat, q < H.size → ¬ va_A wc H.size q → H1[q]? = H[q]?) (hP1 : va_P D cl w1 H1) (hD1 : va_D (va_A wc H.size) w1) : va_P D cl (wr ++ w1) H1 ∧ va_D A (wr ++ w1) := by
  have hF := A_perm hsp hD hS hA
  have hP' := P_perm hsp hP
  have hD' := D_iff.mp (D_perm hsp hD)
  have ap : ∀ q ∈ wr, q.1 < H.size ∧ ¬ va_A wc H.size q.1 := by
    intro q hq
    obtain ⟨i, hi⟩ := List.getElem?_of_mem (List.mem_append_left wc hq)
    refine ⟨(hP' i q hi).lt, fun h => ?_⟩
    rcases h with ⟨k, e, h⟩ | h
    · have h3 := hD'.1
      rw [List.map_append, List.nodup_append] at h3
      exact h3.2.2 q.1 (List.mem_map.mpr ⟨q, hq, rfl⟩) q.1 (List.mem_map.mpr ⟨(q.1, e), List.mem_of_getElem? h, rfl⟩) rfl
    · exact absurd (hP' i q hi).lt (by omega)
  refine ⟨va_P.app (fun k q hq => ?_) hP1, D_iff.mpr ⟨?_, fun q hq => ?_⟩⟩
  · have hm := List.mem_of_getElem? hq
    obtain ⟨i, hi⟩ := List.getElem?_of_mem (List.mem_append_left wc hm)
    exact (hP' i q hi).kept (hk q.1 (ap q hm).1 (ap q hm).2)
  · rw [List.map_append, List.nodup_append]
    refine ⟨((List.nodup_append.mp (by rw [← List.map_append]; exact hD'.1)).1), (D_iff.mp hD1).1, fun a ha b hb e => ?_⟩
    obtain ⟨q, hq, rfl⟩ := List.mem_map.mp ha
    obtain ⟨q2, hq2, rfl⟩ := List.mem_map.mp hb
    exact (ap q hq).2 (by rw [e]; exact (D_iff.mp hD1).2 q2 hq2)
  · rcases List.mem_append.mp hq with h | h
    · exact hD'.2 q (List.mem_append_left _ h)
    · exact hF q.1 ((D_iff.mp hD1).2 q h)
-- the words that a method needs: its code, and all words
abbrev wd (y : MethodName) (cc : ByteArray) (n : Nat) (rt : Option FieldType) : List Cond := .code y cc n rt :: WT
abbrev rmh (h : Nat) : Room := { frames := h, cells := 0, slots := 0, locals := 40 * h }
/-- a contract: from the cells ws, with these arguments, the method answers o and leaves the cells w2; nothing else changes, nothing is made -/
def CtPre (g : GT) (av : List Value) (ws : va_W) (sz : Nat) : Array Value → State → Prop :=
  va_Pc av (fun U => U.heap.size = sz ∧ va_P g.1 vwCl ws U.heap ∧ va_K g.1 vwCl (gT g) U ∧ va_D (fun _ => True) ws ∧ Ev g (va_A ws sz) U U.heap)
def CtPost (g : GT) (ws w2 : va_W) (sz : Nat) (o : Option Value) : Array Value → State → Outcome → State → Prop :=
  fun _ st oc t => (oc = .returned o ∧ va_P g.1 vwCl w2 t.heap ∧ va_D (va_A ws sz) w2) ∧ va_F (va_A ws sz) st t
def Ct (g : GT) (l : Launch) (y : MethodName) (wds : List Cond) (rm : Room) (av : List Value) (ws w2 : va_W) (o : Option Value) : Prop :=
  ∀ sz, Met l y wds rm (CtPre g av ws sz) (CtPost g ws w2 sz o) 0 0 (va_A ws sz)
abbrev KT : Type := Program × Launch × Env × Room × State × MethodId × Array Value × List Frame × Method × Code × (State → Prop) × (Nat → Prop)
abbrev kp (K : KT) : Program := K.1
abbrev kl (K : KT) : Launch := K.2.1
abbrev ke (K : KT) : Env := K.2.2.1
abbrev kR (K : KT) : Room := K.2.2.2.1
abbrev ks (K : KT) : State := K.2.2.2.2.1
abbrev km (K : KT) : MethodId := K.2.2.2.2.2.1
abbrev ka (K : KT) : Array Value := K.2.2.2.2.2.2.1
abbrev kb (K : KT) : List Frame := K.2.2.2.2.2.2.2.1
abbrev kt (K : KT) : Method := K.2.2.2.2.2.2.2.2.1
abbrev kc (K : KT) : Code := K.2.2.2.2.2.2.2.2.2.1
abbrev kQ (K : KT) : State → Prop := K.2.2.2.2.2.2.2.2.2.2.1
abbrev kA (K : KT) : Nat → Prop := K.2.2.2.2.2.2.2.2.2.2.2
def WA (g : GT) (K : KT) (nL n1 n2 pc : Nat) (lv : List (Nat × Value)) (stk : List Value) (ws : va_W) : Prop :=
  ∀ (H : Heap) (locs : List Loc) (ls : Array Slot), va_P g.1 vwCl ws H → va_D (kA K) ws → va_S (kA K) (ks K).heap H locs → lv_has ls nL lv → W (kp K) (kl K) (ke K) (kR K) (ks K) (km K) (ka K) (kb K) (kt K) (kc K) H locs n1 n2 (kQ K) (F0 (km K) pc ls stk)
def Fx (g : GT) (K : KT) (rm : Room) (cc : ByteArray) (nL : Nat) (rt : Option FieldType) (own : String) : Prop :=
  (kp K).tables.exec = Jvm.exec ∧ (kc K).code = cc ∧ (kt K).sig.returnType = rt ∧ (kc K).maxLocals = nL ∧ (ks K).vm.findClass own = some (km K).cls ∧ (∀ w ∈ WT, w.before (ka K) (ks K) = true) ∧ (kt K).locks = false ∧ va_K g.1 vwCl (gT g) (ks K) ∧ (∀ q, (ks K).heap.size ≤ q → kA K q) ∧ Ev g (kA K) (ks K) (ks K).heap ∧ kR K = rm
/-- what an answer needs: the run is over with o and the cells w2 -/
def Fn (g : GT) (K : KT) (w2 : va_W) (o : Option Value) : Prop :=
  ∃ (ws : va_W), kA K = va_A ws (ks K).heap.size ∧ kQ K = MQ (kb K) (CtPost g ws w2 (ks K).heap.size o) (ka K) (ks K) 0 0 (kA K)
theorem Ct.of {g : GT} {l : Launch} {y : MethodName} {cc : ByteArray} {nL : Nat} {rt : Option FieldType} {rm : Room} {av : List Value} {ws w2 : va_W} {o : Option Value} {lv : List (Nat × Value)} (hy : plainName y.cls = true) (hn : (lg_sl av).length ≤ nL) (hlv : lv_args 0 av = lv)
    (body : ∀ K : KT, kl K = l → Fx g K rm cc nL rt y.cls → Fn g K w2 o → WA g K nL 0 0 0 lv [] ws) : Ct g l y (wd y cc nL rt) rm av ws w2 o := by
  intro sz
  refine Met.ofW (cc := cc) (maxL := nL) (ret := rt) hy rfl ?_
  intro p e s m args below meth c s₁ B hml hv
  obtain ⟨rfl, hsz, hP, hK, hD0, hE⟩ := hv
  have hts := atoms_spec (ws := wd y cc nL rt) B.pre
  subst hsz
  have hD := hD0.self (sz := s.heap.size)
  have hl := lv_entry av (n := nL) hn
  rw [lg_entry_eq]
  rw [hlv] at hl
  exact body (p, l, e, rm, s, m, av.toArray, below, meth, c, MQ below (CtPost g ws w2 s.heap.size o) av.toArray s 0 0 (va_A ws s.heap.size), va_A ws s.heap.size) rfl
    ⟨B.exec, B.bytes, B.returns, hml, findClass_of_methodNamed B.named, fun w h => hts w (List.mem_cons_of_mem _ h), B.notSynchronized, hK, fun q h => Or.inr h, hE, rfl⟩ ⟨ws, rfl, rfl⟩ s.heap [] _ hP hD va_S.rf hl
section
variable {g : GT} {K : KT} {rm : Room} {cc : ByteArray} {nL n1 n2 pc : Nat} {rt : Option FieldType} {own : String} {lv : List (Nat × Value)} {st : List Value} {ws : va_W}
theorem wa_iconst (fx : Fx g K rm cc nL rt own) {n : Int} (v : Int32) (d : decode cc pc = .ok (.iconst n, 1)) (hv : Int32.ofInt n = v) (k : WA g K nL n1 n2 (pc + 1) lv (.int v :: st) ws) : WA g K nL n1 n2 pc lv (st) ws := fun H locs ls hP hD hS hl => lv_iconst fx.1 fx.2.1 d hv (k H locs ls hP hD hS hl)
theorem wa_bipush (fx : Fx g K rm cc nL rt own) {n : Int} (v : Int32) (d : decode cc pc = .ok (.bipush n, 2)) (hv : (Int8.ofInt n).toInt32 = v) (k : WA g K nL n1 n2 (pc + 2) lv (.int v :: st) ws) : WA g K nL n1 n2 pc lv (st) ws := fun H locs ls hP hD hS hl => lv_bipush fx.1 fx.2.1 d hv (k H locs ls hP hD hS hl)
theorem wa_sipush (fx : Fx g K rm cc nL rt own) {n : Int} (v : Int32) (d : decode cc pc = .ok (.sipush n, 3)) (hv : (Int16.ofInt n).toInt32 = v) (k : WA g K nL n1 n2 (pc + 3) lv (.int v :: st) ws) : WA g K nL n1 n2 pc lv (st) ws := fun H locs ls hP hD hS hl => lv_sipush fx.1 fx.2.1 d hv (k H locs ls hP hD hS hl)
theorem wa_lconst (fx : Fx g K rm cc nL rt own) {n : Fin 2} (v : Int64) (d : decode cc pc = .ok (.lconst n, 1)) (hv : Int64.ofNat (n : Nat) = v) (k : WA g K nL n1 n2 (pc + 1) lv (.long v :: st) ws) : WA g K nL n1 n2 pc lv (st) ws := fun H locs ls hP hD hS hl => lv_lconst fx.1 fx.2.1 d hv (k H locs ls hP hD hS hl)
theorem wa_iload_n (fx : Fx g K rm cc nL rt own) {i : Fin 4} (j : Nat) {x : Int32} (d : decode cc pc = .ok (.iload_n i, 1)) (hj : lv[j]? = some ((i : Nat), .int x)) (k : WA g K nL n1 n2 (pc + 1) lv (.int x :: st) ws) : WA g K nL n1 n2 pc lv st ws := fun H locs ls hP hD hS hl => lv_iload_n fx.1 fx.2.1 d rfl (lv_at hl j hj) (k H locs ls hP hD hS hl)
theorem wa_iload (fx : Fx g K rm cc nL rt own) {i : Nat} (j : Nat) {x : Int32} (d : decode cc pc = .ok (.iload i, 2)) (hj : lv[j]? = some (i, .int x)) (k : WA g K nL n1 n2 (pc + 2) lv (.int x :: st) ws) : WA g K nL n1 n2 pc lv st ws := fun H locs ls hP hD hS hl => lv_iload fx.1 fx.2.1 d (lv_at hl j hj) (k H locs ls hP hD hS hl)
theorem wa_lload_n (fx : Fx g K rm cc nL rt own) {i : Fin 4} (j : Nat) {x : Int64} (d : decode cc pc = .ok (.lload_n i, 1)) (hj : lv[j]? = some ((i : Nat), .long x)) (k : WA g K nL n1 n2 (pc + 1) lv (.long x :: st) ws) : WA g K nL n1 n2 pc lv st ws := fun H locs ls hP hD hS hl => lv_lload_n fx.1 fx.2.1 d rfl (lv_at hl j hj) (k H locs ls hP hD hS hl)
theorem wa_lload (fx : Fx g K rm cc nL rt own) {i : Nat} (j : Nat) {x : Int64} (d : decode cc pc = .ok (.lload i, 2)) (hj : lv[j]? = some (i, .long x)) (k : WA g K nL n1 n2 (pc + 2) lv (.long x :: st) ws) : WA g K nL n1 n2 pc lv st ws := fun H locs ls hP hD hS hl => lv_lload fx.1 fx.2.1 d (lv_at hl j hj) (k H locs ls hP hD hS hl)
theorem wa_aload_n (fx : Fx g K rm cc nL rt own) {i : Fin 4} (j : Nat) {x : Nat} (d : decode cc pc = .ok (.aload_n i, 1)) (hj : lv[j]? = some ((i : Nat), .ref x)) (k : WA g K nL n1 n2 (pc + 1) lv (.ref x :: st) ws) : WA g K nL n1 n2 pc lv st ws := fun H locs ls hP hD hS hl => lv_aload_n fx.1 fx.2.1 d rfl (lv_at hl j hj) (k H locs ls hP hD hS hl)
theorem wa_aload (fx : Fx g K rm cc nL rt own) {i : Nat} (j : Nat) {x : Nat} (d : decode cc pc = .ok (.aload i, 2)) (hj : lv[j]? = some (i, .ref x)) (k : WA g K nL n1 n2 (pc + 2) lv (.ref x :: st) ws) : WA g K nL n1 n2 pc lv st ws := fun H locs ls hP hD hS hl => lv_aload fx.1 fx.2.1 d (lv_at hl j hj) (k H locs ls hP hD hS hl)
theorem wa_istore_n (fx : Fx g K rm cc nL rt own) {k0 : Fin 4} {i : Nat} {x : Int32} (lv2 : List (Nat × Value)) (d : decode cc pc = .ok (.istore_n k0, 1)) (hi : (k0 : Nat) = i) (hn : i < nL) (hl2 : (i, Value.int x) :: lv.filter (fun q => !(q.1 == i) && !(q.1 + 1 == i && q.2.category == 2)) = lv2) (k : WA g K nL n1 n2 (pc + 1) lv2 st ws) : WA g K nL n1 n2 pc lv (.int x :: st) ws := fun H locs ls hP hD hS hl => lv_istore_n fx.1 fx.2.1 d hi hl hn hl2 (fun ls hl => k H locs ls hP hD hS hl)
theorem wa_istore_nN (fx : Fx g K rm cc nL rt own) {k0 : Fin 4} {i : Nat} {x : Int32} (lv2 : Int32 → List (Nat × Value)) (d : decode cc pc = .ok (.istore_n k0, 1)) (hi : (k0 : Nat) = i) (hn : i < nL) (hl2 : ∀ x : Int32, (i, Value.int x) :: lv.filter (fun q => !(q.1 == i) && !(q.1 + 1 == i && q.2.category == 2)) = lv2 x) {ρ : Type} {kk : Int32 → ρ} {r : ρ} (h : nm x kk = r) (k : ∀ y : Int32, kk y = r → WA g K nL n1 n2 (pc + 1) (lv2 y) st ws) : WA g K nL n1 n2 pc lv (.int x :: st) ws := fun H locs ls hP hD hS hl => lv_istore_n fx.1 fx.2.1 d hi hl hn (hl2 x) (fun ls hl => k x h H locs ls hP hD hS hl)
theorem wa_istore (fx : Fx g K rm cc nL rt own) {i : Nat} {x : Int32} (lv2 : List (Nat × Value)) (d : decode cc pc = .ok (.istore i, 2))  (hn : i < nL) (hl2 : (i, Value.int x) :: lv.filter (fun q => !(q.1 == i) && !(q.1 + 1 == i && q.2.category == 2)) = lv2) (k : WA g K nL n1 n2 (pc + 2) lv2 st ws) : WA g K nL n1 n2 pc lv (.int x :: st) ws := fun H locs ls hP hD hS hl => lv_istore fx.1 fx.2.1 d  hl hn hl2 (fun ls hl => k H locs ls hP hD hS hl)
theorem wa_istoreN (fx : Fx g K rm cc nL rt own) {i : Nat} {x : Int32} (lv2 : Int32 → List (Nat × Value)) (d : decode cc pc = .ok (.istore i, 2))  (hn : i < nL) (hl2 : ∀ x : Int32, (i, Value.int x) :: lv.filter (fun q => !(q.1 == i) && !(q.1 + 1 == i && q.2.category == 2)) = lv2 x) {ρ : Type} {kk : Int32 → ρ} {r : ρ} (h : nm x kk = r) (k : ∀ y : Int32, kk y = r → WA g K nL n1 n2 (pc + 2) (lv2 y) st ws) : WA g K nL n1 n2 pc lv (.int x :: st) ws := fun H locs ls hP hD hS hl => lv_istore fx.1 fx.2.1 d  hl hn (hl2 x) (fun ls hl => k x h H locs ls hP hD hS hl)
theorem wa_lstore_n (fx : Fx g K rm cc nL rt own) {k0 : Fin 4} {i : Nat} {x : Int64} (lv2 : List (Nat × Value)) (d : decode cc pc = .ok (.lstore_n k0, 1)) (hi : (k0 : Nat) = i) (hn : i + 1 < nL) (hl2 : (i, Value.long x) :: lv.filter (fun q => !(q.1 == i) && (!(q.1 == i + 1) && !(q.1 + 1 == i && q.2.category == 2))) = lv2) (k : WA g K nL n1 n2 (pc + 1) lv2 st ws) : WA g K nL n1 n2 pc lv (.long x :: st) ws := fun H locs ls hP hD hS hl => lv_lstore_n fx.1 fx.2.1 d hi hl hn hl2 (fun ls hl => k H locs ls hP hD hS hl)
theorem wa_lstore_nN (fx : Fx g K rm cc nL rt own) {k0 : Fin 4} {i : Nat} {x : Int64} (lv2 : Int64 → List (Nat × Value)) (d : decode cc pc = .ok (.lstore_n k0, 1)) (hi : (k0 : Nat) = i) (hn : i + 1 < nL) (hl2 : ∀ x : Int64, (i, Value.long x) :: lv.filter (fun q => !(q.1 == i) && (!(q.1 == i + 1) && !(q.1 + 1 == i && q.2.category == 2))) = lv2 x) {ρ : Type} {kk : Int64 → ρ} {r : ρ} (h : nm x kk = r) (k : ∀ y : Int64, kk y = r → WA g K nL n1 n2 (pc + 1) (lv2 y) st ws) : WA g K nL n1 n2 pc lv (.long x :: st) ws := fun H locs ls hP hD hS hl => lv_lstore_n fx.1 fx.2.1 d hi hl hn (hl2 x) (fun ls hl => k x h H locs ls hP hD hS hl)
theorem wa_lstore (fx : Fx g K rm cc nL rt own) {i : Nat} {x : Int64} (lv2 : List (Nat × Value)) (d : decode cc pc = .ok (.lstore i, 2))  (hn : i + 1 < nL) (hl2 : (i, Value.long x) :: lv.filter (fun q => !(q.1 == i) && (!(q.1 == i + 1) && !(q.1 + 1 == i && q.2.category == 2))) = lv2) (k : WA g K nL n1 n2 (pc + 2) lv2 st ws) : WA g K nL n1 n2 pc lv (.long x :: st) ws := fun H locs ls hP hD hS hl => lv_lstore fx.1 fx.2.1 d  hl hn hl2 (fun ls hl => k H locs ls hP hD hS hl)
theorem wa_lstoreN (fx : Fx g K rm cc nL rt own) {i : Nat} {x : Int64} (lv2 : Int64 → List (Nat × Value)) (d : decode cc pc = .ok (.lstore i, 2))  (hn : i + 1 < nL) (hl2 : ∀ x : Int64, (i, Value.long x) :: lv.filter (fun q => !(q.1 == i) && (!(q.1 == i + 1) && !(q.1 + 1 == i && q.2.category == 2))) = lv2 x) {ρ : Type} {kk : Int64 → ρ} {r : ρ} (h : nm x kk = r) (k : ∀ y : Int64, kk y = r → WA g K nL n1 n2 (pc + 2) (lv2 y) st ws) : WA g K nL n1 n2 pc lv (.long x :: st) ws := fun H locs ls hP hD hS hl => lv_lstore fx.1 fx.2.1 d  hl hn (hl2 x) (fun ls hl => k x h H locs ls hP hD hS hl)
theorem wa_astore_n (fx : Fx g K rm cc nL rt own) {k0 : Fin 4} {i : Nat} {x : Nat} (lv2 : List (Nat × Value)) (d : decode cc pc = .ok (.astore_n k0, 1)) (hi : (k0 : Nat) = i) (hn : i < nL) (hl2 : (i, Value.ref x) :: lv.filter (fun q => !(q.1 == i) && !(q.1 + 1 == i && q.2.category == 2)) = lv2) (k : WA g K nL n1 n2 (pc + 1) lv2 st ws) : WA g K nL n1 n2 pc lv (.ref x :: st) ws := fun H locs ls hP hD hS hl => lv_astore_n fx.1 fx.2.1 d hi hl hn hl2 (fun ls hl => k H locs ls hP hD hS hl)
theorem wa_astore (fx : Fx g K rm cc nL rt own) {i : Nat} {x : Nat} (lv2 : List (Nat × Value)) (d : decode cc pc = .ok (.astore i, 2))  (hn : i < nL) (hl2 : (i, Value.ref x) :: lv.filter (fun q => !(q.1 == i) && !(q.1 + 1 == i && q.2.category == 2)) = lv2) (k : WA g K nL n1 n2 (pc + 2) lv2 st ws) : WA g K nL n1 n2 pc lv (.ref x :: st) ws := fun H locs ls hP hD hS hl => lv_astore fx.1 fx.2.1 d  hl hn hl2 (fun ls hl => k H locs ls hP hD hS hl)
theorem wa_iinc (fx : Fx g K rm cc nL rt own) {i : Nat} (j : Nat) {n : Int} {x v : Int32} (lv2 : Int32 → List (Nat × Value)) (d : decode cc pc = .ok (.iinc i n, 3)) (hj : lv[j]? = some (i, .int x)) (hv : x + Int32.ofInt n = v) (hn : i < nL) (hl2 : ∀ v : Int32, (i, Value.int v) :: lv.filter (fun q => !(q.1 == i) && !(q.1 + 1 == i && q.2.category == 2)) = lv2 v) {ρ : Type} {kk : Int32 → ρ} {r : ρ} (h : nm v kk = r) (k : ∀ y : Int32, kk y = r → WA g K nL n1 n2 (pc + 3) (lv2 y) st ws) : WA g K nL n1 n2 pc lv st ws := fun H locs ls hP hD hS hl => lv_iinc fx.1 fx.2.1 d hl hj hv hn (hl2 v) (fun ls hl => k v h H locs ls hP hD hS hl)
theorem wa_iadd (fx : Fx g K rm cc nL rt own) {x y : Int32} (d : decode cc pc = .ok (.iadd, 1))  (k : WA g K nL n1 n2 (pc + 1) lv (.int (x + y) :: st) ws) : WA g K nL n1 n2 pc lv (.int y :: .int x :: st) ws := fun H locs ls hP hD hS hl => lv_iadd fx.1 fx.2.1 d  (k H locs ls hP hD hS hl)
theorem wa_isub (fx : Fx g K rm cc nL rt own) {x y : Int32} (d : decode cc pc = .ok (.isub, 1))  (k : WA g K nL n1 n2 (pc + 1) lv (.int (x - y) :: st) ws) : WA g K nL n1 n2 pc lv (.int y :: .int x :: st) ws := fun H locs ls hP hD hS hl => lv_isub fx.1 fx.2.1 d  (k H locs ls hP hD hS hl)
theorem wa_imul (fx : Fx g K rm cc nL rt own) {x y : Int32} (d : decode cc pc = .ok (.imul, 1))  (k : WA g K nL n1 n2 (pc + 1) lv (.int (x * y) :: st) ws) : WA g K nL n1 n2 pc lv (.int y :: .int x :: st) ws := fun H locs ls hP hD hS hl => lv_imul fx.1 fx.2.1 d  (k H locs ls hP hD hS hl)
theorem wa_iand (fx : Fx g K rm cc nL rt own) {x y : Int32} (d : decode cc pc = .ok (.iand, 1))  (k : WA g K nL n1 n2 (pc + 1) lv (.int (x &&& y) :: st) ws) : WA g K nL n1 n2 pc lv (.int y :: .int x :: st) ws := fun H locs ls hP hD hS hl => lv_iand fx.1 fx.2.1 d  (k H locs ls hP hD hS hl)
theorem wa_ior (fx : Fx g K rm cc nL rt own) {x y : Int32} (d : decode cc pc = .ok (.ior, 1))  (k : WA g K nL n1 n2 (pc + 1) lv (.int (x ||| y) :: st) ws) : WA g K nL n1 n2 pc lv (.int y :: .int x :: st) ws := fun H locs ls hP hD hS hl => lv_ior fx.1 fx.2.1 d  (k H locs ls hP hD hS hl)
theorem wa_ixor (fx : Fx g K rm cc nL rt own) {x y : Int32} (d : decode cc pc = .ok (.ixor, 1))  (k : WA g K nL n1 n2 (pc + 1) lv (.int (x ^^^ y) :: st) ws) : WA g K nL n1 n2 pc lv (.int y :: .int x :: st) ws := fun H locs ls hP hD hS hl => lv_ixor fx.1 fx.2.1 d  (k H locs ls hP hD hS hl)
theorem wa_ishl (fx : Fx g K rm cc nL rt own) {x y : Int32} (d : decode cc pc = .ok (.ishl, 1))  (k : WA g K nL n1 n2 (pc + 1) lv (.int (x <<< (y &&& 31)) :: st) ws) : WA g K nL n1 n2 pc lv (.int y :: .int x :: st) ws := fun H locs ls hP hD hS hl => lv_ishl fx.1 fx.2.1 d  (k H locs ls hP hD hS hl)
theorem wa_ishr (fx : Fx g K rm cc nL rt own) {x y : Int32} (d : decode cc pc = .ok (.ishr, 1))  (k : WA g K nL n1 n2 (pc + 1) lv (.int (x >>> (y &&& 31)) :: st) ws) : WA g K nL n1 n2 pc lv (.int y :: .int x :: st) ws := fun H locs ls hP hD hS hl => lv_ishr fx.1 fx.2.1 d  (k H locs ls hP hD hS hl)
theorem wa_idiv (fx : Fx g K rm cc nL rt own) {x y : Int32} (d : decode cc pc = .ok (.idiv, 1)) (hne : ¬ y = 0) (k : WA g K nL n1 n2 (pc + 1) lv (.int (x / y) :: st) ws) : WA g K nL n1 n2 pc lv (.int y :: .int x :: st) ws := fun H locs ls hP hD hS hl => lv_idiv fx.1 fx.2.1 d hne (k H locs ls hP hD hS hl)
theorem wa_irem (fx : Fx g K rm cc nL rt own) {x y : Int32} (d : decode cc pc = .ok (.irem, 1)) (hne : ¬ y = 0) (k : WA g K nL n1 n2 (pc + 1) lv (.int (x - x / y * y) :: st) ws) : WA g K nL n1 n2 pc lv (.int y :: .int x :: st) ws := fun H locs ls hP hD hS hl => lv_irem fx.1 fx.2.1 d hne (k H locs ls hP hD hS hl)
theorem wa_ladd (fx : Fx g K rm cc nL rt own) {x y : Int64} (d : decode cc pc = .ok (.ladd, 1))  (k : WA g K nL n1 n2 (pc + 1) lv (.long (x + y) :: st) ws) : WA g K nL n1 n2 pc lv (.long y :: .long x :: st) ws := fun H locs ls hP hD hS hl => lv_ladd fx.1 fx.2.1 d  (k H locs ls hP hD hS hl)
theorem wa_lmul (fx : Fx g K rm cc nL rt own) {x y : Int64} (d : decode cc pc = .ok (.lmul, 1))  (k : WA g K nL n1 n2 (pc + 1) lv (.long (x * y) :: st) ws) : WA g K nL n1 n2 pc lv (.long y :: .long x :: st) ws := fun H locs ls hP hD hS hl => lv_lmul fx.1 fx.2.1 d  (k H locs ls hP hD hS hl)
theorem wa_land (fx : Fx g K rm cc nL rt own) {x y : Int64} (d : decode cc pc = .ok (.land, 1))  (k : WA g K nL n1 n2 (pc + 1) lv (.long (x &&& y) :: st) ws) : WA g K nL n1 n2 pc lv (.long y :: .long x :: st) ws := fun H locs ls hP hD hS hl => lv_land fx.1 fx.2.1 d  (k H locs ls hP hD hS hl)
theorem wa_lor (fx : Fx g K rm cc nL rt own) {x y : Int64} (d : decode cc pc = .ok (.lor, 1))  (k : WA g K nL n1 n2 (pc + 1) lv (.long (x ||| y) :: st) ws) : WA g K nL n1 n2 pc lv (.long y :: .long x :: st) ws := fun H locs ls hP hD hS hl => lv_lor fx.1 fx.2.1 d  (k H locs ls hP hD hS hl)
theorem wa_i2l (fx : Fx g K rm cc nL rt own) {x : Int32} (d : decode cc pc = .ok (.i2l, 1))  (k : WA g K nL n1 n2 (pc + 1) lv (.long x.toInt64 :: st) ws) : WA g K nL n1 n2 pc lv (.int x :: st) ws := fun H locs ls hP hD hS hl => lv_i2l fx.1 fx.2.1 d rfl (k H locs ls hP hD hS hl)
theorem wa_l2i (fx : Fx g K rm cc nL rt own) {x : Int64} (d : decode cc pc = .ok (.l2i, 1))  (k : WA g K nL n1 n2 (pc + 1) lv (.int x.toInt32 :: st) ws) : WA g K nL n1 n2 pc lv (.long x :: st) ws := fun H locs ls hP hD hS hl => lv_l2i fx.1 fx.2.1 d rfl (k H locs ls hP hD hS hl)
theorem wa_i2b (fx : Fx g K rm cc nL rt own) {x : Int32} (d : decode cc pc = .ok (.i2b, 1))  (k : WA g K nL n1 n2 (pc + 1) lv (.int x.toInt8.toInt32 :: st) ws) : WA g K nL n1 n2 pc lv (.int x :: st) ws := fun H locs ls hP hD hS hl => lv_i2b fx.1 fx.2.1 d rfl (k H locs ls hP hD hS hl)
theorem wa_i2s (fx : Fx g K rm cc nL rt own) {x : Int32} (d : decode cc pc = .ok (.i2s, 1))  (k : WA g K nL n1 n2 (pc + 1) lv (.int x.toInt16.toInt32 :: st) ws) : WA g K nL n1 n2 pc lv (.int x :: st) ws := fun H locs ls hP hD hS hl => lv_i2s fx.1 fx.2.1 d rfl (k H locs ls hP hD hS hl)
theorem wa_i2c (fx : Fx g K rm cc nL rt own) {x : Int32} (d : decode cc pc = .ok (.i2c, 1))  (k : WA g K nL n1 n2 (pc + 1) lv (.int (x.toUInt32 % 65536).toInt32 :: st) ws) : WA g K nL n1 n2 pc lv (.int x :: st) ws := fun H locs ls hP hD hS hl => lv_i2c fx.1 fx.2.1 d rfl (k H locs ls hP hD hS hl)
theorem wa_iushr (fx : Fx g K rm cc nL rt own) {x y : Int32} (d : decode cc pc = .ok (.iushr, 1))  (k : WA g K nL n1 n2 (pc + 1) lv (.int (x.toUInt32 >>> (y.toUInt32 &&& Int32.toUInt32 31)).toInt32 :: st) ws) : WA g K nL n1 n2 pc lv (.int y :: .int x :: st) ws := fun H locs ls hP hD hS hl => lv_iushr fx.1 fx.2.1 d rfl (k H locs ls hP hD hS hl)
theorem wa_lshl (fx : Fx g K rm cc nL rt own) {x : Int64} {y : Int32} (d : decode cc pc = .ok (.lshl, 1))  (k : WA g K nL n1 n2 (pc + 1) lv (.long (x <<< (y.toInt64 &&& 63)) :: st) ws) : WA g K nL n1 n2 pc lv (.int y :: .long x :: st) ws := fun H locs ls hP hD hS hl => lv_lshl fx.1 fx.2.1 d rfl (k H locs ls hP hD hS hl)
theorem wa_lcmp (fx : Fx g K rm cc nL rt own) {x y : Int64} (d : decode cc pc = .ok (.lcmp, 1))  (k : WA g K nL n1 n2 (pc + 1) lv (.int (lg_cmp x y) :: st) ws) : WA g K nL n1 n2 pc lv (.long y :: .long x :: st) ws := fun H locs ls hP hD hS hl => W.lcmp fx.1 fx.2.1 d  (k H locs ls hP hD hS hl)
theorem wa_dup (fx : Fx g K rm cc nL rt own) {va : Value} (d : decode cc pc = .ok (.dup, 1)) (hva : va.category = 1) (k : WA g K nL n1 n2 (pc + 1) lv (va :: va :: st) ws) : WA g K nL n1 n2 pc lv (va :: st) ws := fun H locs ls hP hD hS hl => lv_dup fx.1 fx.2.1 d hva (k H locs ls hP hD hS hl)
theorem wa_pop (fx : Fx g K rm cc nL rt own) {va : Value} (d : decode cc pc = .ok (.pop, 1)) (hva : va.category = 1) (k : WA g K nL n1 n2 (pc + 1) lv (st) ws) : WA g K nL n1 n2 pc lv (va :: st) ws := fun H locs ls hP hD hS hl => lv_pop fx.1 fx.2.1 d hva (k H locs ls hP hD hS hl)
theorem wa_dup2 (fx : Fx g K rm cc nL rt own) {va vb : Value} (d : decode cc pc = .ok (.dup2, 1)) (hva : va.category = 1) (hvb : vb.category = 1) (k : WA g K nL n1 n2 (pc + 1) lv (va :: vb :: va :: vb :: st) ws) : WA g K nL n1 n2 pc lv (va :: vb :: st) ws := fun H locs ls hP hD hS hl => lv_dup2_11 fx.1 fx.2.1 d hva hvb (k H locs ls hP hD hS hl)
theorem wa_ldc (fx : Fx g K rm cc nL rt own) {index : Nat} {v : Int32} (hw : Cond.constant own index v ∈ WT) (d : decode cc pc = .ok (.ldc index, 2)) (k : WA g K nL n1 n2 (pc + 2) lv (.int v :: st) ws) : WA g K nL n1 n2 pc lv st ws := fun H locs ls hP hD hS hl => lv_ldc fx.1 fx.2.1 fx.2.2.2.2.1 (fx.2.2.2.2.2.1 _ hw) d (k H locs ls hP hD hS hl)
theorem wa_ldcw (fx : Fx g K rm cc nL rt own) {index : Nat} {v : Int32} (hw : Cond.constant own index v ∈ WT) (d : decode cc pc = .ok (.ldc_w index, 3)) (k : WA g K nL n1 n2 (pc + 3) lv (.int v :: st) ws) : WA g K nL n1 n2 pc lv st ws := fun H locs ls hP hD hS hl => lv_ldcw fx.1 fx.2.1 fx.2.2.2.2.1 (fx.2.2.2.2.2.1 _ hw) d (k H locs ls hP hD hS hl)
theorem wa_ldc2 (fx : Fx g K rm cc nL rt own) {index : Nat} {v : Int64} (hw : Cond.constantLong own index v ∈ WT) (d : decode cc pc = .ok (.ldc2_w index, 3)) (k : WA g K nL n1 n2 (pc + 3) lv (.long v :: st) ws) : WA g K nL n1 n2 pc lv st ws := fun H locs ls hP hD hS hl => lv_ldc2 fx.1 fx.2.1 fx.2.2.2.2.1 (fx.2.2.2.2.2.1 _ hw) d (k H locs ls hP hD hS hl)
theorem wa_goto (fx : Fx g K rm cc nL rt own) {off : Int} (tgt : Nat) (d : decode cc pc = .ok (.goto off, 3)) (ht : (pc : Int) + off = (tgt : Int)) (k : WA g K nL n1 n2 tgt lv st ws) : WA g K nL n1 n2 pc lv st ws := fun H locs ls hP hD hS hl => lv_goto fx.1 fx.2.1 d ht (k H locs ls hP hD hS hl)
theorem wa_if_eq (fx : Fx g K rm cc nL rt own) {x : Int32} {off : Int} (tgt : Nat) (d : decode cc pc = .ok (.ifCond .eq off, 3)) (ht : (pc : Int) + off = (tgt : Int)) {ρ : Type} {A B r : ρ} (h : (if x = 0 then A else B) = r) (kt : A = r → WA g K nL n1 n2 tgt lv st ws) (kf : B = r → WA g K nL n1 n2 (pc + 3) lv st ws) : WA g K nL n1 n2 pc lv (.int x :: st) ws := fun H locs ls hP hD hS hl => lv_if_eq fx.1 fx.2.1 d ht (fun c => kt ((if_pos c).symm.trans h) H locs ls hP hD hS hl) (fun c => kf ((if_neg c).symm.trans h) H locs ls hP hD hS hl)
theorem wa_icmp_eq (fx : Fx g K rm cc nL rt own) {x y : Int32} {off : Int} (tgt : Nat) (d : decode cc pc = .ok (.if_icmp .eq off, 3)) (ht : (pc : Int) + off = (tgt : Int)) {ρ : Type} {A B r : ρ} (h : (if x = y then A else B) = r) (kt : A = r → WA g K nL n1 n2 tgt lv st ws) (kf : B = r → WA g K nL n1 n2 (pc + 3) lv st ws) : WA g K nL n1 n2 pc lv (.int y :: .int x :: st) ws := fun H locs ls hP hD hS hl => lv_icmp_eq fx.1 fx.2.1 d ht (fun c => kt ((if_pos c).symm.trans h) H locs ls hP hD hS hl) (fun c => kf ((if_neg c).symm.trans h) H locs ls hP hD hS hl)
theorem wa_if_ne (fx : Fx g K rm cc nL rt own) {x : Int32} {off : Int} (tgt : Nat) (d : decode cc pc = .ok (.ifCond .ne off, 3)) (ht : (pc : Int) + off = (tgt : Int)) {ρ : Type} {A B r : ρ} (h : (if x = 0 then A else B) = r) (kf : A = r → WA g K nL n1 n2 (pc + 3) lv st ws) (kt : B = r → WA g K nL n1 n2 tgt lv st ws) : WA g K nL n1 n2 pc lv (.int x :: st) ws := fun H locs ls hP hD hS hl => lv_if_ne fx.1 fx.2.1 d ht (fun c => kt ((if_neg c).symm.trans h) H locs ls hP hD hS hl) (fun c => kf ((if_pos c).symm.trans h) H locs ls hP hD hS hl)
theorem wa_icmp_ne (fx : Fx g K rm cc nL rt own) {x y : Int32} {off : Int} (tgt : Nat) (d : decode cc pc = .ok (.if_icmp .ne off, 3)) (ht : (pc : Int) + off = (tgt : Int)) {ρ : Type} {A B r : ρ} (h : (if x = y then A else B) = r) (kf : A = r → WA g K nL n1 n2 (pc + 3) lv st ws) (kt : B = r → WA g K nL n1 n2 tgt lv st ws) : WA g K nL n1 n2 pc lv (.int y :: .int x :: st) ws := fun H locs ls hP hD hS hl => lv_icmp_ne fx.1 fx.2.1 d ht (fun c => kt ((if_neg c).symm.trans h) H locs ls hP hD hS hl) (fun c => kf ((if_pos c).symm.trans h) H locs ls hP hD hS hl)
theorem wa_if_lt (fx : Fx g K rm cc nL rt own) {x : Int32} {off : Int} (tgt : Nat) (d : decode cc pc = .ok (.ifCond .lt off, 3)) (ht : (pc : Int) + off = (tgt : Int)) {ρ : Type} {A B r : ρ} (h : (if x < 0 then A else B) = r) (kt : A = r → WA g K nL n1 n2 tgt lv st ws) (kf : B = r → WA g K nL n1 n2 (pc + 3) lv st ws) : WA g K nL n1 n2 pc lv (.int x :: st) ws := fun H locs ls hP hD hS hl => lv_if_lt fx.1 fx.2.1 d ht (fun c => kt ((if_pos c).symm.trans h) H locs ls hP hD hS hl) (fun c => kf ((if_neg c).symm.trans h) H locs ls hP hD hS hl)
theorem wa_icmp_lt (fx : Fx g K rm cc nL rt own) {x y : Int32} {off : Int} (tgt : Nat) (d : decode cc pc = .ok (.if_icmp .lt off, 3)) (ht : (pc : Int) + off = (tgt : Int)) {ρ : Type} {A B r : ρ} (h : (if x < y then A else B) = r) (kt : A = r → WA g K nL n1 n2 tgt lv st ws) (kf : B = r → WA g K nL n1 n2 (pc + 3) lv st ws) : WA g K nL n1 n2 pc lv (.int y :: .int x :: st) ws := fun H locs ls hP hD hS hl => lv_icmp_lt fx.1 fx.2.1 d ht (fun c => kt ((if_pos c).symm.trans h) H locs ls hP hD hS hl) (fun c => kf ((if_neg c).symm.trans h) H locs ls hP hD hS hl)
theorem wa_if_ge (fx : Fx g K rm cc nL rt own) {x : Int32} {off : Int} (tgt : Nat) (d : decode cc pc = .ok (.ifCond .ge off, 3)) (ht : (pc : Int) + off = (tgt : Int)) {ρ : Type} {A B r : ρ} (h : (if 0 ≤ x then A else B) = r) (kt : A = r → WA g K nL n1 n2 tgt lv st ws) (kf : B = r → WA g K nL n1 n2 (pc + 3) lv st ws) : WA g K nL n1 n2 pc lv (.int x :: st) ws := fun H locs ls hP hD hS hl => lv_if_ge fx.1 fx.2.1 d ht (fun c => kt ((if_pos c).symm.trans h) H locs ls hP hD hS hl) (fun c => kf ((if_neg c).symm.trans h) H locs ls hP hD hS hl)
theorem wa_icmp_ge (fx : Fx g K rm cc nL rt own) {x y : Int32} {off : Int} (tgt : Nat) (d : decode cc pc = .ok (.if_icmp .ge off, 3)) (ht : (pc : Int) + off = (tgt : Int)) {ρ : Type} {A B r : ρ} (h : (if y ≤ x then A else B) = r) (kt : A = r → WA g K nL n1 n2 tgt lv st ws) (kf : B = r → WA g K nL n1 n2 (pc + 3) lv st ws) : WA g K nL n1 n2 pc lv (.int y :: .int x :: st) ws := fun H locs ls hP hD hS hl => lv_icmp_ge fx.1 fx.2.1 d ht (fun c => kt ((if_pos c).symm.trans h) H locs ls hP hD hS hl) (fun c => kf ((if_neg c).symm.trans h) H locs ls hP hD hS hl)
theorem wa_if_gt (fx : Fx g K rm cc nL rt own) {x : Int32} {off : Int} (tgt : Nat) (d : decode cc pc = .ok (.ifCond .gt off, 3)) (ht : (pc : Int) + off = (tgt : Int)) {ρ : Type} {A B r : ρ} (h : (if 0 < x then A else B) = r) (kt : A = r → WA g K nL n1 n2 tgt lv st ws) (kf : B = r → WA g K nL n1 n2 (pc + 3) lv st ws) : WA g K nL n1 n2 pc lv (.int x :: st) ws := fun H locs ls hP hD hS hl => lv_if_gt fx.1 fx.2.1 d ht (fun c => kt ((if_pos c).symm.trans h) H locs ls hP hD hS hl) (fun c => kf ((if_neg c).symm.trans h) H locs ls hP hD hS hl)
theorem wa_icmp_gt (fx : Fx g K rm cc nL rt own) {x y : Int32} {off : Int} (tgt : Nat) (d : decode cc pc = .ok (.if_icmp .gt off, 3)) (ht : (pc : Int) + off = (tgt : Int)) {ρ : Type} {A B r : ρ} (h : (if y < x then A else B) = r) (kt : A = r → WA g K nL n1 n2 tgt lv st ws) (kf : B = r → WA g K nL n1 n2 (pc + 3) lv st ws) : WA g K nL n1 n2 pc lv (.int y :: .int x :: st) ws := fun H locs ls hP hD hS hl => lv_icmp_gt fx.1 fx.2.1 d ht (fun c => kt ((if_pos c).symm.trans h) H locs ls hP hD hS hl) (fun c => kf ((if_neg c).symm.trans h) H locs ls hP hD hS hl)
theorem wa_if_le (fx : Fx g K rm cc nL rt own) {x : Int32} {off : Int} (tgt : Nat) (d : decode cc pc = .ok (.ifCond .le off, 3)) (ht : (pc : Int) + off = (tgt : Int)) {ρ : Type} {A B r : ρ} (h : (if x ≤ 0 then A else B) = r) (kt : A = r → WA g K nL n1 n2 tgt lv st ws) (kf : B = r → WA g K nL n1 n2 (pc + 3) lv st ws) : WA g K nL n1 n2 pc lv (.int x :: st) ws := fun H locs ls hP hD hS hl => lv_if_le fx.1 fx.2.1 d ht (fun c => kt ((if_pos c).symm.trans h) H locs ls hP hD hS hl) (fun c => kf ((if_neg c).symm.trans h) H locs ls hP hD hS hl)
theorem wa_icmp_le (fx : Fx g K rm cc nL rt own) {x y : Int32} {off : Int} (tgt : Nat) (d : decode cc pc = .ok (.if_icmp .le off, 3)) (ht : (pc : Int) + off = (tgt : Int)) {ρ : Type} {A B r : ρ} (h : (if x ≤ y then A else B) = r) (kt : A = r → WA g K nL n1 n2 tgt lv st ws) (kf : B = r → WA g K nL n1 n2 (pc + 3) lv st ws) : WA g K nL n1 n2 pc lv (.int y :: .int x :: st) ws := fun H locs ls hP hD hS hl => lv_icmp_le fx.1 fx.2.1 d ht (fun c => kt ((if_pos c).symm.trans h) H locs ls hP hD hS hl) (fun c => kf ((if_neg c).symm.trans h) H locs ls hP hD hS hl)
/-- a switch: the pure row goes through the cases one by one -/
def swt {ρ : Type} (x : Int32) (cs : List (Int32 × ρ)) (dflt : ρ) : ρ := match cs with
  | [] => dflt
  | c :: r => if x = c.1 then c.2 else swt x r dflt
theorem wa_table (fx : Fx g K rm cc nL rt own) {x : Int32} {dflt lo hi : Int} {offs : Array Int} {len : Nat} (d : decode cc pc = .ok (.tableswitch dflt lo hi offs, len)) (tg : Int → Nat) (htg : ∀ z : Int, lo ≤ z → z ≤ hi → ∃ off, offs[(z - lo).toNat]? = some off ∧ (pc : Int) + off = (tg z : Int)) (td : Nat) (htd : (pc : Int) + dflt = (td : Int))
    (kin : ∀ z : Int, lo ≤ z → z ≤ hi → x.toInt = z → WA g K nL n1 n2 (tg z) lv st ws) (kout : (x.toInt < lo ∨ hi < x.toInt) → WA g K nL n1 n2 td lv st ws) : WA g K nL n1 n2 pc lv (.int x :: st) ws := by
  intro H locs ls hP hD hS hl
  by_cases h1 : x.toInt < lo
  · exact lv_tableOut fx.1 fx.2.1 d (Or.inl h1) htd (kout (Or.inl h1) H locs ls hP hD hS hl)
  · by_cases h2 : hi < x.toInt
    · exact lv_tableOut fx.1 fx.2.1 d (Or.inr h2) htd (kout (Or.inr h2) H locs ls hP hD hS hl)
    · obtain ⟨off, ho, ht⟩ := htg x.toInt (by omega) (by omega)
      exact lv_tableIn fx.1 fx.2.1 d h1 h2 ho ht (kin x.toInt (by omega) (by omega) rfl H locs ls hP hD hS hl)
theorem wa_lookup (fx : Fx g K rm cc nL rt own) {x : Int32} {dflt : Int} {ps : Array (Int × Int)} {len : Nat} (d : decode cc pc = .ok (.lookupswitch dflt ps, len)) (hp : (ps.toList.zip (ps.toList.drop 1)).all (fun (a, next) => a.1 < next.1) = true) {off : Int} (tgt : Nat) (ho : Op.lookupswitch.offset ps.toList dflt x.toInt = off) (ht : (pc : Int) + off = (tgt : Int)) (k : WA g K nL n1 n2 tgt lv st ws) : WA g K nL n1 n2 pc lv (.int x :: st) ws := fun H locs ls hP hD hS hl => lv_lookup fx.1 fx.2.1 d hp ho ht (k H locs ls hP hD hS hl)
theorem wa_sub {lv2 : List (Nat × Value)} (js : List Nat) (hj : lv_pick lv js = lv2) (k : WA g K nL n1 n2 pc lv2 st ws) : WA g K nL n1 n2 pc lv st ws := fun H locs ls hP hD hS hl => k H locs ls hP hD hS (lv_sub hl js hj)
theorem wa_eqi {x y : Int32} (e : x = y) (k : WA g K nL n1 n2 pc lv (.int y :: st) ws) : WA g K nL n1 n2 pc lv (.int x :: st) ws := e ▸ k

theorem wa_get (fx : Fx g K rm cc nL rt own) {ref C : String} {T : u_T} {N ci index a : Nat} (hin : ∀ w ∈ u_ws C T N, w ∈ WT) (q0 : Nat) {fs : List Value} (he : ws[q0]? = some (a, .inr (ci, fs))) (hc : vwCl[ci]? = some (C, T, N)) (k0 : Nat) (hk : k0 < N) (hlw : Cond.fieldLink own index ref (T k0).2.1 (T k0).2.2.1 ∈ WT) (hsame : (T k0).1 = ref) {v : Value} (hv : fs[k0]? = some v) (d : decode cc pc = .ok (.getfield index, 3)) (k : WA g K nL n1 n2 (pc + 3) lv (v :: st) ws) : WA g K nL n1 n2 pc lv (.ref a :: st) ws :=
  fun H locs ls hP hD hS hl => va_get (ci := ci) (C := C) (T := T) (N := N) fx.1 fx.2.1 fx.2.2.2.2.2.1 hin fx.2.2.2.2.1 fx.2.2.2.2.2.2.2.1 hP q0 he hc k0 hk (fx.2.2.2.2.2.1 _ hlw) (fun _ h9 => by rw [← hsame]; exact h9) hv d (k H locs ls hP hD hS hl)
theorem wa_put {σ : Type} (wf : σ → va_W) (fx : Fx g K rm cc nL rt own) {ref C : String} {T : u_T} {N ci index a : Nat} (hin : ∀ w ∈ u_ws C T N, w ∈ WT) (ty0 : Nat → FieldType) (hty : ∀ k, k < N → parseFieldDescriptor (T k).2.2.1 = some (ty0 k)) (hnm : ∀ a, a < N → ∀ b, b < N → a ≠ b → (T a).2.1 ≠ (T b).2.1) (q0 : Nat) {fs : List Value} (he : ws[q0]? = some (a, .inr (ci, fs))) (hc : vwCl[ci]? = some (C, T, N)) (k0 : Nat) (hk : k0 < N) (hlw : Cond.fieldLink own index ref (T k0).2.1 (T k0).2.2.1 ∈ WT) (hsame : (T k0).1 = ref) (hfin : (T k0).2.2.2 = false) {v : Value} (hn : narrow (ty0 k0) v = v) (hfit : fits (ty0 k0) v = true) (hl0 : k0 < fs.length)
    (d : decode cc pc = .ok (.putfield index, 3)) {ρ : Type} {s2 : σ} {kk : σ → ρ} {r : ρ} (h : nm s2 kk = r) (e : ws.set q0 (a, .inr (ci, fs.set k0 v)) = wf s2) (k : ∀ y, kk y = r → WA g K nL n1 n2 (pc + 3) lv st (wf y)) : WA g K nL n1 n2 pc lv (v :: .ref a :: st) ws :=
  fun H locs ls hP hD hS hl => va_put (ci := ci) (v := v) (ty := ty0 k0) (C := C) (T := T) (N := N) fx.1 fx.2.1 fx.2.2.2.2.2.1 hin ty0 hty hnm fx.2.2.2.2.1 fx.2.2.2.2.2.2.2.1 hP hD hS q0 he hc k0 hk (fx.2.2.2.2.2.1 _ hlw) (fun _ h9 => by rw [← hsame]; exact h9) hfin (hty k0 hk) hn hfit hl0 d (fun H1 locs1 hP hD hS => k s2 h H1 locs1 ls (by rw [← e]; exact hP) (by rw [← e]; exact hD) hS hl)
theorem wa_iald (fx : Fx g K rm cc nL rt own) (q0 : Nat) {n a : Nat} {f : Nat → Int32} (ha : ws[q0]? = some (a, .inl (g.2.1, n, .inl f))) {i : Int32} (d : decode cc pc = .ok (.iaload, 1)) {ρ : Type} {A : Option ρ} {r : ρ} (h : ck i n A = some r) (k : A = some r → WA g K nL n1 n2 (pc + 1) lv (.int (f i.toNatClampNeg) :: st) ws) : WA g K nL n1 n2 pc lv (.int i :: .ref a :: st) ws :=
  fun H locs ls hP hD hS hl => va_iald fx.1 fx.2.1 fx.2.2.2.2.2.2.2.1 hP q0 0 ha rfl (of_ck h).1 d (k (of_ck h).2 H locs ls hP hD hS hl)
theorem wa_lald (fx : Fx g K rm cc nL rt own) (q0 : Nat) {n a : Nat} {f : Nat → Int64} (ha : ws[q0]? = some (a, .inl (g.2.2.1, n, .inr (.inl f)))) {i : Int32} (d : decode cc pc = .ok (.laload, 1)) {ρ : Type} {A : Option ρ} {r : ρ} (h : ck i n A = some r) (k : A = some r → WA g K nL n1 n2 (pc + 1) lv (.long (f i.toNatClampNeg) :: st) ws) : WA g K nL n1 n2 pc lv (.int i :: .ref a :: st) ws :=
  fun H locs ls hP hD hS hl => va_lald fx.1 fx.2.1 fx.2.2.2.2.2.2.2.1 hP q0 1 ha rfl (of_ck h).1 d (k (of_ck h).2 H locs ls hP hD hS hl)
theorem wa_aald (fx : Fx g K rm cc nL rt own) (q0 : Nat) {n a : Nat} {f : Nat → Option Nat} (ha : ws[q0]? = some (a, .inl (g.2.2.2.1, n, .inr (.inr (.inr (.inr f)))))) {i : Int32} (d : decode cc pc = .ok (.aaload, 1)) {ρ : Type} {A : Option ρ} {r : ρ} (h : ck i n A = some r) (k : i.toNatClampNeg < n → A = some r → WA g K nL n1 n2 (pc + 1) lv (va_rf (f i.toNatClampNeg) :: st) ws) : WA g K nL n1 n2 pc lv (.int i :: .ref a :: st) ws :=
  fun H locs ls hP hD hS hl => va_aldq fx.1 fx.2.1 fx.2.2.2.2.2.2.2.1 hP q0 2 ha rfl (of_ck h).1 d (k (Nat.not_le.mp fun q => (of_ck h).1 (Or.inr q)) (of_ck h).2 H locs ls hP hD hS hl)
theorem wa_iast {σ : Type} (wf : σ → va_W) (fx : Fx g K rm cc nL rt own) (q0 : Nat) {n a : Nat} {f : Nat → Int32} (ha : ws[q0]? = some (a, .inl (g.2.1, n, .inl f))) {i x : Int32} (d : decode cc pc = .ok (.iastore, 1)) {ρ : Type} {s2 : σ} {kk : σ → Option ρ} {r : ρ} (h : ck i n (nm s2 kk) = some r) (e : ws.set q0 (a, .inl (g.2.1, n, .inl (upd f i.toNatClampNeg x))) = wf s2) (k : ∀ y, kk y = some r → WA g K nL n1 n2 (pc + 1) lv st (wf y)) : WA g K nL n1 n2 pc lv (.int x :: .int i :: .ref a :: st) ws :=
  fun H locs ls hP hD hS hl => va_iast fx.1 fx.2.1 fx.2.2.2.2.2.2.2.1 hP hD hS q0 0 ha rfl (of_ck h).1 d (fun H1 locs1 hP hD hS => k s2 (of_ck h).2 H1 locs1 ls (by rw [← e]; exact hP) (by rw [← e]; exact hD) hS hl)
theorem wa_last {σ : Type} (wf : σ → va_W) (fx : Fx g K rm cc nL rt own) (q0 : Nat) {n a : Nat} {f : Nat → Int64} (ha : ws[q0]? = some (a, .inl (g.2.2.1, n, .inr (.inl f)))) {i : Int32} {x : Int64} (d : decode cc pc = .ok (.lastore, 1)) {ρ : Type} {s2 : σ} {kk : σ → Option ρ} {r : ρ} (h : ck i n (nm s2 kk) = some r) (e : ws.set q0 (a, .inl (g.2.2.1, n, .inr (.inl (vp_updL f i.toNatClampNeg x)))) = wf s2) (k : ∀ y, kk y = some r → WA g K nL n1 n2 (pc + 1) lv st (wf y)) : WA g K nL n1 n2 pc lv (.long x :: .int i :: .ref a :: st) ws :=
  fun H locs ls hP hD hS hl => va_last fx.1 fx.2.1 fx.2.2.2.2.2.2.2.1 hP hD hS q0 1 ha rfl (of_ck h).1 d (fun H1 locs1 hP hD hS => k s2 (of_ck h).2 H1 locs1 ls (by rw [← e]; exact hP) (by rw [← e]; exact hD) hS hl)
theorem wa_alen (fx : Fx g K rm cc nL rt own) (q0 t0 : Nat) {a : Nat} {cA : ClassId} {x : vp_A} (ha : ws[q0]? = some (a, .inl (cA, x))) {ty : FieldType} (ht : (gT g)[t0]? = some (cA, ty)) (v : Int32) (hv : Int32.ofNat x.1 = v) (d : decode cc pc = .ok (.arraylength, 1)) (k : WA g K nL n1 n2 (pc + 1) lv (.int v :: st) ws) : WA g K nL n1 n2 pc lv (.ref a :: st) ws :=
  fun H locs ls hP hD hS hl => va_alen fx.1 fx.2.1 fx.2.2.2.2.2.2.2.1 hP q0 t0 ha ht hv d (k H locs ls hP hD hS hl)
-- ends
theorem fn_i {σ : Type} (wf : σ → va_W) (fx : Fx g K rm cc nL (some .int) own) {x r : Int32} {s1 s2 : σ} (hf : Fn g K (wf s2) (some (.int r))) (hx : x = r) (hs : s1 = s2) (d : decode cc pc = .ok (.ireturn, 1)) : WA g K nL 0 0 pc lv [.int x] (wf s1) := by
  subst hx; subst hs
  intro H locs ls hP hD hS hl
  obtain ⟨w0, hA, hQ⟩ := hf
  rw [hQ]
  exact W.iret fx.1 fx.2.1 fx.2.2.1 (fun t ht hW => ⟨⟨rfl, by rw [ht]; exact hP, by rw [← hA]; exact hD⟩, by rw [← hA]; exact hS.F ht⟩) hS.2.2 d fx.2.2.2.2.2.2.1
theorem fn_z {σ : Type} (wf : σ → va_W) {ty : FieldType} (fx : Fx g K rm cc nL (some ty) own) {x r : Int32} {s1 s2 : σ} (hf : Fn g K (wf s2) (some (.int r))) (hn : narrow ty (.int x) = .int x) (hx : x = r) (hs : s1 = s2) (d : decode cc pc = .ok (.ireturn, 1)) : WA g K nL 0 0 pc lv [.int x] (wf s1) := by
  subst hx; subst hs
  intro H locs ls hP hD hS hl
  obtain ⟨w0, hA, hQ⟩ := hf
  rw [hQ]
  exact W.zret fx.1 fx.2.1 fx.2.2.1 hn (fun t ht hW => ⟨⟨rfl, by rw [ht]; exact hP, by rw [← hA]; exact hD⟩, by rw [← hA]; exact hS.F ht⟩) hS.2.2 d fx.2.2.2.2.2.2.1
theorem fn_l {σ : Type} (wf : σ → va_W) (fx : Fx g K rm cc nL (some .long) own) {x r : Int64} {s1 s2 : σ} (hf : Fn g K (wf s2) (some (.long r))) (hx : x = r) (hs : s1 = s2) (d : decode cc pc = .ok (.lreturn, 1)) : WA g K nL 0 0 pc lv [.long x] (wf s1) := by
  subst hx; subst hs
  intro H locs ls hP hD hS hl
  obtain ⟨w0, hA, hQ⟩ := hf
  rw [hQ]
  exact W.lret fx.1 fx.2.1 fx.2.2.1 (fun t ht hW => ⟨⟨rfl, by rw [ht]; exact hP, by rw [← hA]; exact hD⟩, by rw [← hA]; exact hS.F ht⟩) hS.2.2 d fx.2.2.2.2.2.2.1
theorem fn_v {σ : Type} (wf : σ → va_W) (fx : Fx g K rm cc nL none own) {s1 s2 : σ} (hf : Fn g K (wf s2) none) (hs : s1 = s2) (d : decode cc pc = .ok (.return_, 1)) : WA g K nL 0 0 pc lv [] (wf s1) := by
  subst hs
  intro H locs ls hP hD hS hl
  obtain ⟨w0, hA, hQ⟩ := hf
  rw [hQ]
  exact W.vret fx.1 fx.2.1 fx.2.2.1 (fun t ht hW => ⟨⟨rfl, by rw [ht]; exact hP, by rw [← hA]; exact hD⟩, by rw [← hA]; exact hS.F ht⟩) hS.2.2 d fx.2.2.2.2.2.2.1
end
-- calls
theorem Ct.blind {g : GT} {av : List Value} {ws : va_W} {sz : Nat} : FrameBlind (CtPre g av ws sz) := by
  intro a U f mk h
  obtain ⟨h0, h1, h2, h3, h4, h5⟩ := h
  exact ⟨h0, h1, h2, va_K.moved (u := U) (U := U.calling f mk a) (Vm.Alike.refl U.vm) h3, h4, Ev.same (u := U) rfl h5⟩
theorem Ct.pre {g : GT} {K : KT} {rm : Room} {cc : ByteArray} {nL : Nat} {rt : Option FieldType} {own : String} {ws wr wc : va_W} {H : Heap} {locs : List Loc} (fx : Fx g K rm cc nL rt own) (hsp : ws.Perm (wr ++ wc)) (hP : va_P g.1 vwCl ws H) (hD : va_D (kA K) ws) (hS : va_S (kA K) (ks K).heap H locs) (av : List Value) : ∀ U : State, U.heap = H → (ks K).WarmedH U.vm → CtPre g av wc H.size av.toArray U := by
  intro U hU hW
  refine ⟨rfl, by rw [hU], ?_, va_K.moved hW.alike fx.2.2.2.2.2.2.2.1, ?_, ?_⟩
  · rw [hU]
    intro k q hq
    obtain ⟨i, hi⟩ := List.getElem?_of_mem (List.mem_append_right wr (List.mem_of_getElem? hq))
    exact (P_perm hsp hP) i q hi
  · have h1 := D_iff.mp (D_perm hsp hD)
    refine D_iff.mpr ⟨?_, fun _ _ => trivial⟩
    have h2 := h1.1
    rw [List.map_append, List.nodup_append] at h2
    exact h2.2.1
  · rw [hU]
    exact ((fx.2.2.2.2.2.2.2.2.2.1.kept hS.2.1).narrow (A_perm hsp hD hS fx.2.2.2.2.2.2.2.2.1)).warm hW
def MV (y : MethodName) (bytes : ByteArray) (maxL : Nat) (ret : Option FieldType) (C : String) (n : Nat) : Prop :=
  Cond.instanceMethod y ∈ WT ∧ Cond.selects C y y ∈ WT ∧ Cond.initialized C ∈ WT ∧ Cond.code y bytes maxL ret ∈ WT ∧ (y.cls = C ∧ y.cls ≠ "java/lang/invoke/MethodHandle" ∧ y.cls ≠ "java/lang/invoke/VarHandle" ∧ (parseMethodDescriptor y.desc).map (fun d => d.parameters.length) = some n)
def MS (y : MethodName) (bytes : ByteArray) (maxL : Nat) (ret : Option FieldType) (n : Nat) : Prop :=
  Cond.static y ∈ WT ∧ Cond.initialized y.cls ∈ WT ∧ Cond.code y bytes maxL ret ∈ WT ∧ (y.cls ≠ "java/lang/invoke/MethodHandle" ∧ y.cls ≠ "java/lang/invoke/VarHandle" ∧ (parseMethodDescriptor y.desc).map (fun d => d.parameters.length) = some n)
theorem gd_of {w : Cond} (h : w ∈ WT) : w ∈ WT ∧ ((w.onTables && w.keeps) = true ∨ ∃ ty, w = .arrayClass ty) := ⟨h, good_of_word (WT_good w h)⟩
theorem good_wd {y : MethodName} {bytes : ByteArray} {maxL : Nat} {ret : Option FieldType} (h : Cond.code y bytes maxL ret ∈ WT) : GoodIn WT (wd y bytes maxL ret) := by
  intro w hw
  rcases List.mem_cons.mp hw with rfl | hw
  · exact gd_of h
  · exact gd_of hw
theorem good_V {y : MethodName} {bytes : ByteArray} {maxL : Nat} {ret : Option FieldType} {C own : String} {n idx : Nat} (m : MV y bytes maxL ret C n) (hl : Cond.methodLink own idx y ∈ WT) : GoodIn WT (wsV own idx C y (wd y bytes maxL ret)) := by
  intro w hw
  rcases List.mem_append.mp hw with hw | hw
  · rcases List.mem_cons.mp hw with rfl | hw
    · exact gd_of hl
    · rcases List.mem_cons.mp hw with rfl | hw
      · exact gd_of m.1
      · rcases List.mem_cons.mp hw with rfl | hw
        · exact gd_of m.2.1
        · rcases List.mem_cons.mp hw with rfl | hw
          · exact gd_of m.2.2.1
          · exact absurd hw List.not_mem_nil
  · exact good_wd m.2.2.2.1 w hw
theorem good_S {y : MethodName} {bytes : ByteArray} {maxL : Nat} {ret : Option FieldType} {own : String} {n idx : Nat} (m : MS y bytes maxL ret n) (hl : Cond.methodLink own idx y ∈ WT) : GoodIn WT (va_wsS own idx y (wd y bytes maxL ret)) := by
  intro w hw
  rcases List.mem_append.mp hw with hw | hw
  · rcases List.mem_cons.mp hw with rfl | hw
    · exact gd_of hl
    · rcases List.mem_cons.mp hw with rfl | hw
      · exact gd_of m.1
      · rcases List.mem_cons.mp hw with rfl | hw
        · exact gd_of m.2.1
        · exact absurd hw List.not_mem_nil
  · exact good_wd m.2.2.1 w hw
section
variable {g : GT} {K : KT} {rm rmc : Room} {cc bytes : ByteArray} {nL n1 n2 pc maxL n index : Nat} {rt ret : Option FieldType} {own C : String} {lv : List (Nat × Value)} {st : List Value} {ws wc wr : va_W} {y : MethodName}
/-- behind a call: the run that va_Run gives, with a contract's end -/
theorem wa_ret {β ρ : Type} {a : Array Value} {H : Heap} {locs : List Loc} {ls : Array Slot} {stk : List Value} {wcz w2 : va_W} {o : Option Value} (fx : Fx g K rm cc nL rt own) (hsp : ws.Perm (wr ++ wc)) (hsp2 : w2.Perm (wr ++ wcz)) (hP : va_P g.1 vwCl ws H) (hD : va_D (kA K) ws) (hS : va_S (kA K) (ks K).heap H locs) (hl : lv_has ls nL lv)
    (hr : va_Run (kp K) (kl K) (ke K) (kR K) (ks K) (km K) (ka K) (kb K) (kt K) (kc K) H locs n1 n2 0 0 (F0 (km K) pc ls stk) st (CtPost g wc wcz H.size o a) (va_A wc H.size)) (k : WA g K nL n1 n2 (pc + 3) lv (o.toList ++ st) w2) : W (kp K) (kl K) (ke K) (kR K) (ks K) (km K) (ka K) (kb K) (kt K) (kc K) H locs n1 n2 (kQ K) (F0 (km K) pc ls stk) := by
  intro T hT X
  obtain ⟨v, st0, t, T', L, h0, X', hL, e1, e2, ⟨⟨hv, hP1, hD1⟩, hz, hk⟩, hst⟩ := hr T hT X
  cases hv
  rw [h0] at hz hk
  rw [← e1] at hP1 hz hk
  have hF := A_perm hsp hD hS fx.2.2.2.2.2.2.2.2.1
  have hJ := J_perm hsp hP hD hS fx.2.2.2.2.2.2.2.2.1 hk hP1 hD1
  obtain ⟨t2, a1, b1⟩ := k T'.heap (locs ++ L) ls (P_perm hsp2.symm hJ.1) (D_perm hsp2.symm hJ.2)
    ⟨Nat.le_trans hS.1 hz, fun q h1 h2 => by rw [hk q (Nat.lt_of_lt_of_le h1 hS.1) (fun z => h2 (hF q z))]; exact hS.2.1 q h1 h2, fun q hq => by
      rcases List.mem_append.mp hq with h | h
      · exact hS.2.2 q h
      · exact hF _ (hL q h)⟩ hl T' rfl X'
  exact ⟨t2, hst t2 a1, b1⟩
/-- an instance method of ours, by its contract -/
theorem wa_V {β ρ : Type} (fx : Fx g K rm cc nL rt own) (mv : MV y bytes maxL ret C n) (hlk : Cond.methodLink own index y ∈ WT) (d : decode cc pc = .ok (.invokevirtual index, 3)) {b : Nat} {As : List Value} {fc : Option β} {kk : β → Option ρ} {r : ρ} (h : Option.bind fc kk = some r) {wcz w2 : β → va_W} {o : β → Option Value} {s2 : β → List Value}
    (ct : ∀ z, fc = some z → Ct g (kl K) y (wd y bytes maxL ret) rmc (.ref b :: As) wc (wcz z) (o z)) {ci q0 : Nat} {T : u_T} {N : Nat} {fs : List Value} (hc : vwCl[ci]? = some (C, T, N)) (hb : wc[q0]? = some (b, .inr (ci, fs))) (hrm : rmc.cells = 0 ∧ rmc.slots = 0 ∧ rmc.frames + 1 ≤ rm.frames ∧ 8 + (maxL + 11) + rmc.locals ≤ rm.locals) (hn1 : n1 ≤ rm.cells ∧ n2 ≤ rm.slots) (hlen : As.length = n)
    (hsp : ws.Perm (wr ++ wc)) (hsp2 : ∀ z, (w2 z).Perm (wr ++ wcz z)) {stk : List Value} (hstk : stk = As.reverse ++ .ref b :: st) (hcat : (st.map fun v => v.category).sum ≤ 8) (hs2 : ∀ z, s2 z = (o z).toList ++ st) (k : ∀ z, kk z = some r → WA g K nL n1 n2 (pc + 3) lv (s2 z) (w2 z)) : WA g K nL n1 n2 pc lv stk ws := by
  intro H locs ls hP hD hS hl
  obtain ⟨z, hz, hk⟩ := of_bind h
  have hR : kR K = rm := fx.2.2.2.2.2.2.2.2.2.2
  have hr := va_runV (rest := st) (As := As) (b := b) (C := C) (n := n) (g := F0 (km K) pc ls stk) (below := kb K) (meth := kt K) (locs := locs) (cells := n1) (slots := n2) (e := ke K) ⟨fx.1, fx.2.1, fx.2.2.2.1, fx.2.2.2.2.1, fx.2.2.2.2.2.1⟩ (ct z hz H.size) (R := kR K) (cwV n fx.2.2.2.2.2.1 (good_V mv hlk) rfl hrm.1 hrm.2.1 mv.2.2.2.2 ⟨by rw [hR]; exact hrm.2.2.1, by rw [hR]; exact hrm.2.2.2⟩)
    ⟨Ct.blind, va_recv (ci := ci) (q0 := q0) fx.2.2.2.2.2.2.2.1 (fun k q hq => by
      obtain ⟨i, hi⟩ := List.getElem?_of_mem (List.mem_append_right wr (List.mem_of_getElem? hq))
      exact (P_perm hsp hP) i q hi) hc hb, Ct.pre fx hsp hP hD hS _⟩ rfl hlen hl.1 hstk (lv_room hcat) d (by rw [hR]; exact hn1)
  exact wa_ret (β := Unit) (ρ := Unit) fx hsp (hsp2 z) hP hD hS hl hr (by rw [← hs2]; exact k z hk)
/-- a static method of ours, by its contract -/
theorem wa_S {β ρ : Type} (fx : Fx g K rm cc nL rt own) (ms : MS y bytes maxL ret n) (hlk : Cond.methodLink own index y ∈ WT) (d : decode cc pc = .ok (.invokestatic index, 3)) {As : List Value} {fc : Option β} {kk : β → Option ρ} {r : ρ} (h : Option.bind fc kk = some r) {wcz w2 : β → va_W} {o : β → Option Value} {s2 : β → List Value}
    (ct : ∀ z, fc = some z → Ct g (kl K) y (wd y bytes maxL ret) rmc As wc (wcz z) (o z)) (hrm : rmc.cells = 0 ∧ rmc.slots = 0 ∧ rmc.frames + 1 ≤ rm.frames ∧ 8 + (maxL + 11) + rmc.locals ≤ rm.locals) (hn1 : n1 ≤ rm.cells ∧ n2 ≤ rm.slots) (hlen : As.length = n)
    (hsp : ws.Perm (wr ++ wc)) (hsp2 : ∀ z, (w2 z).Perm (wr ++ wcz z)) {stk : List Value} (hstk : stk = As.reverse ++ st) (hcat : (st.map fun v => v.category).sum ≤ 8) (hs2 : ∀ z, s2 z = (o z).toList ++ st) (k : ∀ z, kk z = some r → WA g K nL n1 n2 (pc + 3) lv (s2 z) (w2 z)) : WA g K nL n1 n2 pc lv stk ws := by
  intro H locs ls hP hD hS hl
  obtain ⟨z, hz, hk⟩ := of_bind h
  have hR : kR K = rm := fx.2.2.2.2.2.2.2.2.2.2
  have hr := va_runS (rest := st) (As := As) (n := n) (g := F0 (km K) pc ls stk) (below := kb K) (meth := kt K) (locs := locs) (cells := n1) (slots := n2) (e := ke K) ⟨fx.1, fx.2.1, fx.2.2.2.1, fx.2.2.2.2.1, fx.2.2.2.2.2.1⟩ (ct z hz H.size) (R := kR K) (va_cwS n fx.2.2.2.2.2.1 (good_S ms hlk) rfl hrm.1 hrm.2.1 ms.2.2.2 ⟨by rw [hR]; exact hrm.2.2.1, by rw [hR]; exact hrm.2.2.2⟩)
    ⟨Ct.blind, Ct.pre fx hsp hP hD hS _⟩ rfl hlen hl.1 hstk (lv_room hcat) d (by rw [hR]; exact hn1)
  exact wa_ret (β := Unit) (ρ := Unit) fx hsp (hsp2 z) hP hD hS hl hr (by rw [← hs2]; exact k z hk)
/-- a private static method of a nest mate -/
theorem wa_SN {β ρ : Type} (fx : Fx g K rm cc nL rt own) (ms : MS y bytes maxL ret n) (hlk : va_Nw (.methodLinkNest own index y "WindowChairs") (ks K)) (d : decode cc pc = .ok (.invokestatic index, 3)) {As : List Value} {fc : Option β} {kk : β → Option ρ} {r : ρ} (h : Option.bind fc kk = some r) {wcz w2 : β → va_W} {o : β → Option Value} {s2 : β → List Value}
    (ct : ∀ z, fc = some z → Ct g (kl K) y (wd y bytes maxL ret) rmc As wc (wcz z) (o z)) (hrm : rmc.cells = 0 ∧ rmc.slots = 0 ∧ rmc.frames + 1 ≤ rm.frames ∧ 8 + (maxL + 11) + rmc.locals ≤ rm.locals) (hn1 : n1 ≤ rm.cells ∧ n2 ≤ rm.slots) (hlen : As.length = n)
    (hsp : ws.Perm (wr ++ wc)) (hsp2 : ∀ z, (w2 z).Perm (wr ++ wcz z)) {stk : List Value} (hstk : stk = As.reverse ++ st) (hcat : (st.map fun v => v.category).sum ≤ 8) (hs2 : ∀ z, s2 z = (o z).toList ++ st) (k : ∀ z, kk z = some r → WA g K nL n1 n2 (pc + 3) lv (s2 z) (w2 z)) : WA g K nL n1 n2 pc lv stk ws := by
  intro H locs ls hP hD hS hl
  obtain ⟨z, hz, hk⟩ := of_bind h
  have hR : kR K = rm := fx.2.2.2.2.2.2.2.2.2.2
  have hr := va_runSN (rest := st) (As := As) (n := n) (g := F0 (km K) pc ls stk) (below := kb K) (meth := kt K) (locs := locs) (cells := n1) (slots := n2) (e := ke K) (host := "WindowChairs") ⟨fx.1, fx.2.1, fx.2.2.2.1, fx.2.2.2.2.1, fx.2.2.2.2.2.1⟩ (ct z hz H.size) (R := kR K) ⟨va_cnB n fx.2.2.2.2.2.1 (good_wd ms.2.2.1) rfl hrm.1 hrm.2.1 hlk (fx.2.2.2.2.2.1 _ ms.2.1) ms.2.2.2 ⟨by rw [hR]; exact hrm.2.2.1, by rw [hR]; exact hrm.2.2.2⟩, fx.2.2.2.2.2.1 _ ms.1, trivial⟩
    ⟨Ct.blind, Ct.pre fx hsp hP hD hS _⟩ rfl hlen hl.1 hstk (lv_room hcat) d (by rw [hR]; exact hn1)
  exact wa_ret (β := Unit) (ρ := Unit) fx hsp (hsp2 z) hP hD hS hl hr (by rw [← hs2]; exact k z hk)
end
theorem rm_ok {h h2 maxL : Nat} (hh : h + 1 ≤ h2) (hm : maxL ≤ 21) : (rmh h).cells = 0 ∧ (rmh h).slots = 0 ∧ (rmh h).frames + 1 ≤ (rmh h2).frames ∧ 8 + (maxL + 11) + (rmh h).locals ≤ (rmh h2).locals := by
  refine ⟨rfl, rfl, hh, ?_⟩
  show 8 + (maxL + 11) + 40 * h ≤ 40 * h2
  omega

