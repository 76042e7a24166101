theorem sn1 {α β : Type} {x : α} {y : β} {r : α × β} (h : some (x, y) = some r) : x = r.1 := congrArg Prod.fst (Option.some.inj h)
theorem sn2 {α β : Type} {x : α} {y : β} {r : α × β} (h : some (x, y) = some r) : y = r.2 := congrArg Prod.snd (Option.some.inj h)
def flI (f : Nat → Int32) (n : Nat) (v : Int32) : Nat → Int32 := fun j => if j < n then v else f j
def flL (f : Nat → Int64) (n : Nat) (v : Int64) : Nat → Int64 := fun j => if j < n then v else f j
def sx_c (i j : Nat) : Int32 := (sx_b.getD i []).getD j 0
def cks {α : Type} (i : Nat) (A : Option α) : Option α := if i < 14 then A else none
theorem of_cks {α : Type} {i : Nat} {A : Option α} {r : α} (h : cks i A = some r) : i < 14 ∧ A = some r := by
  unfold cks at h
  by_cases hc : i < 14
  · rw [if_pos hc] at h; exact ⟨hc, h⟩
  · rw [if_neg hc] at h; cases h
def cpk {α : Type} (sp dp n : Int32) (n0 n1 : Nat) (A : Option α) : Option α := if sp < 0 ∨ dp < 0 ∨ n < 0 ∨ n0 < sp.toNatClampNeg + n.toNatClampNeg ∨ n1 < dp.toNatClampNeg + n.toNatClampNeg then none else A
theorem of_cpk {α : Type} {sp dp n : Int32} {n0 n1 : Nat} {A : Option α} {r : α} (h : cpk sp dp n n0 n1 A = some r) : (¬ sp < 0 ∧ ¬ dp < 0 ∧ ¬ n < 0 ∧ sp.toNatClampNeg + n.toNatClampNeg ≤ n0 ∧ dp.toNatClampNeg + n.toNatClampNeg ≤ n1) ∧ A = some r := by
  unfold cpk at h
  by_cases hc : sp < 0 ∨ dp < 0 ∨ n < 0 ∨ n0 < sp.toNatClampNeg + n.toNatClampNeg ∨ n1 < dp.toNatClampNeg + n.toNatClampNeg
  · rw [if_pos hc] at h; cases h
  · rw [if_neg hc] at h
    refine ⟨⟨fun c => hc (Or.inl c), fun c => hc (Or.inr (Or.inl c)), fun c => hc (Or.inr (Or.inr (Or.inl c))), Nat.not_lt.mp fun c => hc (Or.inr (Or.inr (Or.inr (Or.inl c)))), Nat.not_lt.mp fun c => hc (Or.inr (Or.inr (Or.inr (Or.inr c))))⟩, h⟩
theorem nfw : nativeFrameWords "java/lang/System" "arraycopy" 5 = 7 := by decide +kernel
section
variable {g : GT} {K : KT} {rm : Room} {cc : ByteArray} {nL n1 n2 pc : Nat} {rt : Option FieldType} {own : String} {lv : List (Nat × Value)} {st : List Value} {ws : va_W}
theorem wa_tabI (fx : Fx g K rm cc nL rt own) {x : Int32} {dflt lo hi : Int} {offs : Array Int} {len : Nat} (tgt : Nat) (z : Int) (d : decode cc pc = .ok (.tableswitch dflt lo hi offs, len)) (hx : x.toInt = z) (h1 : lo ≤ z) (h2 : z ≤ hi) {off : Int} (ho : offs[(z - lo).toNat]? = some off) (ht : (pc : Int) + off = (tgt : Int)) (k : WA g K nL n1 n2 tgt lv st ws) : WA g K nL n1 n2 pc lv (.int x :: st) ws :=
  fun H locs ls hP hD hS hl => lv_tableIn fx.1 fx.2.1 d (by rw [hx]; omega) (by rw [hx]; omega) (by rw [hx]; exact ho) ht (k H locs ls hP hD hS hl)
theorem wa_tabD (fx : Fx g K rm cc nL rt own) {x : Int32} {dflt lo hi : Int} {offs : Array Int} {len : Nat} (td : Nat) (d : decode cc pc = .ok (.tableswitch dflt lo hi offs, len)) (ht : (pc : Int) + dflt = (td : Int)) (ks : List Int32) (hall : ((List.range (hi - lo + 1).toNat).all (fun j => ((ks.map Int32.toInt).contains (lo + (j : Int))) || offs[j]? == some dflt)) = true) (hne : ∀ k ∈ ks, ¬ x = k) (k : WA g K nL n1 n2 td lv st ws) : WA g K nL n1 n2 pc lv (.int x :: st) ws := by
  intro H locs ls hP hD hS hl
  by_cases h1 : x.toInt < lo
  · exact lv_tableOut fx.1 fx.2.1 d (Or.inl h1) ht (k H locs ls hP hD hS hl)
  · by_cases h2 : hi < x.toInt
    · exact lv_tableOut fx.1 fx.2.1 d (Or.inr h2) ht (k H locs ls hP hD hS hl)
    · have hm : (x.toInt - lo).toNat ∈ List.range (hi - lo + 1).toNat := List.mem_range.mpr (by omega)
      have h3 := List.all_eq_true.mp hall _ hm
      have e : lo + ((x.toInt - lo).toNat : Int) = x.toInt := by omega
      rw [e, Bool.or_eq_true] at h3
      rcases h3 with h3 | h3
      · have h4 := List.contains_iff_mem.mp h3
        obtain ⟨k0, hk0, e0⟩ := List.mem_map.mp h4
        exact absurd (Int32.toInt_inj.mp e0).symm (hne k0 hk0)
      · exact lv_tableIn fx.1 fx.2.1 d h1 h2 (eq_of_beq h3) ht (k H locs ls hP hD hS hl)
theorem wa_ldcs (fx : Fx g K rm cc nL rt RX2) (i : Nat) (hi : i < 14) {idx : Nat} (hx : sx_i.getD i 0 = idx) (d : decode cc pc = .ok (.ldc idx, 2)) (k : WA g K nL n1 n2 (pc + 2) lv (.ref (g.2.2.2.2.2.1 i) :: st) ws) : WA g K nL n1 n2 pc lv st ws :=
  fun H locs ls hP hD hS hl => va_ldcS fx.1 fx.2.1 fx.2.2.2.2.1 (by rw [← hx]; exact fx.2.2.2.2.2.2.2.2.2.1.2.2.2.2.1 i hi) d (k H locs ls hP hD hS hl)
theorem fn_s {σ : Type} (wf : σ → va_W) {C : String} (fx : Fx g K rm cc nL (some (.object C)) own) {i r : Nat} {s1 s2 : σ} (hf : Fn g K (wf s2) (some (.ref (g.2.2.2.2.2.1 r)))) (hx : i = r) (hs : s1 = s2) (d : decode cc pc = .ok (.areturn, 1)) : WA g K nL 0 0 pc lv [.ref (g.2.2.2.2.2.1 i)] (wf s1) := by
  subst hx; subst hs
  intro H locs ls hP hD hS hl
  obtain ⟨w0, hA, hQ⟩ := hf
  rw [hQ]
  exact W.aret fx.1 fx.2.1 fx.2.2.1 (Or.inl ⟨C, rfl⟩) (Or.inr ⟨_, rfl⟩) (fun t ht hW => ⟨⟨rfl, by rw [ht]; exact hP, by rw [← hA]; exact hD⟩, by rw [← hA]; exact hS.F ht⟩) hS.2.2 d fx.2.2.2.2.2.2.1
theorem wa_ka (fx : Fx g K rm cc nL rt own) {index : Nat} (hw : Cond.fieldLink own index "WindowChairs" "KIND_ABOVE" "[I" ∈ WT) (d : decode cc pc = .ok (.getstatic index, 3)) (k : WA g K nL n1 n2 (pc + 3) lv (.ref g.2.2.2.2.1 :: st) ws) : WA g K nL n1 n2 pc lv st ws :=
  fun H locs ls hP hD hS hl => va_gets fx.1 fx.2.1 fx.2.2.2.2.2.2.2.2.2.1.1 hS fx.2.2.2.2.1 (fx.2.2.2.2.2.1 _ hw) (fun _ h => h) d (k H locs ls hP hD hS hl)
theorem wa_kald (fx : Fx g K rm cc nL rt own) {i : Int32} (d : decode cc pc = .ok (.iaload, 1)) {ρ : Type} {A : Option ρ} {r : ρ} (h : ck i 6 A = some r) (k : A = some r → WA g K nL n1 n2 (pc + 1) lv (.int (kaF i.toNatClampNeg) :: st) ws) : WA g K nL n1 n2 pc lv (.int i :: .ref g.2.2.2.2.1 :: st) ws :=
  fun H locs ls hP hD hS hl => va_ti fx.1 fx.2.1 fx.2.2.2.2.2.2.2.2.2.1.2.1 hS (of_ck h).1 rfl d (k (of_ck h).2 H locs ls hP hD hS hl)
theorem wa_aaldN (ad : Nat → Nat) {G : Nat → StT} (fx : Fx g K rm cc nL rt own) {i : Int32} (d : decode cc pc = .ok (.aaload, 1)) {ρ : Type} {kk : Nat → Option ρ} {r : ρ} (h : ck i 4 (nm i.toNatClampNeg kk) = some r) (k : ∀ j : Nat, j < 4 → kk j = some r → WA g K nL n1 n2 (pc + 1) lv (.ref (adr ad (34 + 2 * j) 0) :: st) (wc_ws g ad G)) : WA g K nL n1 n2 pc lv (.int i :: .ref (ad 33) :: st) (wc_ws g ad G) :=
  wa_aald (f := fun k => some (adr ad (34 + 2 * k) 0)) fx 1 rfl d h (fun hlt h => k _ hlt h)
theorem wa_mmax {h0 : Nat} (fx : Fx g K (rmh (h0 + 1)) cc nL rt own) {index : Nat} (hw : Cond.methodLink own index Lib.Math.max.name ∈ WT) (d : decode cc pc = .ok (.invokestatic index, 3)) {x y : Int32} (hc : (st.map fun v => v.category).sum ≤ 8) (hn : n1 ≤ 0 ∧ n2 ≤ 0) (k : WA g K nL n1 n2 (pc + 3) lv (.int (if x < y then y else x) :: st) ws) : WA g K nL n1 n2 pc lv (.int y :: .int x :: st) ws := by
  intro H locs ls hP hD hS hl
  have hR : kR K = rmh (h0 + 1) := fx.2.2.2.2.2.2.2.2.2.2
  exact va_mmax fx.1 fx.2.1 (by rw [fx.2.2.2.1]; exact hl.1.symm) fx.2.2.2.2.1 (fx.2.2.2.2.2.1 _ hw) (fx.2.2.2.2.2.1 _ q_21_6) (fx.2.2.2.2.2.1 _ q_21_7) (fx.2.2.2.2.2.1 _ q_21_8) (by rw [hR]; exact Nat.le_add_left 1 h0) (by rw [hR]; show _ ≤ 40 * (h0 + 1); omega) (by rw [hR]; exact hn.1) (by rw [hR]; exact hn.2) d (k H locs ls hP hD hS hl)
theorem wa_mmin {h0 : Nat} (fx : Fx g K (rmh (h0 + 1)) cc nL rt own) {index : Nat} (hw : Cond.methodLink own index Lib.Math.min.name ∈ WT) (d : decode cc pc = .ok (.invokestatic index, 3)) {x y : Int32} (hc : (st.map fun v => v.category).sum ≤ 8) (hn : n1 ≤ 0 ∧ n2 ≤ 0) (k : WA g K nL n1 n2 (pc + 3) lv (.int (if y < x then y else x) :: st) ws) : WA g K nL n1 n2 pc lv (.int y :: .int x :: st) ws := by
  intro H locs ls hP hD hS hl
  have hR : kR K = rmh (h0 + 1) := fx.2.2.2.2.2.2.2.2.2.2
  exact va_mmin fx.1 fx.2.1 (by rw [fx.2.2.2.1]; exact hl.1.symm) fx.2.2.2.2.1 (fx.2.2.2.2.2.1 _ hw) (fx.2.2.2.2.2.1 _ q_26_15) (fx.2.2.2.2.2.1 _ q_21_7) (fx.2.2.2.2.2.1 _ q_26_16) (by rw [hR]; exact Nat.le_add_left 1 h0) (by rw [hR]; show _ ≤ 40 * (h0 + 1); omega) (by rw [hR]; exact hn.1) (by rw [hR]; exact hn.2) d (k H locs ls hP hD hS hl)
theorem wa_copyi {σ : Type} (wf : σ → va_W) {h0 : Nat} (fx : Fx g K (rmh (h0 + 1)) cc nL rt own) {index : Nat} (hw : Cond.methodLink own index arraycopyName ∈ WT) (q0 q1 : Nat) {a0 a m0 m1 : Nat} {f f2 : Nat → Int32} (ha0 : ws[q0]? = some (a0, .inl (g.2.1, m0, .inl f))) (ha1 : ws[q1]? = some (a, .inl (g.2.1, m1, .inl f2))) (d : decode cc pc = .ok (.invokestatic index, 3)) {sp dp n : Int32} (hc : (st.map fun v => v.category).sum ≤ 8) {ρ : Type} {s2 : σ} {kk : σ → Option ρ} {r : ρ} (h : cpk sp dp n m0 m1 (nm s2 kk) = some r) (e : ws.set q1 (a, .inl (g.2.1, m1, .inl (va_cpy f f2 sp.toNatClampNeg dp.toNatClampNeg n.toNatClampNeg))) = wf s2) (k : ∀ y, kk y = some r → WA g K nL n1 n2 (pc + 3) lv st (wf y)) : WA g K nL n1 n2 pc lv (.int n :: .int dp :: .ref a :: .int sp :: .ref a0 :: st) ws := by
  intro H locs ls hP hD hS hl
  have hR : kR K = rmh (h0 + 1) := fx.2.2.2.2.2.2.2.2.2.2
  obtain ⟨⟨c1, c2, c3, c4, c5⟩, h⟩ := of_cpk h
  exact va_copyi (ty := .int) fx.1 fx.2.1 (by rw [fx.2.2.2.1]; exact hl.1.symm) fx.2.2.2.2.1 (fx.2.2.2.2.2.1 _ hw) (fx.2.2.2.2.2.1 _ q_19_1) (fx.2.2.2.2.2.1 _ q_19_2) (fx.2.2.2.2.2.1 _ q_19_3) fx.2.2.2.2.2.2.2.1 hP hD hS q0 q1 0 0 ha0 ha1 rfl rfl rfl c1 c2 c3 c4 c5 (fun _ _ => rfl) (by rw [hR]; exact Nat.le_add_left 1 h0) (by rw [hR]; show _ + (nativeFrameWords "java/lang/System" "arraycopy" 5 + 11) ≤ 40 * (h0 + 1); have := nfw; omega) d (fun H1 locs1 hP hD hS => k s2 h H1 locs1 ls (by rw [← e]; exact hP) (by rw [← e]; exact hD) hS hl)
theorem wa_copyl {σ : Type} (wf : σ → va_W) {h0 : Nat} (fx : Fx g K (rmh (h0 + 1)) cc nL rt own) {index : Nat} (hw : Cond.methodLink own index arraycopyName ∈ WT) (q0 q1 : Nat) {a0 a m0 m1 : Nat} {f f2 : Nat → Int64} (ha0 : ws[q0]? = some (a0, .inl (g.2.2.1, m0, .inr (.inl f)))) (ha1 : ws[q1]? = some (a, .inl (g.2.2.1, m1, .inr (.inl f2)))) (d : decode cc pc = .ok (.invokestatic index, 3)) {sp dp n : Int32} (hc : (st.map fun v => v.category).sum ≤ 8) {ρ : Type} {s2 : σ} {kk : σ → Option ρ} {r : ρ} (h : cpk sp dp n m0 m1 (nm s2 kk) = some r) (e : ws.set q1 (a, .inl (g.2.2.1, m1, .inr (.inl (va_cpy f f2 sp.toNatClampNeg dp.toNatClampNeg n.toNatClampNeg)))) = wf s2) (k : ∀ y, kk y = some r → WA g K nL n1 n2 (pc + 3) lv st (wf y)) : WA g K nL n1 n2 pc lv (.int n :: .int dp :: .ref a :: .int sp :: .ref a0 :: st) ws := by
  intro H locs ls hP hD hS hl
  have hR : kR K = rmh (h0 + 1) := fx.2.2.2.2.2.2.2.2.2.2
  obtain ⟨⟨c1, c2, c3, c4, c5⟩, h⟩ := of_cpk h
  exact va_copyl (ty := .long) fx.1 fx.2.1 (by rw [fx.2.2.2.1]; exact hl.1.symm) fx.2.2.2.2.1 (fx.2.2.2.2.2.1 _ hw) (fx.2.2.2.2.2.1 _ q_19_1) (fx.2.2.2.2.2.1 _ q_19_2) (fx.2.2.2.2.2.1 _ q_19_3) fx.2.2.2.2.2.2.2.1 hP hD hS q0 q1 1 1 ha0 ha1 rfl rfl rfl c1 c2 c3 c4 c5 (fun _ _ => rfl) (by rw [hR]; exact Nat.le_add_left 1 h0) (by rw [hR]; show _ + (nativeFrameWords "java/lang/System" "arraycopy" 5 + 11) ≤ 40 * (h0 + 1); have := nfw; omega) d (fun H1 locs1 hP hD hS => k s2 h H1 locs1 ls (by rw [← e]; exact hP) (by rw [← e]; exact hD) hS hl)
end

theorem mm_J0_charAt_5068e : MV yJ0_charAt_5068e cJ0_charAt_5068e 2 (some .char) RJ0 1 := ⟨q_28_1, q_28_2, q_27_15, q_28_3, by decide +kernel⟩
theorem mm_J0_checkIndex_df160 : MS yJ0_checkIndex_df160 cJ0_checkIndex_df160 2 none 2 := ⟨q_28_13, q_27_15, q_28_14, by decide +kernel⟩
theorem mm_J0_coder_7d493 : MV yJ0_coder_7d493 cJ0_coder_7d493 1 (some .byte) RJ0 0 := ⟨q_27_19, q_27_20, q_27_15, q_27_21, by decide +kernel⟩
theorem mm_J0_isLatin1_aae02 : MV yJ0_isLatin1_aae02 cJ0_isLatin1_aae02 1 (some .boolean) RJ0 0 := ⟨q_28_5, q_28_6, q_27_15, q_28_7, by decide +kernel⟩
theorem mm_J0_length_8abf5 : MV yJ0_length_8abf5 cJ0_length_8abf5 1 (some .int) RJ0 0 := ⟨q_27_13, q_27_14, q_27_15, q_27_16, by decide +kernel⟩
theorem mm_J1_charAt_3b067 : MS yJ1_charAt_3b067 cJ1_charAt_3b067 2 (some .char) 2 := ⟨q_28_9, q_28_10, q_28_11, by decide +kernel⟩
theorem mm_J3_checkIndex_8e157 : MS yJ3_checkIndex_8e157 cJ3_checkIndex_8e157 3 (some .int) 3 := ⟨q_28_17, q_28_18, q_28_19, by decide +kernel⟩
theorem mm_J6_bitCount_0f7a4 : MS yJ6_bitCount_0f7a4 cJ6_bitCount_0f7a4 1 (some .int) 1 := ⟨q_39_19, q_39_20, q_39_21, by decide +kernel⟩
theorem mm_J7_fill_53178 : MS yJ7_fill_53178 cJ7_fill_53178 4 none 2 := ⟨q_2_21, q_2_22, q_2_23, by decide +kernel⟩
theorem mm_J7_fill_d0a16 : MS yJ7_fill_d0a16 cJ7_fill_d0a16 5 none 2 := ⟨q_34_22, q_2_22, q_34_23, by decide +kernel⟩
theorem mm_X0_areAtOdds : MV yX0_areAtOdds cX0_areAtOdds 3 (some .boolean) RX0 2 := ⟨q_11_5, q_11_6, q_1_15, q_11_7, by decide +kernel⟩
theorem mm_X0_become : MV yX0_become cX0_become 2 none RX0 1 := ⟨q_18_21, q_18_22, q_1_15, q_18_23, by decide +kernel⟩
theorem mm_X0_emptyChairs : MV yX0_emptyChairs cX0_emptyChairs 3 (some .int) RX0 0 := ⟨q_17_21, q_17_22, q_1_15, q_17_23, by decide +kernel⟩
theorem mm_X0_enter : MV yX0_enter cX0_enter 3 (some .int) RX0 1 := ⟨q_7_2, q_7_3, q_1_15, q_7_4, by decide +kernel⟩
theorem mm_X0_givesUp : MV yX0_givesUp cX0_givesUp 2 (some .int) RX0 1 := ⟨q_8_10, q_8_11, q_1_15, q_8_12, by decide +kernel⟩
theorem mm_X0_hasSun : MV yX0_hasSun cX0_hasSun 2 (some .boolean) RX0 0 := ⟨q_13_22, q_13_23, q_1_15, q_14_0, by decide +kernel⟩
theorem mm_X0_howWell : MV yX0_howWell cX0_howWell 4 (some .int) RX0 2 := ⟨q_13_14, q_13_15, q_1_15, q_13_16, by decide +kernel⟩
theorem mm_X0_howWellNow : MV yX0_howWellNow cX0_howWellNow 2 (some .int) RX0 1 := ⟨q_22_16, q_22_17, q_1_15, q_22_18, by decide +kernel⟩
theorem mm_X0_isFreeFor : MV yX0_isFreeFor cX0_isFreeFor 3 (some .boolean) RX0 2 := ⟨q_24_12, q_24_13, q_1_15, q_24_14, by decide +kernel⟩
theorem mm_X0_likes : MV yX0_likes cX0_likes 5 (some .int) RX0 2 := ⟨q_13_18, q_13_19, q_1_15, q_13_20, by decide +kernel⟩
theorem mm_X0_minds : MV yX0_minds cX0_minds 4 (some .int) RX0 2 := ⟨q_14_3, q_14_4, q_1_15, q_14_5, by decide +kernel⟩
theorem mm_X0_movesToEmpty : MV yX0_movesToEmpty cX0_movesToEmpty 6 (some .boolean) RX0 1 := ⟨q_15_22, q_15_23, q_1_15, q_16_0, by decide +kernel⟩
theorem mm_X0_pairsAtOdds : MV yX0_pairsAtOdds cX0_pairsAtOdds 3 (some .int) RX0 0 := ⟨q_40_2, q_40_3, q_1_15, q_40_4, by decide +kernel⟩
theorem mm_X0_pass : MV yX0_pass cX0_pass 4 (some .int) RX0 1 := ⟨q_15_14, q_15_15, q_1_15, q_15_16, by decide +kernel⟩
theorem mm_X0_passOne : MV yX0_passOne cX0_passOne 3 (some .int) RX0 0 := ⟨q_15_18, q_15_19, q_1_15, q_15_20, by decide +kernel⟩
theorem mm_X0_putAtOdds : MV yX0_putAtOdds cX0_putAtOdds 4 none RX0 3 := ⟨q_11_9, q_11_10, q_1_15, q_11_11, by decide +kernel⟩
theorem mm_X0_seat : MV yX0_seat cX0_seat 3 none RX0 2 := ⟨q_12_9, q_12_10, q_1_15, q_12_11, by decide +kernel⟩
theorem mm_X0_swap : MV yX0_swap cX0_swap 5 none RX0 2 := ⟨q_12_22, q_12_23, q_1_15, q_13_0, by decide +kernel⟩
theorem mm_X0_takesItsClaim : MV yX0_takesItsClaim cX0_takesItsClaim 4 (some .boolean) RX0 1 := ⟨q_16_4, q_16_5, q_1_15, q_16_6, by decide +kernel⟩
theorem mm_X0_together : MV yX0_together cX0_together 3 (some .int) RX0 0 := ⟨q_17_17, q_17_18, q_1_15, q_17_19, by decide +kernel⟩
theorem mm_X0_whoSits : MV yX0_whoSits cX0_whoSits 3 (some .int) RX0 0 := ⟨q_17_13, q_17_14, q_1_15, q_17_15, by decide +kernel⟩
theorem mm_X1_cut : MV yX1_cut cX1_cut 3 (some .long) RX1 1 := ⟨q_35_19, q_35_20, q_2_3, q_35_21, by decide +kernel⟩
theorem mm_X1_has : MV yX1_has cX1_has 3 (some .boolean) RX1 2 := ⟨q_36_17, q_36_18, q_2_3, q_36_19, by decide +kernel⟩
theorem mm_X1_isMissing : MV yX1_isMissing cX1_isMissing 1 (some .boolean) RX1 0 := ⟨q_35_15, q_35_16, q_2_3, q_35_17, by decide +kernel⟩
theorem mm_X1_renew : MV yX1_renew cX1_renew 3 (some .int) RX1 2 := ⟨q_34_16, q_34_17, q_2_3, q_34_18, by decide +kernel⟩
theorem mm_X2_append : MV yX2_append cX2_append 2 none RX2 1 := ⟨q_25_1, q_25_2, q_1_22, q_25_3, by decide +kernel⟩
theorem mm_X2_comesTo : MV yX2_comesTo cX2_comesTo 3 (some .boolean) RX2 1 := ⟨q_26_2, q_26_3, q_1_22, q_26_4, by decide +kernel⟩
theorem mm_X2_isNumber : MV yX2_isNumber cX2_isNumber 2 (some .boolean) RX2 1 := ⟨q_30_3, q_30_4, q_1_22, q_30_5, by decide +kernel⟩
theorem mm_X2_isWord : MV yX2_isWord cX2_isWord 3 (some .boolean) RX2 1 := ⟨q_27_9, q_27_10, q_1_22, q_27_11, by decide +kernel⟩
theorem mm_X2_kindNamed : MV yX2_kindNamed cX2_kindNamed 2 (some .int) RX2 0 := ⟨q_27_2, q_27_3, q_1_22, q_27_4, by decide +kernel⟩
theorem mm_X2_nameOf : MS yX2_nameOf cX2_nameOf 1 (some (.object "java/lang/String")) 1 := ⟨q_27_6, q_1_22, q_27_7, by decide +kernel⟩
theorem mm_X2_sortAt : MV yX2_sortAt cX2_sortAt 3 (some .int) RX2 1 := ⟨q_26_18, q_26_19, q_1_22, q_26_20, by decide +kernel⟩
theorem mm_X2_step : MV yX2_step cX2_step 1 none RX2 0 := ⟨q_26_9, q_26_10, q_1_22, q_26_11, by decide +kernel⟩
theorem mm_X2_takesChair : MV yX2_takesChair cX2_takesChair 3 (some .boolean) RX2 1 := ⟨q_30_8, q_30_9, q_1_22, q_30_10, by decide +kernel⟩
theorem mm_X2_takesItem : MV yX2_takesItem cX2_takesItem 3 (some .boolean) RX2 1 := ⟨q_26_22, q_26_23, q_1_22, q_27_0, by decide +kernel⟩
theorem mm_X2_takesPerhaps : MV yX2_takesPerhaps cX2_takesPerhaps 5 (some .boolean) RX2 4 := ⟨q_29_23, q_30_0, q_1_22, q_30_1, by decide +kernel⟩
theorem mm_X2_takesPerson : MV yX2_takesPerson cX2_takesPerson 4 (some .boolean) RX2 2 := ⟨q_29_14, q_29_15, q_1_22, q_29_16, by decide +kernel⟩
theorem mm_X2_takesTwo : MV yX2_takesTwo cX2_takesTwo 4 (some .boolean) RX2 2 := ⟨q_30_14, q_30_15, q_1_22, q_30_16, by decide +kernel⟩
theorem mm_X3_always : MV yX3_always cX3_always 4 (some .int) RX3 1 := ⟨q_24_0, q_24_1, q_1_2, q_24_2, by decide +kernel⟩
theorem mm_X3_areTwo : MV yX3_areTwo cX3_areTwo 3 (some .boolean) RX3 2 := ⟨q_11_1, q_11_2, q_1_2, q_11_3, by decide +kernel⟩
theorem mm_X3_as : MV yX3_as cX3_as 3 (some .int) RX3 2 := ⟨q_10_5, q_10_6, q_1_2, q_10_7, by decide +kernel⟩
theorem mm_X3_beside : MV yX3_beside cX3_beside 6 (some .int) RX3 1 := ⟨q_24_8, q_24_9, q_1_2, q_24_10, by decide +kernel⟩
theorem mm_X3_best : MV yX3_best cX3_best 3 (some .int) RX3 0 := ⟨q_20_23, q_21_0, q_1_2, q_21_1, by decide +kernel⟩
theorem mm_X3_book : MV yX3_book cX3_book 5 (some .int) RX3 2 := ⟨q_37_10, q_37_11, q_1_2, q_37_12, by decide +kernel⟩
theorem mm_X3_chair : MV yX3_chair cX3_chair 6 (some .int) RX3 3 := ⟨q_4_6, q_4_7, q_1_2, q_4_8, by decide +kernel⟩
theorem mm_X3_chairOf : MV yX3_chairOf cX3_chairOf 3 (some .int) RX3 2 := ⟨q_5_21, q_5_22, q_1_2, q_5_23, by decide +kernel⟩
theorem mm_X3_change : MV yX3_change cX3_change 3 (some .int) RX3 2 := ⟨q_12_18, q_12_19, q_1_2, q_12_20, by decide +kernel⟩
theorem mm_X3_claim : MV yX3_claim cX3_claim 7 (some .int) RX3 2 := ⟨q_23_8, q_23_9, q_1_2, q_23_10, by decide +kernel⟩
theorem mm_X3_copy : MV yX3_copy cX3_copy 8 (some .int) RX3 5 := ⟨q_36_11, q_36_12, q_1_2, q_36_13, by decide +kernel⟩
theorem mm_X3_count : MV yX3_count cX3_count 2 (some .int) RX3 1 := ⟨q_39_15, q_39_16, q_1_2, q_39_17, by decide +kernel⟩
theorem mm_X3_feed : MV yX3_feed cX3_feed 4 (some .int) RX3 2 := ⟨q_24_20, q_24_21, q_1_2, q_24_22, by decide +kernel⟩
theorem mm_X3_finding : MV yX3_finding cX3_finding 2 (some .int) RX3 1 := ⟨q_4_18, q_4_19, q_1_2, q_4_20, by decide +kernel⟩
theorem mm_X3_gets : MV yX3_gets cX3_gets 4 (some .int) RX3 2 := ⟨q_20_15, q_20_16, q_1_2, q_20_17, by decide +kernel⟩
theorem mm_X3_goesAsTold : MV yX3_goesAsTold cX3_goesAsTold 4 (some .boolean) RX3 2 := ⟨q_38_2, q_38_3, q_1_2, q_38_4, by decide +kernel⟩
theorem mm_X3_hours : MV yX3_hours cX3_hours 2 (some .int) RX3 1 := ⟨q_15_8, q_15_9, q_1_2, q_15_10, by decide +kernel⟩
theorem mm_X3_image : MV yX3_image cX3_image 1 (some .int) RX3 0 := ⟨q_38_14, q_38_15, q_1_2, q_38_16, by decide +kernel⟩
theorem mm_X3_isChair : MS yX3_isChair cX3_isChair 1 (some .boolean) 1 := ⟨q_4_12, q_1_2, q_4_13, by decide +kernel⟩
theorem mm_X3_isKind : MS yX3_isKind cX3_isKind 1 (some .boolean) 1 := ⟨q_6_23, q_1_2, q_7_0, by decide +kernel⟩
theorem mm_X3_isOfKind : MS yX3_isOfKind cX3_isOfKind 4 (some .boolean) 2 := ⟨q_10_9, q_1_2, q_10_10, by decide +kernel⟩
theorem mm_X3_isSheet : MS yX3_isSheet cX3_isSheet 1 (some .boolean) 1 := ⟨q_34_13, q_1_2, q_34_14, by decide +kernel⟩
theorem mm_X3_isThere : MV yX3_isThere cX3_isThere 2 (some .boolean) RX3 1 := ⟨q_8_6, q_8_7, q_1_2, q_8_8, by decide +kernel⟩
theorem mm_X3_isWithin : MS yX3_isWithin cX3_isWithin 3 (some .boolean) 3 := ⟨q_4_15, q_1_2, q_4_16, by decide +kernel⟩
theorem mm_X3_kind : MV yX3_kind cX3_kind 7 (some .int) RX3 2 := ⟨q_22_12, q_22_13, q_1_2, q_22_14, by decide +kernel⟩
theorem mm_X3_lays : MV yX3_lays cX3_lays 7 (some .int) RX3 1 := ⟨q_37_1, q_37_2, q_1_2, q_37_3, by decide +kernel⟩
theorem mm_X3_mend : MV yX3_mend cX3_mend 6 (some .int) RX3 1 := ⟨q_22_0, q_22_1, q_1_2, q_22_2, by decide +kernel⟩
theorem mm_X3_mostPeace : MS yX3_mostPeace cX3_mostPeace 6 (some .int) 4 := ⟨q_21_3, q_1_2, q_21_4, by decide +kernel⟩
theorem mm_X3_now : MV yX3_now cX3_now 2 (some .int) RX3 1 := ⟨q_17_8, q_17_9, q_1_2, q_17_10, by decide +kernel⟩
theorem mm_X3_of : MV yX3_of cX3_of 3 (some .int) RX3 2 := ⟨q_7_20, q_7_21, q_1_2, q_7_22, by decide +kernel⟩
theorem mm_X3_on : MV yX3_on cX3_on 4 (some .int) RX3 3 := ⟨q_18_17, q_18_18, q_1_2, q_18_19, by decide +kernel⟩
theorem mm_X3_peace : MV yX3_peace cX3_peace 2 (some .int) RX3 1 := ⟨q_19_17, q_19_18, q_1_2, q_19_19, by decide +kernel⟩
theorem mm_X3_person : MV yX3_person cX3_person 2 (some .int) RX3 1 := ⟨q_6_18, q_6_19, q_1_2, q_6_20, by decide +kernel⟩
theorem mm_X3_put : MV yX3_put cX3_put 7 (some .int) RX3 5 := ⟨q_9_7, q_9_8, q_1_2, q_9_9, by decide +kernel⟩
theorem mm_X3_quarrel : MV yX3_quarrel cX3_quarrel 5 (some .int) RX3 3 := ⟨q_10_21, q_10_22, q_1_2, q_10_23, by decide +kernel⟩
theorem mm_X3_read : MV yX3_read cX3_read 7 (some .int) RX3 2 := ⟨q_37_22, q_37_23, q_1_2, q_38_0, by decide +kernel⟩
theorem mm_X3_room : MV yX3_room cX3_room 2 (some .int) RX3 0 := ⟨q_25_20, q_25_21, q_1_2, q_25_22, by decide +kernel⟩
theorem mm_X3_set : MV yX3_set cX3_set 4 (some .int) RX3 3 := ⟨q_9_3, q_9_4, q_1_2, q_9_5, by decide +kernel⟩
theorem mm_X3_settles : MV yX3_settles cX3_settles 2 (some .int) RX3 0 := ⟨q_20_5, q_20_6, q_1_2, q_20_7, by decide +kernel⟩
theorem mm_X3_sheet : MV yX3_sheet cX3_sheet 4 (some .int) RX3 3 := ⟨q_34_9, q_34_10, q_1_2, q_34_11, by decide +kernel⟩
theorem mm_X3_sit : MV yX3_sit cX3_sit 4 (some .int) RX3 2 := ⟨q_12_5, q_12_6, q_1_2, q_12_7, by decide +kernel⟩
theorem mm_X3_status : MV yX3_status cX3_status 4 (some .int) RX3 1 := ⟨q_40_15, q_40_16, q_1_2, q_40_17, by decide +kernel⟩
theorem mm_X3_tear : MV yX3_tear cX3_tear 2 (some .int) RX3 0 := ⟨q_39_7, q_39_8, q_1_2, q_39_9, by decide +kernel⟩
theorem mm_X3_turn : MV yX3_turn cX3_turn 3 (some .int) RX3 2 := ⟨q_9_21, q_9_22, q_1_2, q_9_23, by decide +kernel⟩
theorem mm_X3_undo : MV yX3_undo cX3_undo 1 (some .int) RX3 0 := ⟨q_38_23, q_39_0, q_1_2, q_39_1, by decide +kernel⟩
theorem mm_X3_well : MV yX3_well cX3_well 3 (some .int) RX3 2 := ⟨q_13_10, q_13_11, q_1_2, q_13_12, by decide +kernel⟩
theorem mm_X3_wipe : MV yX3_wipe cX3_wipe 2 (some .int) RX3 0 := ⟨q_25_12, q_25_13, q_1_2, q_25_14, by decide +kernel⟩
theorem mm_X3_write : MV yX3_write cX3_write 8 (some .long) RX3 3 := ⟨q_35_9, q_35_10, q_1_2, q_35_11, by decide +kernel⟩
theorem mm_X3_years : MV yX3_years cX3_years 5 (some .int) RX3 3 := ⟨q_23_16, q_23_17, q_1_2, q_23_18, by decide +kernel⟩
theorem mm_X4_adds : MV yX4_adds cX4_adds 3 (some .int) RX4 1 := ⟨q_7_16, q_7_17, q_1_5, q_7_18, by decide +kernel⟩
theorem mm_X4_always : MV yX4_always cX4_always 5 (some .int) RX4 1 := ⟨q_24_4, q_24_5, q_1_5, q_24_6, by decide +kernel⟩
theorem mm_X4_areTwo : MV yX4_areTwo cX4_areTwo 3 (some .boolean) RX4 2 := ⟨q_11_17, q_11_18, q_1_5, q_11_19, by decide +kernel⟩
theorem mm_X4_as : MV yX4_as cX4_as 3 (some .int) RX4 2 := ⟨q_10_13, q_10_14, q_1_5, q_10_15, by decide +kernel⟩
theorem mm_X4_becomes : MV yX4_becomes cX4_becomes 4 (some .int) RX4 2 := ⟨q_5_13, q_5_14, q_1_5, q_5_15, by decide +kernel⟩
theorem mm_X4_beside : MV yX4_beside cX4_beside 9 (some .int) RX4 1 := ⟨q_24_16, q_24_17, q_1_5, q_24_18, by decide +kernel⟩
theorem mm_X4_best : MV yX4_best cX4_best 3 (some .int) RX4 0 := ⟨q_21_10, q_21_11, q_1_5, q_21_12, by decide +kernel⟩
theorem mm_X4_bestBy : MV yX4_bestBy cX4_bestBy 11 (some .int) RX4 5 := ⟨q_23_0, q_23_1, q_1_5, q_23_2, by decide +kernel⟩
theorem mm_X4_bestEmpty : MV yX4_bestEmpty cX4_bestEmpty 7 (some .int) RX4 1 := ⟨q_17_4, q_17_5, q_1_5, q_17_6, by decide +kernel⟩
theorem mm_X4_book : MV yX4_book cX4_book 6 (some .int) RX4 2 := ⟨q_37_14, q_37_15, q_1_5, q_37_16, by decide +kernel⟩
theorem mm_X4_byteAt : MV yX4_byteAt cX4_byteAt 2 (some .int) RX4 1 := ⟨q_31_10, q_31_11, q_1_5, q_31_12, by decide +kernel⟩
theorem mm_X4_chair : MV yX4_chair cX4_chair 5 (some .int) RX4 3 := ⟨q_4_23, q_5_0, q_1_5, q_5_1, by decide +kernel⟩
theorem mm_X4_chairAt : MS yX4_chairAt cX4_chairAt 2 (some .int) 2 := ⟨q_4_3, q_1_5, q_4_4, by decide +kernel⟩
theorem mm_X4_chairItem : MV yX4_chairItem cX4_chairItem 2 none RX4 0 := ⟨q_33_23, q_34_0, q_1_5, q_34_1, by decide +kernel⟩
theorem mm_X4_chairOf : MV yX4_chairOf cX4_chairOf 3 (some .int) RX4 2 := ⟨q_6_2, q_6_3, q_1_5, q_6_4, by decide +kernel⟩
theorem mm_X4_change : MV yX4_change cX4_change 3 (some .int) RX4 2 := ⟨q_13_2, q_13_3, q_1_5, q_13_4, by decide +kernel⟩
theorem mm_X4_changes : MV yX4_changes cX4_changes 4 none RX4 2 := ⟨q_13_6, q_13_7, q_1_5, q_13_8, by decide +kernel⟩
theorem mm_X4_claim : MV yX4_claim cX4_claim 3 (some .int) RX4 2 := ⟨q_23_12, q_23_13, q_1_5, q_23_14, by decide +kernel⟩
theorem mm_X4_copy : MV yX4_copy cX4_copy 7 (some .int) RX4 5 := ⟨q_36_21, q_36_22, q_1_5, q_36_23, by decide +kernel⟩
theorem mm_X4_count : MV yX4_count cX4_count 2 (some .int) RX4 1 := ⟨q_40_7, q_40_8, q_1_5, q_40_9, by decide +kernel⟩
theorem mm_X4_emptyOnes : MV yX4_emptyOnes cX4_emptyOnes 3 (some .int) RX4 0 := ⟨q_18_13, q_18_14, q_1_5, q_18_15, by decide +kernel⟩
theorem mm_X4_feed : MV yX4_feed cX4_feed 4 (some .int) RX4 2 := ⟨q_25_6, q_25_7, q_1_5, q_25_8, by decide +kernel⟩
theorem mm_X4_finds : MV yX4_finds cX4_finds 2 (some .int) RX4 1 := ⟨q_5_17, q_5_18, q_1_5, q_5_19, by decide +kernel⟩
theorem mm_X4_gets : MV yX4_gets cX4_gets 5 (some .int) RX4 2 := ⟨q_20_19, q_20_20, q_1_5, q_20_21, by decide +kernel⟩
theorem mm_X4_givesUp : MV yX4_givesUp cX4_givesUp 2 (some .int) RX4 1 := ⟨q_8_23, q_9_0, q_1_5, q_9_1, by decide +kernel⟩
theorem mm_X4_hour : MV yX4_hour cX4_hour 3 (some .int) RX4 0 := ⟨q_16_20, q_16_21, q_1_5, q_16_22, by decide +kernel⟩
theorem mm_X4_hourNow : MV yX4_hourNow cX4_hourNow 1 (some .int) RX4 0 := ⟨q_15_0, q_15_1, q_1_5, q_15_2, by decide +kernel⟩
theorem mm_X4_hours : MV yX4_hours cX4_hours 2 (some .int) RX4 1 := ⟨q_16_10, q_16_11, q_1_5, q_16_12, by decide +kernel⟩
theorem mm_X4_hoursGo : MV yX4_hoursGo cX4_hoursGo 4 (some .int) RX4 1 := ⟨q_16_16, q_16_17, q_1_5, q_16_18, by decide +kernel⟩
theorem mm_X4_image : MV yX4_image cX4_image 2 (some .int) RX4 0 := ⟨q_38_18, q_38_19, q_1_5, q_38_20, by decide +kernel⟩
theorem mm_X4_in : MS yX4_in cX4_in 6 (some .boolean) 3 := ⟨q_5_6, q_1_5, q_5_7, by decide +kernel⟩
theorem mm_X4_isBook : MV yX4_isBook cX4_isBook 5 (some .boolean) RX4 2 := ⟨q_38_10, q_38_11, q_1_5, q_38_12, by decide +kernel⟩
theorem mm_X4_isChair : MS yX4_isChair cX4_isChair 1 (some .boolean) 1 := ⟨q_5_9, q_1_5, q_5_10, by decide +kernel⟩
theorem mm_X4_isDigit : MS yX4_isDigit cX4_isDigit 1 (some .boolean) 1 := ⟨q_31_19, q_1_5, q_31_20, by decide +kernel⟩
theorem mm_X4_isKind : MS yX4_isKind cX4_isKind 1 (some .boolean) 1 := ⟨q_7_12, q_1_5, q_7_13, by decide +kernel⟩
theorem mm_X4_isLetter : MS yX4_isLetter cX4_isLetter 1 (some .boolean) 1 := ⟨q_31_14, q_1_5, q_31_15, by decide +kernel⟩
theorem mm_X4_isOne : MS yX4_isOne cX4_isOne 1 (some .boolean) 1 := ⟨q_35_5, q_1_5, q_35_6, by decide +kernel⟩
theorem mm_X4_isPart : MS yX4_isPart cX4_isPart 2 (some .boolean) 2 := ⟨q_9_15, q_1_5, q_9_16, by decide +kernel⟩
theorem mm_X4_isPerson : MV yX4_isPerson cX4_isPerson 2 (some .boolean) RX4 1 := ⟨q_8_19, q_8_20, q_1_5, q_8_21, by decide +kernel⟩
theorem mm_X4_isQuarrel : MV yX4_isQuarrel cX4_isQuarrel 3 (some .boolean) RX4 2 := ⟨q_11_21, q_11_22, q_1_5, q_11_23, by decide +kernel⟩
theorem mm_X4_isSoon : MS yX4_isSoon cX4_isSoon 1 (some .boolean) 1 := ⟨q_22_8, q_1_5, q_22_9, by decide +kernel⟩
theorem mm_X4_isSunny : MV yX4_isSunny cX4_isSunny 1 (some .boolean) RX4 0 := ⟨q_14_20, q_14_21, q_1_5, q_14_22, by decide +kernel⟩
theorem mm_X4_isUnder : MS yX4_isUnder cX4_isUnder 2 (some .boolean) 2 := ⟨q_10_18, q_1_5, q_10_19, by decide +kernel⟩
theorem mm_X4_item : MV yX4_item cX4_item 7 none RX4 0 := ⟨q_32_0, q_32_1, q_1_5, q_32_2, by decide +kernel⟩
theorem mm_X4_its : MV yX4_its cX4_its 3 (some .int) RX4 2 := ⟨q_6_11, q_6_12, q_1_5, q_6_13, by decide +kernel⟩
theorem mm_X4_kind : MV yX4_kind cX4_kind 3 (some .int) RX4 2 := ⟨q_22_20, q_22_21, q_1_5, q_22_22, by decide +kernel⟩
theorem mm_X4_kindHere : MV yX4_kindHere cX4_kindHere 3 (some .int) RX4 0 := ⟨q_32_7, q_32_8, q_1_5, q_32_9, by decide +kernel⟩
theorem mm_X4_lays : MV yX4_lays cX4_lays 6 (some .int) RX4 1 := ⟨q_37_6, q_37_7, q_1_5, q_37_8, by decide +kernel⟩
theorem mm_X4_laysAside : MV yX4_laysAside cX4_laysAside 2 none RX4 0 := ⟨q_19_9, q_19_10, q_1_5, q_19_11, by decide +kernel⟩
theorem mm_X4_likes : MV yX4_likes cX4_likes 9 (some .int) RX4 2 := ⟨q_14_16, q_14_17, q_1_5, q_14_18, by decide +kernel⟩
theorem mm_X4_mend : MV yX4_mend cX4_mend 7 (some .int) RX4 1 := ⟨q_22_4, q_22_5, q_1_5, q_22_6, by decide +kernel⟩
theorem mm_X4_minds : MV yX4_minds cX4_minds 4 (some .int) RX4 2 := ⟨q_15_4, q_15_5, q_1_5, q_15_6, by decide +kernel⟩
theorem mm_X4_moves : MV yX4_moves cX4_moves 6 (some .int) RX4 1 := ⟨q_17_0, q_17_1, q_1_5, q_17_2, by decide +kernel⟩
theorem mm_X4_must : MV yX4_must cX4_must 2 none RX4 1 := ⟨q_33_6, q_33_7, q_1_5, q_33_8, by decide +kernel⟩
theorem mm_X4_narrowed : MS yX4_narrowed cX4_narrowed 3 (some .long) 2 := ⟨q_36_8, q_1_5, q_36_9, by decide +kernel⟩
theorem mm_X4_now : MV yX4_now cX4_now 2 (some .int) RX4 1 := ⟨q_18_1, q_18_2, q_1_5, q_18_3, by decide +kernel⟩
theorem mm_X4_number : MV yX4_number cX4_number 6 none RX4 2 := ⟨q_33_15, q_33_16, q_1_5, q_33_17, by decide +kernel⟩
theorem mm_X4_of : MV yX4_of cX4_of 3 (some .int) RX4 2 := ⟨q_8_14, q_8_15, q_1_5, q_8_16, by decide +kernel⟩
theorem mm_X4_on : MV yX4_on cX4_on 5 (some .int) RX4 3 := ⟨q_19_5, q_19_6, q_1_5, q_19_7, by decide +kernel⟩
theorem mm_X4_ones : MS yX4_ones cX4_ones 3 (some .int) 1 := ⟨q_21_17, q_1_5, q_21_18, by decide +kernel⟩
theorem mm_X4_pairs : MV yX4_pairs cX4_pairs 3 (some .int) RX4 0 := ⟨q_40_11, q_40_12, q_1_5, q_40_13, by decide +kernel⟩
theorem mm_X4_partItem : MV yX4_partItem cX4_partItem 5 none RX4 3 := ⟨q_33_10, q_33_11, q_1_5, q_33_12, by decide +kernel⟩
theorem mm_X4_peace : MV yX4_peace cX4_peace 2 (some .int) RX4 1 := ⟨q_19_21, q_19_22, q_1_5, q_19_23, by decide +kernel⟩
theorem mm_X4_peaceIn : MV yX4_peaceIn cX4_peaceIn 3 (some .int) RX4 1 := ⟨q_20_1, q_20_2, q_1_5, q_20_3, by decide +kernel⟩
theorem mm_X4_peaceNow : MV yX4_peaceNow cX4_peaceNow 3 (some .int) RX4 0 := ⟨q_18_9, q_18_10, q_1_5, q_18_11, by decide +kernel⟩
theorem mm_X4_peeked : MV yX4_peeked cX4_peeked 3 (some .int) RX4 0 := ⟨q_33_19, q_33_20, q_1_5, q_33_21, by decide +kernel⟩
theorem mm_X4_person : MV yX4_person cX4_person 2 (some .int) RX4 1 := ⟨q_7_7, q_7_8, q_1_5, q_7_9, by decide +kernel⟩
theorem mm_X4_personItem : MV yX4_personItem cX4_personItem 4 none RX4 1 := ⟨q_32_23, q_33_0, q_1_5, q_33_1, by decide +kernel⟩
theorem mm_X4_places : MV yX4_places cX4_places 4 none RX4 2 := ⟨q_21_20, q_21_21, q_1_5, q_21_22, by decide +kernel⟩
theorem mm_X4_putsBack : MV yX4_putsBack cX4_putsBack 2 none RX4 0 := ⟨q_34_5, q_34_6, q_1_5, q_34_7, by decide +kernel⟩
theorem mm_X4_quarrel : MV yX4_quarrel cX4_quarrel 5 (some .int) RX4 3 := ⟨q_11_13, q_11_14, q_1_5, q_11_15, by decide +kernel⟩
theorem mm_X4_quarrels : MV yX4_quarrels cX4_quarrels 6 none RX4 3 := ⟨q_12_1, q_12_2, q_1_5, q_12_3, by decide +kernel⟩
theorem mm_X4_read : MV yX4_read cX4_read 6 (some .int) RX4 2 := ⟨q_38_6, q_38_7, q_1_5, q_38_8, by decide +kernel⟩
theorem mm_X4_room : MV yX4_room cX4_room 2 (some .int) RX4 0 := ⟨q_30_19, q_30_20, q_1_5, q_30_21, by decide +kernel⟩
theorem mm_X4_saves : MV yX4_saves cX4_saves 2 none RX4 0 := ⟨q_31_2, q_31_3, q_1_5, q_31_4, by decide +kernel⟩
theorem mm_X4_set : MV yX4_set cX4_set 4 (some .int) RX4 3 := ⟨q_9_11, q_9_12, q_1_5, q_9_13, by decide +kernel⟩
theorem mm_X4_settles : MV yX4_settles cX4_settles 3 (some .int) RX4 0 := ⟨q_20_10, q_20_11, q_1_5, q_20_12, by decide +kernel⟩
theorem mm_X4_sheet : MV yX4_sheet cX4_sheet 5 (some .int) RX4 3 := ⟨q_35_1, q_35_2, q_1_5, q_35_3, by decide +kernel⟩
theorem mm_X4_sit : MV yX4_sit cX4_sit 4 (some .int) RX4 2 := ⟨q_12_13, q_12_14, q_1_5, q_12_15, by decide +kernel⟩
theorem mm_X4_sits : MV yX4_sits cX4_sits 7 (some .int) RX4 2 := ⟨q_14_12, q_14_13, q_1_5, q_14_14, by decide +kernel⟩
theorem mm_X4_sitting : MV yX4_sitting cX4_sitting 3 (some .int) RX4 0 := ⟨q_18_5, q_18_6, q_1_5, q_18_7, by decide +kernel⟩
theorem mm_X4_spotOf : MS yX4_spotOf cX4_spotOf 2 (some .int) 2 := ⟨q_6_15, q_1_5, q_6_16, by decide +kernel⟩
theorem mm_X4_status : MV yX4_status cX4_status 4 (some .int) RX4 1 := ⟨q_40_19, q_40_20, q_1_5, q_40_21, by decide +kernel⟩
theorem mm_X4_takesBack : MV yX4_takesBack cX4_takesBack 3 (some .int) RX4 1 := ⟨q_19_13, q_19_14, q_1_5, q_19_15, by decide +kernel⟩
theorem mm_X4_tear : MV yX4_tear cX4_tear 2 (some .int) RX4 0 := ⟨q_39_11, q_39_12, q_1_5, q_39_13, by decide +kernel⟩
theorem mm_X4_token : MV yX4_token cX4_token 3 none RX4 0 := ⟨q_31_6, q_31_7, q_1_5, q_31_8, by decide +kernel⟩
theorem mm_X4_turn : MV yX4_turn cX4_turn 3 (some .int) RX4 2 := ⟨q_10_1, q_10_2, q_1_5, q_10_3, by decide +kernel⟩
theorem mm_X4_undo : MV yX4_undo cX4_undo 2 (some .int) RX4 0 := ⟨q_39_3, q_39_4, q_1_5, q_39_5, by decide +kernel⟩
theorem mm_X4_well : MV yX4_well cX4_well 3 (some .int) RX4 2 := ⟨q_14_8, q_14_9, q_1_5, q_14_10, by decide +kernel⟩
theorem mm_X4_wellIn : MV yX4_wellIn cX4_wellIn 4 (some .int) RX4 2 := ⟨q_23_4, q_23_5, q_1_5, q_23_6, by decide +kernel⟩
theorem mm_X4_whoIn : MV yX4_whoIn cX4_whoIn 3 (some .int) RX4 1 := ⟨q_6_7, q_6_8, q_1_5, q_6_9, by decide +kernel⟩
theorem mm_X4_wipe : MV yX4_wipe cX4_wipe 2 (some .int) RX4 0 := ⟨q_25_16, q_25_17, q_1_5, q_25_18, by decide +kernel⟩
theorem mm_X4_word : MV yX4_word cX4_word 4 (some .long) RX4 0 := ⟨q_32_17, q_32_18, q_1_5, q_32_19, by decide +kernel⟩
theorem mm_X4_write : MV yX4_write cX4_write 8 (some .long) RX4 3 := ⟨q_35_23, q_36_0, q_1_5, q_36_1, by decide +kernel⟩
theorem mm_X4_wrongBook : MV yX4_wrongBook cX4_wrongBook 4 (some .int) RX4 2 := ⟨q_37_18, q_37_19, q_1_5, q_37_20, by decide +kernel⟩
theorem mm_X4_wrongSheet : MV yX4_wrongSheet cX4_wrongSheet 2 (some .int) RX4 1 := ⟨q_36_3, q_36_4, q_1_5, q_36_5, by decide +kernel⟩
theorem mm_X4_years : MV yX4_years cX4_years 7 (some .int) RX4 3 := ⟨q_23_20, q_23_21, q_1_5, q_23_22, by decide +kernel⟩
