theorem sx_ch : ∀ i, i < 14 → ∀ j, j < 8 → ((sx_c i j &&& 255).toUInt32 % 65536).toInt32 = sx_c i j := by decide +kernel
theorem sx_n8 : ∀ i, i < 14 → sx_n.getD i 0 < 8 := by decide +kernel
section
variable {g : GT} {K : KT} {rm rmc : Room} {cc bytes : ByteArray} {nL n1 n2 pc maxL n index : Nat} {rt ret : Option FieldType} {own C : String} {lv : List (Nat × Value)} {st : List Value} {ws wc wr : va_W} {y : MethodName}
/-- an instance method of an object that is none of the world's cells (a String constant) -/
theorem wa_VR {β ρ : Type} (fx : Fx g K rm cc nL rt own) (mv : MV y bytes maxL ret C n) (hlk : Cond.methodLink own index y ∈ WT) (d : decode cc pc = .ok (.invokevirtual index, 3)) {b : Nat} {As : List Value} {fc : Option β} {kk : β → Option ρ} {r : ρ} (h : Option.bind fc kk = some r) {wcz w2 : β → va_W} {o : β → Option Value} {s2 : β → List Value}
    (ct : ∀ z, fc = some z → Ct g (kl K) y (wd y bytes maxL ret) rmc (.ref b :: As) wc (wcz z) (o z)) (hrecv : ∀ (H : Heap) (locs : List Loc), va_S (kA K) (ks K).heap H locs → ∃ cell : Cell, H[b]? = some cell ∧ cell.vm.isStatics = false ∧ (ks K).vm.findClass C = some cell.cls) (hrm : rmc.cells = 0 ∧ rmc.slots = 0 ∧ rmc.frames + 1 ≤ rm.frames ∧ 8 + (maxL + 11) + rmc.locals ≤ rm.locals) (hn1 : n1 ≤ rm.cells ∧ n2 ≤ rm.slots) (hlen : As.length = n)
    (hsp : ws.Perm (wr ++ wc)) (hsp2 : ∀ z, (w2 z).Perm (wr ++ wcz z)) {stk : List Value} (hstk : stk = As.reverse ++ .ref b :: st) (hcat : (st.map fun v => v.category).sum ≤ 8) (hs2 : ∀ z, s2 z = (o z).toList ++ st) (k : ∀ z, kk z = some r → WA g K nL n1 n2 (pc + 3) lv (s2 z) (w2 z)) : WA g K nL n1 n2 pc lv stk ws := by
  intro H locs ls hP hD hS hl
  obtain ⟨z, hz, hk⟩ := of_bind h
  have hR : kR K = rm := fx.2.2.2.2.2.2.2.2.2.2
  have hr := va_runV (rest := st) (As := As) (b := b) (C := C) (n := n) (g := F0 (km K) pc ls stk) (below := kb K) (meth := kt K) (locs := locs) (cells := n1) (slots := n2) (e := ke K) ⟨fx.1, fx.2.1, fx.2.2.2.1, fx.2.2.2.2.1, fx.2.2.2.2.2.1⟩ (ct z hz H.size) (R := kR K) (cwV n fx.2.2.2.2.2.1 (good_V mv hlk) rfl hrm.1 hrm.2.1 mv.2.2.2.2 ⟨by rw [hR]; exact hrm.2.2.1, by rw [hR]; exact hrm.2.2.2⟩)
    ⟨Ct.blind, hrecv H locs hS, Ct.pre fx hsp hP hD hS _⟩ rfl hlen hl.1 hstk (lv_room hcat) d (by rw [hR]; exact hn1)
  exact wa_ret (β := Unit) (ρ := Unit) fx hsp (hsp2 z) hP hD hS hl hr (by rw [← hs2]; exact k z hk)
theorem sx_recv (fx : Fx g K rm cc nL rt own) {i : Nat} (hi : i < 14) : ∀ (H : Heap) (locs : List Loc), va_S (kA K) (ks K).heap H locs → ∃ cell : Cell, H[g.2.2.2.2.2.1 i]? = some cell ∧ cell.vm.isStatics = false ∧ (ks K).vm.findClass RJ0 = some cell.cls := fun _ _ hS => vk_recv fx.2.2.2.2.2.2.2.2.2.1.2.2.2.1 hi hS
theorem wa_gcs (fx : Fx g K rm cc nL rt RJ0) (d : decode cc pc = .ok (.getstatic 38, 3)) (k : WA g K nL n1 n2 (pc + 3) lv (.int 1 :: st) ws) : WA g K nL n1 n2 pc lv st ws :=
  fun H locs ls hP hD hS hl => va_gets fx.1 fx.2.1 fx.2.2.2.2.2.2.2.2.2.1.2.2.2.2.2.1 hS fx.2.2.2.2.1 (fx.2.2.2.2.2.1 _ q_27_22) (fun _ h => h) d (k H locs ls hP hD hS hl)
theorem wa_gco (fx : Fx g K rm cc nL rt RJ0) {i : Nat} (hi : i < 14) (d : decode cc pc = .ok (.getfield 15, 3)) (k : WA g K nL n1 n2 (pc + 3) lv (.int 0 :: st) ws) : WA g K nL n1 n2 pc lv (.ref (g.2.2.2.2.2.1 i) :: st) ws :=
  fun H locs ls hP hD hS hl => vk_getf fx.1 fx.2.1 (fx.2.2.2.2.2.2.2.2.2.1.2.2.2.1.1 i hi).2.1 hS fx.2.2.2.2.1 (fx.2.2.2.2.2.1 _ q_27_23) (fun _ h => h) d (k H locs ls hP hD hS hl)
theorem wa_gva (fx : Fx g K rm cc nL rt RJ0) {i : Nat} (hi : i < 14) (d : decode cc pc = .ok (.getfield 9, 3)) (k : WA g K nL n1 n2 (pc + 3) lv (.ref (g.2.2.2.2.2.2 i) :: st) ws) : WA g K nL n1 n2 pc lv (.ref (g.2.2.2.2.2.1 i) :: st) ws :=
  fun H locs ls hP hD hS hl => vk_getf fx.1 fx.2.1 (fx.2.2.2.2.2.2.2.2.2.1.2.2.2.1.1 i hi).2.2.1 hS fx.2.2.2.2.1 (fx.2.2.2.2.2.1 _ q_27_17) (fun _ h => h) d (k H locs ls hP hD hS hl)
theorem wa_vln (fx : Fx g K rm cc nL rt own) {i : Nat} (hi : i < 14) (d : decode cc pc = .ok (.arraylength, 1)) (k : WA g K nL n1 n2 (pc + 1) lv (.int (Int32.ofNat (sx_n.getD i 0)) :: st) ws) : WA g K nL n1 n2 pc lv (.ref (g.2.2.2.2.2.2 i) :: st) ws :=
  fun H locs ls hP hD hS hl => va_tlen fx.1 fx.2.1 (fx.2.2.2.2.2.2.2.2.2.1.2.2.2.1.1 i hi).2.2.2 hS rfl d (k H locs ls hP hD hS hl)
theorem wa_vld (fx : Fx g K rm cc nL rt own) {i : Nat} (hi : i < 14) {j : Int32} (hj : vp_in j (sx_n.getD i 0)) (d : decode cc pc = .ok (.baload, 1)) (k : WA g K nL n1 n2 (pc + 1) lv (.int (sx_c i j.toNatClampNeg) :: st) ws) : WA g K nL n1 n2 pc lv (.int j :: .ref (g.2.2.2.2.2.2 i) :: st) ws :=
  fun H locs ls hP hD hS hl => va_tb fx.1 fx.2.1 (fx.2.2.2.2.2.2.2.2.2.1.2.2.2.1.1 i hi).2.2.2 hS hj rfl d (k H locs ls hP hD hS hl)
theorem wa_gsi (fx : Fx g K rm cc nL rt RJ0) (d : decode cc pc = .ok (.getstatic 1053, 3)) (k : ∀ v : Value, v.category = 1 → WA g K nL n1 n2 (pc + 3) lv (v :: st) ws) : WA g K nL n1 n2 pc lv st ws := by
  intro H locs ls hP hD hS hl
  rcases fx.2.2.2.2.2.2.2.2.2.1.2.2.2.2.2.2.1 with hz | ⟨t, hz⟩
  · exact va_gets fx.1 fx.2.1 hz hS fx.2.2.2.2.1 (fx.2.2.2.2.2.1 _ q_28_15) (fun _ h => h) d (k .null rfl H locs ls hP hD hS hl)
  · exact va_gets fx.1 fx.2.1 hz hS fx.2.2.2.2.1 (fx.2.2.2.2.2.1 _ q_28_15) (fun _ h => h) d (k (.ref t) rfl H locs ls hP hD hS hl)
end
theorem c_coder {g : GT} {l : Launch} {i : Nat} (hi : i < 14) : Ct g l yJ0_coder_7d493 (wd yJ0_coder_7d493 cJ0_coder_7d493 1 (some .byte)) (rmh 1) [.ref (g.2.2.2.2.2.1 i)] (no_ws ()) (no_ws ()) (some (.int 0)) := by
  refine Ct.of (lv := [(0, .ref (g.2.2.2.2.2.1 i))]) (by decide) (Nat.le_of_ble_eq_true rfl) rfl (fun K hl fx hf => ?_)
  refine wa_gcs fx dJ0_coder_7d493_0 ?_
  refine wa_if_eq (ρ := Nat) (A := 0) (B := 1) (r := 1) fx 13 dJ0_coder_7d493_3 (by decide) (if_neg (by decide)) (fun h => absurd h (by decide)) (fun _ => ?_)
  refine wa_aload_n fx 0 dJ0_coder_7d493_6 rfl ?_
  refine wa_gco fx hi dJ0_coder_7d493_7 ?_
  refine wa_goto fx 14 dJ0_coder_7d493_10 (by decide) ?_
  exact fn_z no_ws fx hf (by decide) rfl rfl dJ0_coder_7d493_14
theorem c_isLatin1 {g : GT} {l : Launch} {i : Nat} (hi : i < 14) : Ct g l yJ0_isLatin1_aae02 (wd yJ0_isLatin1_aae02 cJ0_isLatin1_aae02 1 (some .boolean)) (rmh 1) [.ref (g.2.2.2.2.2.1 i)] (no_ws ()) (no_ws ()) (some (.int 1)) := by
  refine Ct.of (lv := [(0, .ref (g.2.2.2.2.2.1 i))]) (by decide) (Nat.le_of_ble_eq_true rfl) rfl (fun K hl fx hf => ?_)
  refine wa_gcs fx dJ0_isLatin1_aae02_0 ?_
  refine wa_if_eq (ρ := Nat) (A := 0) (B := 1) (r := 1) fx 17 dJ0_isLatin1_aae02_3 (by decide) (if_neg (by decide)) (fun h => absurd h (by decide)) (fun _ => ?_)
  refine wa_aload_n fx 0 dJ0_isLatin1_aae02_6 rfl ?_
  refine wa_gco fx hi dJ0_isLatin1_aae02_7 ?_
  refine wa_if_ne (ρ := Nat) (A := 0) (B := 1) (r := 0) fx 17 dJ0_isLatin1_aae02_10 (by decide) (if_pos (by decide)) (fun _ => ?_) (fun h => absurd h (by decide))
  refine wa_iconst fx 1 dJ0_isLatin1_aae02_13 (by decide) ?_
  refine wa_goto fx 18 dJ0_isLatin1_aae02_14 (by decide) ?_
  exact fn_z no_ws fx hf (by decide) rfl rfl dJ0_isLatin1_aae02_18
theorem c_slen {g : GT} {l : Launch} {i : Nat} (hi : i < 14) : Ct g l yJ0_length_8abf5 (wd yJ0_length_8abf5 cJ0_length_8abf5 1 (some .int)) (rmh 2) [.ref (g.2.2.2.2.2.1 i)] (no_ws ()) (no_ws ()) (some (.int (Int32.ofNat (sx_n.getD i 0)))) := by
  refine Ct.of (lv := [(0, .ref (g.2.2.2.2.2.1 i))]) (by decide) (Nat.le_of_ble_eq_true rfl) rfl (fun K hl fx hf => ?_)
  refine wa_aload_n fx 0 dJ0_length_8abf5_0 rfl ?_
  refine wa_gva fx hi dJ0_length_8abf5_1 ?_
  refine wa_vln fx hi dJ0_length_8abf5_4 ?_
  refine wa_aload_n fx 0 dJ0_length_8abf5_5 rfl ?_
  refine wa_VR (β := Unit) (ρ := Unit) (fc := some ()) (kk := fun _ => some ()) (r := ()) (b := g.2.2.2.2.2.1 i) (rmc := rmh 1) (As := []) (st := [.int (Int32.ofNat (sx_n.getD i 0))]) (wc := no_ws ()) (wr := no_ws ()) (wcz := fun _ => no_ws ()) (w2 := fun _ => no_ws ()) (o := fun _ => some (.int 0)) (s2 := fun _ => [.int 0, .int (Int32.ofNat (sx_n.getD i 0))]) fx mm_J0_coder_7d493 q_27_18 dJ0_length_8abf5_6 rfl (fun _ _ => c_coder hi) (sx_recv fx hi) (rm_ok (by decide) (by decide)) ⟨Nat.zero_le _, Nat.zero_le _⟩ rfl (List.Perm.refl _) (fun _ => List.Perm.refl _) rfl (Nat.le_of_ble_eq_true rfl) (fun _ => rfl) (fun _ _ => ?_)
  refine wa_ishr fx dJ0_length_8abf5_9 ?_
  exact fn_i no_ws fx hf (sb_shr0 _) rfl dJ0_length_8abf5_10
theorem c_cki3 {g : GT} {l : Launch} {a b : Int32} {v : Value} (hv : v.category = 1) (h1 : ¬ a < 0) (h2 : a < b) : Ct g l yJ3_checkIndex_8e157 (wd yJ3_checkIndex_8e157 cJ3_checkIndex_8e157 3 (some .int)) (rmh 1) [.int a, .int b, v] (no_ws ()) (no_ws ()) (some (.int a)) := by
  refine Ct.of (lv := [(0, .int a), (1, .int b), (2, v)]) (by decide) (by simp [lg_sl, hv, show (Value.int a).category = 1 from rfl, show (Value.int b).category = 1 from rfl]) (by simp [lv_args, hv, show (Value.int a).category = 1 from rfl, show (Value.int b).category = 1 from rfl]) (fun K hl fx hf => ?_)
  refine wa_iload_n fx 0 dJ3_checkIndex_8e157_0 rfl ?_
  refine wa_if_lt (ρ := Nat) (A := 0) (B := 1) (r := 1) fx 9 dJ3_checkIndex_8e157_1 (by decide) (if_neg h1) (fun h => absurd h (by decide)) (fun _ => ?_)
  refine wa_iload_n fx 0 dJ3_checkIndex_8e157_4 rfl ?_
  refine wa_iload_n fx 1 dJ3_checkIndex_8e157_5 rfl ?_
  refine wa_icmp_lt (ρ := Nat) (A := 0) (B := 1) (r := 0) fx 16 dJ3_checkIndex_8e157_6 (by decide) (if_pos h2) (fun _ => ?_) (fun h => absurd h (by decide))
  refine wa_iload_n fx 0 dJ3_checkIndex_8e157_16 rfl ?_
  exact fn_i no_ws fx hf rfl rfl dJ3_checkIndex_8e157_17
theorem c_cki0 {g : GT} {l : Launch} {a b : Int32} (h1 : ¬ a < 0) (h2 : a < b) : Ct g l yJ0_checkIndex_df160 (wd yJ0_checkIndex_df160 cJ0_checkIndex_df160 2 none) (rmh 2) [.int a, .int b] (no_ws ()) (no_ws ()) none := by
  refine Ct.of (lv := [(0, .int a), (1, .int b)]) (by decide) (Nat.le_of_ble_eq_true rfl) rfl (fun K hl fx hf => ?_)
  refine wa_iload_n fx 0 dJ0_checkIndex_df160_0 rfl ?_
  refine wa_iload_n fx 1 dJ0_checkIndex_df160_1 rfl ?_
  refine wa_gsi fx dJ0_checkIndex_df160_2 (fun v hv => ?_)
  refine wa_S (β := Unit) (ρ := Unit) (fc := some ()) (kk := fun _ => some ()) (r := ()) (rmc := rmh 1) (As := [.int a, .int b, v]) (st := []) (wc := no_ws ()) (wr := no_ws ()) (wcz := fun _ => no_ws ()) (w2 := fun _ => no_ws ()) (o := fun _ => some (.int a)) (s2 := fun _ => [.int a]) fx mm_J3_checkIndex_8e157 q_28_16 dJ0_checkIndex_df160_5 rfl (fun _ _ => c_cki3 hv h1 h2) (rm_ok (by decide) (by decide)) ⟨Nat.zero_le _, Nat.zero_le _⟩ rfl (List.Perm.refl _) (fun _ => List.Perm.refl _) rfl (Nat.le_of_ble_eq_true rfl) (fun _ => rfl) (fun _ _ => ?_)
  refine wa_pop fx dJ0_checkIndex_df160_8 rfl ?_
  exact fn_v no_ws fx hf rfl dJ0_checkIndex_df160_9
theorem sx_cl {i : Nat} {j : Int32} (hj : vp_in j (sx_n.getD i 0)) : ¬ j < 0 ∧ j.toNatClampNeg < sx_n.getD i 0 := ⟨fun h => hj (Or.inl h), Nat.not_le.mp fun h => hj (Or.inr h)⟩
theorem sx_lt {i : Nat} (hi : i < 14) {j : Int32} (hj : vp_in j (sx_n.getD i 0)) : j < Int32.ofNat (sx_n.getD i 0) := by
  have h8 := sx_n8 i hi
  obtain ⟨k, hk, rfl⟩ := vp_in_of hj (by omega)
  exact nI_lt hk (by omega)
theorem c_sch1 {g : GT} {l : Launch} {i : Nat} {j : Int32} (hi : i < 14) (hj : vp_in j (sx_n.getD i 0)) : Ct g l yJ1_charAt_3b067 (wd yJ1_charAt_3b067 cJ1_charAt_3b067 2 (some .char)) (rmh 3) [.ref (g.2.2.2.2.2.2 i), .int j] (no_ws ()) (no_ws ()) (some (.int (sx_c i j.toNatClampNeg))) := by
  refine Ct.of (lv := [(0, .ref (g.2.2.2.2.2.2 i)), (1, .int j)]) (by decide) (Nat.le_of_ble_eq_true rfl) rfl (fun K hl fx hf => ?_)
  refine wa_iload_n fx 1 dJ1_charAt_3b067_0 rfl ?_
  refine wa_aload_n fx 0 dJ1_charAt_3b067_1 rfl ?_
  refine wa_vln fx hi dJ1_charAt_3b067_2 ?_
  refine wa_S (β := Unit) (ρ := Unit) (fc := some ()) (kk := fun _ => some ()) (r := ()) (rmc := rmh 2) (As := [.int j, .int (Int32.ofNat (sx_n.getD i 0))]) (st := []) (wc := no_ws ()) (wr := no_ws ()) (wcz := fun _ => no_ws ()) (w2 := fun _ => no_ws ()) (o := fun _ => none) (s2 := fun _ => []) fx mm_J0_checkIndex_df160 q_28_12 dJ1_charAt_3b067_3 rfl (fun _ _ => c_cki0 (sx_cl hj).1 (sx_lt hi hj)) (rm_ok (by decide) (by decide)) ⟨Nat.zero_le _, Nat.zero_le _⟩ rfl (List.Perm.refl _) (fun _ => List.Perm.refl _) rfl (Nat.le_of_ble_eq_true rfl) (fun _ => rfl) (fun _ _ => ?_)
  refine wa_aload_n fx 0 dJ1_charAt_3b067_6 rfl ?_
  refine wa_iload_n fx 1 dJ1_charAt_3b067_7 rfl ?_
  refine wa_vld fx hi hj dJ1_charAt_3b067_8 ?_
  refine wa_sipush fx 255 dJ1_charAt_3b067_9 (by decide) ?_
  refine wa_iand fx dJ1_charAt_3b067_12 ?_
  refine wa_i2c fx dJ1_charAt_3b067_13 ?_
  exact fn_z no_ws fx hf (pk_nc _) (sx_ch i hi _ (by have := sx_n8 i hi; have := (sx_cl hj).2; omega)) rfl dJ1_charAt_3b067_14
theorem sx_nc {i j : Nat} (hi : i < 14) (hj : j < 8) : narrow .char (.int (sx_c i j)) = .int (sx_c i j) := by
  have h := pk_nc (sx_c i j &&& 255)
  rw [sx_ch i hi j hj] at h
  exact h
theorem c_schar {g : GT} {l : Launch} {i : Nat} {j : Int32} (hi : i < 14) (hj : vp_in j (sx_n.getD i 0)) : Ct g l yJ0_charAt_5068e (wd yJ0_charAt_5068e cJ0_charAt_5068e 2 (some .char)) (rmh 4) [.ref (g.2.2.2.2.2.1 i), .int j] (no_ws ()) (no_ws ()) (some (.int (sx_c i j.toNatClampNeg))) := by
  refine Ct.of (lv := [(0, .ref (g.2.2.2.2.2.1 i)), (1, .int j)]) (by decide) (Nat.le_of_ble_eq_true rfl) rfl (fun K hl fx hf => ?_)
  refine wa_aload_n fx 0 dJ0_charAt_5068e_0 rfl ?_
  refine wa_VR (β := Unit) (ρ := Unit) (fc := some ()) (kk := fun _ => some ()) (r := ()) (b := g.2.2.2.2.2.1 i) (rmc := rmh 1) (As := []) (st := []) (wc := no_ws ()) (wr := no_ws ()) (wcz := fun _ => no_ws ()) (w2 := fun _ => no_ws ()) (o := fun _ => some (.int 1)) (s2 := fun _ => [.int 1]) fx mm_J0_isLatin1_aae02 q_28_4 dJ0_charAt_5068e_1 rfl (fun _ _ => c_isLatin1 hi) (sx_recv fx hi) (rm_ok (by decide) (by decide)) ⟨Nat.zero_le _, Nat.zero_le _⟩ rfl (List.Perm.refl _) (fun _ => List.Perm.refl _) rfl (Nat.le_of_ble_eq_true rfl) (fun _ => rfl) (fun _ _ => ?_)
  refine wa_if_eq (ρ := Nat) (A := 0) (B := 1) (r := 1) fx 16 dJ0_charAt_5068e_4 (by decide) (if_neg (by decide)) (fun h => absurd h (by decide)) (fun _ => ?_)
  refine wa_aload_n fx 0 dJ0_charAt_5068e_7 rfl ?_
  refine wa_gva fx hi dJ0_charAt_5068e_8 ?_
  refine wa_iload_n fx 1 dJ0_charAt_5068e_11 rfl ?_
  refine wa_S (β := Unit) (ρ := Unit) (fc := some ()) (kk := fun _ => some ()) (r := ()) (rmc := rmh 3) (As := [.ref (g.2.2.2.2.2.2 i), .int j]) (st := []) (wc := no_ws ()) (wr := no_ws ()) (wcz := fun _ => no_ws ()) (w2 := fun _ => no_ws ()) (o := fun _ => some (.int (sx_c i j.toNatClampNeg))) (s2 := fun _ => [.int (sx_c i j.toNatClampNeg)]) fx mm_J1_charAt_3b067 q_28_8 dJ0_charAt_5068e_12 rfl (fun _ _ => c_sch1 hi hj) (rm_ok (by decide) (by decide)) ⟨Nat.zero_le _, Nat.zero_le _⟩ rfl (List.Perm.refl _) (fun _ => List.Perm.refl _) rfl (Nat.le_of_ble_eq_true rfl) (fun _ => rfl) (fun _ _ => ?_)
  exact fn_z no_ws fx hf (sx_nc hi (by have := sx_n8 i hi; have := (sx_cl hj).2; omega)) rfl rfl dJ0_charAt_5068e_15
section
variable {g : GT} {K : KT} {h0 : Nat} {cc : ByteArray} {nL n1 n2 pc index : Nat} {rt : Option FieldType} {own : String} {lv : List (Nat × Value)} {st : List Value} {ws : va_W}
theorem wa_slen (fx : Fx g K (rmh (h0 + 6)) cc nL rt own) {i : Nat} (hi : i < 14) (hw : Cond.methodLink own index yJ0_length_8abf5 ∈ WT) (d : decode cc pc = .ok (.invokevirtual index, 3)) (hc : (st.map fun v => v.category).sum ≤ 8) (k : WA g K nL 0 0 (pc + 3) lv (.int (Int32.ofNat (sx_n.getD i 0)) :: st) ws) : WA g K nL 0 0 pc lv (.ref (g.2.2.2.2.2.1 i) :: st) ws :=
  wa_VR (β := Unit) (ρ := Unit) (fc := some ()) (kk := fun _ => some ()) (r := ()) (b := g.2.2.2.2.2.1 i) (rmc := rmh 2) (As := []) (st := st) (wc := no_ws ()) (wr := ws) (wcz := fun _ => no_ws ()) (w2 := fun _ => ws) (o := fun _ => some (.int (Int32.ofNat (sx_n.getD i 0)))) (s2 := fun _ => .int (Int32.ofNat (sx_n.getD i 0)) :: st) fx mm_J0_length_8abf5 hw d rfl (fun _ _ => c_slen hi) (sx_recv fx hi) (rm_ok (by omega) (by decide)) ⟨Nat.zero_le _, Nat.zero_le _⟩ rfl (List.Perm.of_eq (List.append_nil _).symm) (fun _ => List.Perm.of_eq (List.append_nil _).symm) rfl hc (fun _ => rfl) (fun _ _ => k)
theorem wa_schar (fx : Fx g K (rmh (h0 + 6)) cc nL rt own) {i : Nat} (hi : i < 14) (hw : Cond.methodLink own index yJ0_charAt_5068e ∈ WT) (d : decode cc pc = .ok (.invokevirtual index, 3)) (hc : (st.map fun v => v.category).sum ≤ 8) {j : Int32} {ρ : Type} {A : Option ρ} {r : ρ} (h : ck j (sx_n.getD i 0) A = some r) (k : A = some r → WA g K nL 0 0 (pc + 3) lv (.int (sx_c i j.toNatClampNeg) :: st) ws) : WA g K nL 0 0 pc lv (.int j :: .ref (g.2.2.2.2.2.1 i) :: st) ws :=
  wa_VR (β := Unit) (ρ := Unit) (fc := some ()) (kk := fun _ => some ()) (r := ()) (b := g.2.2.2.2.2.1 i) (rmc := rmh 4) (As := [.int j]) (st := st) (wc := no_ws ()) (wr := ws) (wcz := fun _ => no_ws ()) (w2 := fun _ => ws) (o := fun _ => some (.int (sx_c i j.toNatClampNeg))) (s2 := fun _ => .int (sx_c i j.toNatClampNeg) :: st) fx mm_J0_charAt_5068e hw d rfl (fun _ _ => c_schar hi (of_ck h).1) (sx_recv fx hi) (rm_ok (by omega) (by decide)) ⟨Nat.zero_le _, Nat.zero_le _⟩ rfl (List.Perm.of_eq (List.append_nil _).symm) (fun _ => List.Perm.of_eq (List.append_nil _).symm) rfl hc (fun _ => rfl) (fun _ _ => k (of_ck h).2)
end
