def f_X4_likes_b99 (st : StT) (x22 : Int32) (x23 : Int32) (x24 : Int32) (x25 : Int32) (x26 : Int32) (x27 : Int32) : Option (Int32) := Option.bind (f_X4_its st x22 (0 : Int32)) fun z28 => if z28 = (1 : Int32) then (some x27) else (if z28 = (2 : Int32) then (some (x24 + (3 : Int32))) else (if z28 = (3 : Int32) then (some x25) else (if z28 = (4 : Int32) then (if x26 = 0 then (some x27) else (some (x27 + (10 : Int32)))) else (if z28 = (5 : Int32) then (if x23 = (7 : Int32) then (some (x25 + (6 : Int32))) else (some x25)) else (some x24)))))
def f_X4_likes_b76 (st : StT) (x17 : Int32) (x18 : Int32) (x19 : Int32) (x20 : Int32) (x21 : Int32) : Option (Int32) := if x21 = 0 then (f_X4_likes_b99 st x17 x18 x19 x20 x21 x19) else (Option.bind (f_X4_its st x17 (1 : Int32)) fun z29 => f_X4_likes_b99 st x17 x18 x19 x20 x21 (x19 + (z29 / (4 : Int32))))
def f_X4_likes_b49 (st : StT) (x10 : Int32) (x11 : Int32) (x12 : Int32) (x13 : Int32) (x14 : Int32) : Option (Int32) := nm ((x12 / (2 : Int32)) - ((2 : Int32) * x13)) fun x15 => Option.bind (f_X4_its st x10 (2 : Int32)) fun z16 => if z16 = x11 then (f_X4_likes_b76 st x10 x11 x14 x15 (1 : Int32)) else (f_X4_likes_b76 st x10 x11 x14 x15 (0 : Int32))
def f_X4_likes_b45 (st : StT) (x6 : Int32) (x7 : Int32) (x8 : Int32) (x9 : Int32) : Option (Int32) := f_X4_likes_b49 st x6 x7 x8 x9 (x8 - x9)
def f_X4_likes (st : StT) (a1 : Int32) (a2 : Int32) : Option (Int32) := Option.bind (f_X4_chairAt a2 (0 : Int32)) fun z1 => ck z1 66 (nm (st.1 0 (Int32.toNatClampNeg z1)) fun x2 => Option.bind (f_X4_chairAt a2 (1 : Int32)) fun z3 => ck z3 66 (nm (st.1 0 (Int32.toNatClampNeg z3)) fun x4 => Option.bind (f_X4_isSunny st) fun z5 => if z5 = 0 then (f_X4_likes_b45 st a1 a2 x2 x4) else (if x2 ≤ (10 : Int32) then (f_X4_likes_b45 st a1 a2 x2 x4) else (f_X4_likes_b49 st a1 a2 x2 x4 ((x2 - x4) - (4 : Int32))))))
set_option maxHeartbeats 4000000 in
set_option maxRecDepth 100000 in
theorem c_X4_likes {g : GT} {l : Launch} {ad : Nat → Nat}   {st : StT} {a1 : Int32} {a2 : Int32} {r : Int32} (h : f_X4_likes st a1 a2 = some r) : Ct g l yX4_likes (wd yX4_likes cX4_likes 9 (some .int)) (rmh 3) [.ref (ad 0), .int a1, .int a2] (mo_ws g ad st) (mo_ws g ad st) (some (.int r)) := by
  refine Ct.of (lv := [(0, .ref (ad 0)), (1, .int a1), (2, .int a2)]) (by decide) (Nat.le_of_ble_eq_true rfl) rfl (fun K hl fx hf => ?_)
  subst hl
  rw [f_X4_likes] at h
  have B99 : ∀  (x22 : Int32) (x23 : Int32) (x24 : Int32) (x25 : Int32) (x26 : Int32) (x27 : Int32), f_X4_likes_b99 st x22 x23 x24 x25 x26 x27 = some r → WA g K 9 0 0 99 [(0, .ref (ad 0)), (1, .int x22), (2, .int x23), (5, .int x24), (6, .int x25), (7, .int x26)] [.int x27] (mo_ws g ad st) := by
    intro   x22 x23 x24 x25 x26 x27 h
    rw [f_X4_likes_b99] at h
    refine wa_istore fx [(8, .int x27), (0, .ref (ad 0)), (1, .int x22), (2, .int x23), (5, .int x24), (6, .int x25), (7, .int x26)] dX4_likes_99 (by decide) rfl ?_
    refine wa_aload_n fx 1 dX4_likes_101 rfl ?_
    refine wa_iload_n fx 2 dX4_likes_102 rfl ?_
    refine wa_iconst fx (0 : Int32) dX4_likes_103 (by decide) ?_
    refine wa_V (b := ad 0) (rmc := (rmh 2)) (As := [.int x22, .int (0 : Int32)]) (st := []) (wc := (mo_ws g ad st)) (wr := ([] : va_W)) (wcz := fun _ => (mo_ws g ad st)) (w2 := fun _ => (mo_ws g ad st)) (o := fun z28 => some (.int z28)) (s2 := fun z28 => [.int z28]) (ci := 4) (q0 := 0) fx mm_X4_its q_6_10 dX4_likes_104 h (fun _ hz => c_X4_its hz) rfl rfl (rm_ok (by decide) (by decide)) ⟨Nat.zero_le _, Nat.zero_le _⟩ rfl (List.Perm.refl _) (fun _ => (List.Perm.refl _)) rfl (Nat.le_of_ble_eq_true rfl) (fun _ => rfl) (fun z28 h => ?_)
    by_cases c0 : z28 = (1 : Int32)
    · have h := (if_pos c0).symm.trans h
      refine wa_tabI fx 140 (1 : Int) dX4_likes_107 (by rw [c0] <;> rfl) (by decide) (by decide) (by rfl) (by decide) ?_
      refine wa_iload fx 0 dX4_likes_140 rfl ?_
      exact fn_i (mo_ws g ad) fx hf (Option.some.inj h) rfl dX4_likes_142
    · have h := (if_neg c0).symm.trans h
      by_cases c1 : z28 = (2 : Int32)
      · have h := (if_pos c1).symm.trans h
        refine wa_tabI fx 143 (2 : Int) dX4_likes_107 (by rw [c1] <;> rfl) (by decide) (by decide) (by rfl) (by decide) ?_
        refine wa_iload fx 4 dX4_likes_143 rfl ?_
        refine wa_iconst fx (3 : Int32) dX4_likes_145 (by decide) ?_
        refine wa_iadd fx dX4_likes_146 ?_
        exact fn_i (mo_ws g ad) fx hf (Option.some.inj h) rfl dX4_likes_147
      · have h := (if_neg c1).symm.trans h
        by_cases c2 : z28 = (3 : Int32)
        · have h := (if_pos c2).symm.trans h
          refine wa_tabI fx 148 (3 : Int) dX4_likes_107 (by rw [c2] <;> rfl) (by decide) (by decide) (by rfl) (by decide) ?_
          refine wa_iload fx 5 dX4_likes_148 rfl ?_
          exact fn_i (mo_ws g ad) fx hf (Option.some.inj h) rfl dX4_likes_150
        · have h := (if_neg c2).symm.trans h
          by_cases c3 : z28 = (4 : Int32)
          · have h := (if_pos c3).symm.trans h
            refine wa_tabI fx 151 (4 : Int) dX4_likes_107 (by rw [c3] <;> rfl) (by decide) (by decide) (by rfl) (by decide) ?_
            refine wa_iload fx 6 dX4_likes_151 rfl ?_
            refine wa_if_eq fx 164 dX4_likes_153 (by decide) h (fun h => ?_) (fun h => ?_)
            · refine wa_iload fx 0 dX4_likes_164 rfl ?_
              exact fn_i (mo_ws g ad) fx hf (Option.some.inj h) rfl dX4_likes_166
            · refine wa_iload fx 0 dX4_likes_156 rfl ?_
              refine wa_bipush fx (10 : Int32) dX4_likes_158 (by decide) ?_
              refine wa_iadd fx dX4_likes_160 ?_
              refine wa_goto fx 166 dX4_likes_161 (by decide) ?_
              exact fn_i (mo_ws g ad) fx hf (Option.some.inj h) rfl dX4_likes_166
          · have h := (if_neg c3).symm.trans h
            by_cases c4 : z28 = (5 : Int32)
            · have h := (if_pos c4).symm.trans h
              refine wa_tabI fx 167 (5 : Int) dX4_likes_107 (by rw [c4] <;> rfl) (by decide) (by decide) (by rfl) (by decide) ?_
              refine wa_iload_n fx 3 dX4_likes_167 rfl ?_
              refine wa_bipush fx (7 : Int32) dX4_likes_168 (by decide) ?_
              refine wa_icmp_ne fx 181 dX4_likes_170 (by decide) h (fun h => ?_) (fun h => ?_)
              · refine wa_iload fx 5 dX4_likes_173 rfl ?_
                refine wa_bipush fx (6 : Int32) dX4_likes_175 (by decide) ?_
                refine wa_iadd fx dX4_likes_177 ?_
                refine wa_goto fx 183 dX4_likes_178 (by decide) ?_
                exact fn_i (mo_ws g ad) fx hf (Option.some.inj h) rfl dX4_likes_183
              · refine wa_iload fx 5 dX4_likes_181 rfl ?_
                exact fn_i (mo_ws g ad) fx hf (Option.some.inj h) rfl dX4_likes_183
            · have h := (if_neg c4).symm.trans h
              refine wa_tabD fx 184 dX4_likes_107 (by decide) [(1 : Int32), (2 : Int32), (3 : Int32), (4 : Int32), (5 : Int32)] (by decide) (List.forall_mem_cons.mpr ⟨c0, (List.forall_mem_cons.mpr ⟨c1, (List.forall_mem_cons.mpr ⟨c2, (List.forall_mem_cons.mpr ⟨c3, (List.forall_mem_cons.mpr ⟨c4, (fun _ hm => absurd hm List.not_mem_nil)⟩)⟩)⟩)⟩)⟩) ?_
              refine wa_iload fx 4 dX4_likes_184 rfl ?_
              exact fn_i (mo_ws g ad) fx hf (Option.some.inj h) rfl dX4_likes_186
  have B76 : ∀  (x17 : Int32) (x18 : Int32) (x19 : Int32) (x20 : Int32) (x21 : Int32), f_X4_likes_b76 st x17 x18 x19 x20 x21 = some r → WA g K 9 0 0 76 [(0, .ref (ad 0)), (1, .int x17), (2, .int x18), (5, .int x19), (6, .int x20)] [.int x21] (mo_ws g ad st) := by
    intro   x17 x18 x19 x20 x21 h
    rw [f_X4_likes_b76] at h
    refine wa_istore fx [(7, .int x21), (0, .ref (ad 0)), (1, .int x17), (2, .int x18), (5, .int x19), (6, .int x20)] dX4_likes_76 (by decide) rfl ?_
    refine wa_iload fx 0 dX4_likes_78 rfl ?_
    refine wa_if_eq fx 97 dX4_likes_80 (by decide) h (fun h => ?_) (fun h => ?_)
    · refine wa_iload fx 4 dX4_likes_97 rfl ?_
      refine wa_sub [1, 2, 3, 4, 5, 0] rfl ?_
      exact B99 x17 x18 x19 x20 x21 x19 h
    · refine wa_iload fx 4 dX4_likes_83 rfl ?_
      refine wa_aload_n fx 1 dX4_likes_85 rfl ?_
      refine wa_iload_n fx 2 dX4_likes_86 rfl ?_
      refine wa_iconst fx (1 : Int32) dX4_likes_87 (by decide) ?_
      refine wa_V (b := ad 0) (rmc := (rmh 2)) (As := [.int x17, .int (1 : Int32)]) (st := [.int x19]) (wc := (mo_ws g ad st)) (wr := ([] : va_W)) (wcz := fun _ => (mo_ws g ad st)) (w2 := fun _ => (mo_ws g ad st)) (o := fun z29 => some (.int z29)) (s2 := fun z29 => [.int z29, .int x19]) (ci := 4) (q0 := 0) fx mm_X4_its q_6_10 dX4_likes_88 h (fun _ hz => c_X4_its hz) rfl rfl (rm_ok (by decide) (by decide)) ⟨Nat.zero_le _, Nat.zero_le _⟩ rfl (List.Perm.refl _) (fun _ => (List.Perm.refl _)) rfl (Nat.le_of_ble_eq_true rfl) (fun _ => rfl) (fun z29 h => ?_)
      refine wa_iconst fx (4 : Int32) dX4_likes_91 (by decide) ?_
      refine wa_idiv fx dX4_likes_92 (by decide) ?_
      refine wa_iadd fx dX4_likes_93 ?_
      refine wa_goto fx 99 dX4_likes_94 (by decide) ?_
      refine wa_sub [1, 2, 3, 4, 5, 0] rfl ?_
      exact B99 x17 x18 x19 x20 x21 (x19 + (z29 / (4 : Int32))) h
  have B49 : ∀  (x10 : Int32) (x11 : Int32) (x12 : Int32) (x13 : Int32) (x14 : Int32), f_X4_likes_b49 st x10 x11 x12 x13 x14 = some r → WA g K 9 0 0 49 [(0, .ref (ad 0)), (1, .int x10), (2, .int x11), (3, .int x12), (4, .int x13)] [.int x14] (mo_ws g ad st) := by
    intro   x10 x11 x12 x13 x14 h
    rw [f_X4_likes_b49] at h
    refine wa_istore fx [(5, .int x14), (0, .ref (ad 0)), (1, .int x10), (2, .int x11), (3, .int x12), (4, .int x13)] dX4_likes_49 (by decide) rfl ?_
    refine wa_iload_n fx 4 dX4_likes_51 rfl ?_
    refine wa_iconst fx (2 : Int32) dX4_likes_52 (by decide) ?_
    refine wa_idiv fx dX4_likes_53 (by decide) ?_
    refine wa_iconst fx (2 : Int32) dX4_likes_54 (by decide) ?_
    refine wa_iload fx 5 dX4_likes_55 rfl ?_
    refine wa_imul fx dX4_likes_57 ?_
    refine wa_isub fx dX4_likes_58 ?_
    refine wa_istoreN fx (fun x15 => [(6, .int x15), (5, .int x14), (0, .ref (ad 0)), (1, .int x10), (2, .int x11), (3, .int x12), (4, .int x13)]) dX4_likes_59 (by decide) (fun _ => rfl) h (fun x15 h => ?_)
    refine wa_aload_n fx 2 dX4_likes_61 rfl ?_
    refine wa_iload_n fx 3 dX4_likes_62 rfl ?_
    refine wa_iconst fx (2 : Int32) dX4_likes_63 (by decide) ?_
    refine wa_V (b := ad 0) (rmc := (rmh 2)) (As := [.int x10, .int (2 : Int32)]) (st := []) (wc := (mo_ws g ad st)) (wr := ([] : va_W)) (wcz := fun _ => (mo_ws g ad st)) (w2 := fun _ => (mo_ws g ad st)) (o := fun z16 => some (.int z16)) (s2 := fun z16 => [.int z16]) (ci := 4) (q0 := 0) fx mm_X4_its q_6_10 dX4_likes_64 h (fun _ hz => c_X4_its hz) rfl rfl (rm_ok (by decide) (by decide)) ⟨Nat.zero_le _, Nat.zero_le _⟩ rfl (List.Perm.refl _) (fun _ => (List.Perm.refl _)) rfl (Nat.le_of_ble_eq_true rfl) (fun _ => rfl) (fun z16 h => ?_)
    refine wa_iload_n fx 4 dX4_likes_67 rfl ?_
    refine wa_icmp_ne fx 75 dX4_likes_68 (by decide) h (fun h => ?_) (fun h => ?_)
    · refine wa_iconst fx (1 : Int32) dX4_likes_71 (by decide) ?_
      refine wa_goto fx 76 dX4_likes_72 (by decide) ?_
      refine wa_sub [2, 3, 4, 1, 0] rfl ?_
      exact B76 x10 x11 x14 x15 (1 : Int32) h
    · refine wa_iconst fx (0 : Int32) dX4_likes_75 (by decide) ?_
      refine wa_sub [2, 3, 4, 1, 0] rfl ?_
      exact B76 x10 x11 x14 x15 (0 : Int32) h
  have B45 : ∀  (x6 : Int32) (x7 : Int32) (x8 : Int32) (x9 : Int32), f_X4_likes_b45 st x6 x7 x8 x9 = some r → WA g K 9 0 0 45 [(0, .ref (ad 0)), (1, .int x6), (2, .int x7), (3, .int x8), (4, .int x9)] [] (mo_ws g ad st) := by
    intro   x6 x7 x8 x9 h
    rw [f_X4_likes_b45] at h
    refine wa_iload_n fx 3 dX4_likes_45 rfl ?_
    refine wa_iload fx 4 dX4_likes_46 rfl ?_
    refine wa_isub fx dX4_likes_48 ?_
    refine wa_sub [0, 1, 2, 3, 4] rfl ?_
    exact B49 x6 x7 x8 x9 (x8 - x9) h
  refine wa_aload_n fx 0 dX4_likes_0 rfl ?_
  refine wa_get (v := .ref (ad 1)) fx wm_X4 0 rfl rfl 0 (by decide) q_3_15 rfl rfl dX4_likes_1 ?_
  refine wa_iload_n fx 2 dX4_likes_4 rfl ?_
  refine wa_iconst fx (0 : Int32) dX4_likes_5 (by decide) ?_
  refine wa_S (rmc := (rmh 1)) (As := [.int a2, .int (0 : Int32)]) (st := [.ref (ad 1)]) (wc := (no_ws ())) (wr := (mo_ws g ad st)) (wcz := fun _ => (no_ws ())) (w2 := fun _ => (mo_ws g ad st)) (o := fun z1 => some (.int z1)) (s2 := fun z1 => [.int z1, .ref (ad 1)]) fx mm_X4_chairAt q_4_2 dX4_likes_6 h (fun _ hz => c_X4_chairAt hz) (rm_ok (by decide) (by decide)) ⟨Nat.zero_le _, Nat.zero_le _⟩ rfl (List.Perm.of_eq (List.append_nil _).symm) (fun _ => (List.Perm.of_eq (List.append_nil _).symm)) rfl (Nat.le_of_ble_eq_true rfl) (fun _ => rfl) (fun z1 h => ?_)
  refine wa_iald (f := st.1 0) fx 1 rfl dX4_likes_9 h (fun h => ?_)
  refine wa_istore_nN fx (fun x2 => [(3, .int x2), (0, .ref (ad 0)), (1, .int a1), (2, .int a2)]) dX4_likes_10 rfl (by decide) (fun _ => rfl) h (fun x2 h => ?_)
  refine wa_aload_n fx 1 dX4_likes_11 rfl ?_
  refine wa_get (v := .ref (ad 1)) fx wm_X4 0 rfl rfl 0 (by decide) q_3_15 rfl rfl dX4_likes_12 ?_
  refine wa_iload_n fx 3 dX4_likes_15 rfl ?_
  refine wa_iconst fx (1 : Int32) dX4_likes_16 (by decide) ?_
  refine wa_S (rmc := (rmh 1)) (As := [.int a2, .int (1 : Int32)]) (st := [.ref (ad 1)]) (wc := (no_ws ())) (wr := (mo_ws g ad st)) (wcz := fun _ => (no_ws ())) (w2 := fun _ => (mo_ws g ad st)) (o := fun z3 => some (.int z3)) (s2 := fun z3 => [.int z3, .ref (ad 1)]) fx mm_X4_chairAt q_4_2 dX4_likes_17 h (fun _ hz => c_X4_chairAt hz) (rm_ok (by decide) (by decide)) ⟨Nat.zero_le _, Nat.zero_le _⟩ rfl (List.Perm.of_eq (List.append_nil _).symm) (fun _ => (List.Perm.of_eq (List.append_nil _).symm)) rfl (Nat.le_of_ble_eq_true rfl) (fun _ => rfl) (fun z3 h => ?_)
  refine wa_iald (f := st.1 0) fx 1 rfl dX4_likes_20 h (fun h => ?_)
  refine wa_istoreN fx (fun x4 => [(4, .int x4), (3, .int x2), (0, .ref (ad 0)), (1, .int a1), (2, .int a2)]) dX4_likes_21 (by decide) (fun _ => rfl) h (fun x4 h => ?_)
  refine wa_aload_n fx 2 dX4_likes_23 rfl ?_
  refine wa_V (b := ad 0) (rmc := (rmh 2)) (As := []) (st := []) (wc := (mo_ws g ad st)) (wr := ([] : va_W)) (wcz := fun _ => (mo_ws g ad st)) (w2 := fun _ => (mo_ws g ad st)) (o := fun z5 => some (.int z5)) (s2 := fun z5 => [.int z5]) (ci := 4) (q0 := 0) fx mm_X4_isSunny q_14_19 dX4_likes_24 h (fun _ hz => c_X4_isSunny hz) rfl rfl (rm_ok (by decide) (by decide)) ⟨Nat.zero_le _, Nat.zero_le _⟩ rfl (List.Perm.refl _) (fun _ => (List.Perm.refl _)) rfl (Nat.le_of_ble_eq_true rfl) (fun _ => rfl) (fun z5 h => ?_)
  refine wa_if_eq fx 45 dX4_likes_27 (by decide) h (fun h => ?_) (fun h => ?_)
  · refine wa_sub [2, 3, 4, 1, 0] rfl ?_
    exact B45 a1 a2 x2 x4 h
  · refine wa_iload_n fx 1 dX4_likes_30 rfl ?_
    refine wa_bipush fx (10 : Int32) dX4_likes_31 (by decide) ?_
    refine wa_icmp_le fx 45 dX4_likes_33 (by decide) h (fun h => ?_) (fun h => ?_)
    · refine wa_sub [2, 3, 4, 1, 0] rfl ?_
      exact B45 a1 a2 x2 x4 h
    · refine wa_iload_n fx 1 dX4_likes_36 rfl ?_
      refine wa_iload fx 0 dX4_likes_37 rfl ?_
      refine wa_isub fx dX4_likes_39 ?_
      refine wa_iconst fx (4 : Int32) dX4_likes_40 (by decide) ?_
      refine wa_isub fx dX4_likes_41 ?_
      refine wa_goto fx 49 dX4_likes_42 (by decide) ?_
      refine wa_sub [2, 3, 4, 1, 0] rfl ?_
      exact B49 a1 a2 x2 x4 ((x2 - x4) - (4 : Int32)) h
def f_X4_minds_b15 (st : StT) (x2 : Int32) (x3 : Int32) (x4 : Int32) : Option (Int32) := Option.bind (f_X4_its st x2 (0 : Int32)) fun z5 => if z5 = (2 : Int32) then (some ((2 : Int32) * x4)) else (if z5 = (3 : Int32) then (some (0 : Int32)) else (if z5 = (4 : Int32) then (some (x4 - (2 : Int32))) else (if z5 = (5 : Int32) then (Option.bind (f_X4_its st x3 (0 : Int32)) fun z6 => if z6 = (2 : Int32) then (some (-1 : Int32)) else (some (0 : Int32))) else (some x4))))
def f_X4_minds (st : StT) (a1 : Int32) (a2 : Int32) : Option (Int32) := Option.bind (f_X4_isQuarrel st a1 a2) fun z1 => if z1 = 0 then (f_X4_minds_b15 st a1 a2 (1 : Int32)) else (f_X4_minds_b15 st a1 a2 (-6 : Int32))
set_option maxHeartbeats 4000000 in
set_option maxRecDepth 100000 in
theorem c_X4_minds {g : GT} {l : Launch} {ad : Nat → Nat}   {st : StT} {a1 : Int32} {a2 : Int32} {r : Int32} (h : f_X4_minds st a1 a2 = some r) : Ct g l yX4_minds (wd yX4_minds cX4_minds 4 (some .int)) (rmh 4) [.ref (ad 0), .int a1, .int a2] (mo_ws g ad st) (mo_ws g ad st) (some (.int r)) := by
  refine Ct.of (lv := [(0, .ref (ad 0)), (1, .int a1), (2, .int a2)]) (by decide) (Nat.le_of_ble_eq_true rfl) rfl (fun K hl fx hf => ?_)
  subst hl
  rw [f_X4_minds] at h
  have B15 : ∀  (x2 : Int32) (x3 : Int32) (x4 : Int32), f_X4_minds_b15 st x2 x3 x4 = some r → WA g K 4 0 0 15 [(0, .ref (ad 0)), (1, .int x2), (2, .int x3)] [.int x4] (mo_ws g ad st) := by
    intro   x2 x3 x4 h
    rw [f_X4_minds_b15] at h
    refine wa_istore_n fx [(3, .int x4), (0, .ref (ad 0)), (1, .int x2), (2, .int x3)] dX4_minds_15 rfl (by decide) rfl ?_
    refine wa_aload_n fx 1 dX4_minds_16 rfl ?_
    refine wa_iload_n fx 2 dX4_minds_17 rfl ?_
    refine wa_iconst fx (0 : Int32) dX4_minds_18 (by decide) ?_
    refine wa_V (b := ad 0) (rmc := (rmh 2)) (As := [.int x2, .int (0 : Int32)]) (st := []) (wc := (mo_ws g ad st)) (wr := ([] : va_W)) (wcz := fun _ => (mo_ws g ad st)) (w2 := fun _ => (mo_ws g ad st)) (o := fun z5 => some (.int z5)) (s2 := fun z5 => [.int z5]) (ci := 4) (q0 := 0) fx mm_X4_its q_6_10 dX4_minds_19 h (fun _ hz => c_X4_its hz) rfl rfl (rm_ok (by decide) (by decide)) ⟨Nat.zero_le _, Nat.zero_le _⟩ rfl (List.Perm.refl _) (fun _ => (List.Perm.refl _)) rfl (Nat.le_of_ble_eq_true rfl) (fun _ => rfl) (fun z5 h => ?_)
    by_cases c0 : z5 = (2 : Int32)
    · have h := (if_pos c0).symm.trans h
      refine wa_tabI fx 52 (2 : Int) dX4_minds_22 (by rw [c0] <;> rfl) (by decide) (by decide) (by rfl) (by decide) ?_
      refine wa_iconst fx (2 : Int32) dX4_minds_52 (by decide) ?_
      refine wa_iload_n fx 0 dX4_minds_53 rfl ?_
      refine wa_imul fx dX4_minds_54 ?_
      exact fn_i (mo_ws g ad) fx hf (Option.some.inj h) rfl dX4_minds_55
    · have h := (if_neg c0).symm.trans h
      by_cases c1 : z5 = (3 : Int32)
      · have h := (if_pos c1).symm.trans h
        refine wa_tabI fx 56 (3 : Int) dX4_minds_22 (by rw [c1] <;> rfl) (by decide) (by decide) (by rfl) (by decide) ?_
        refine wa_iconst fx (0 : Int32) dX4_minds_56 (by decide) ?_
        exact fn_i (mo_ws g ad) fx hf (Option.some.inj h) rfl dX4_minds_57
      · have h := (if_neg c1).symm.trans h
        by_cases c2 : z5 = (4 : Int32)
        · have h := (if_pos c2).symm.trans h
          refine wa_tabI fx 58 (4 : Int) dX4_minds_22 (by rw [c2] <;> rfl) (by decide) (by decide) (by rfl) (by decide) ?_
          refine wa_iload_n fx 0 dX4_minds_58 rfl ?_
          refine wa_iconst fx (2 : Int32) dX4_minds_59 (by decide) ?_
          refine wa_isub fx dX4_minds_60 ?_
          exact fn_i (mo_ws g ad) fx hf (Option.some.inj h) rfl dX4_minds_61
        · have h := (if_neg c2).symm.trans h
          by_cases c3 : z5 = (5 : Int32)
          · have h := (if_pos c3).symm.trans h
            refine wa_tabI fx 62 (5 : Int) dX4_minds_22 (by rw [c3] <;> rfl) (by decide) (by decide) (by rfl) (by decide) ?_
            refine wa_aload_n fx 1 dX4_minds_62 rfl ?_
            refine wa_iload_n fx 3 dX4_minds_63 rfl ?_
            refine wa_iconst fx (0 : Int32) dX4_minds_64 (by decide) ?_
            refine wa_V (b := ad 0) (rmc := (rmh 2)) (As := [.int x3, .int (0 : Int32)]) (st := []) (wc := (mo_ws g ad st)) (wr := ([] : va_W)) (wcz := fun _ => (mo_ws g ad st)) (w2 := fun _ => (mo_ws g ad st)) (o := fun z6 => some (.int z6)) (s2 := fun z6 => [.int z6]) (ci := 4) (q0 := 0) fx mm_X4_its q_6_10 dX4_minds_65 h (fun _ hz => c_X4_its hz) rfl rfl (rm_ok (by decide) (by decide)) ⟨Nat.zero_le _, Nat.zero_le _⟩ rfl (List.Perm.refl _) (fun _ => (List.Perm.refl _)) rfl (Nat.le_of_ble_eq_true rfl) (fun _ => rfl) (fun z6 h => ?_)
            refine wa_iconst fx (2 : Int32) dX4_minds_68 (by decide) ?_
            refine wa_icmp_ne fx 76 dX4_minds_69 (by decide) h (fun h => ?_) (fun h => ?_)
            · refine wa_iconst fx (-1 : Int32) dX4_minds_72 (by decide) ?_
              refine wa_goto fx 77 dX4_minds_73 (by decide) ?_
              exact fn_i (mo_ws g ad) fx hf (Option.some.inj h) rfl dX4_minds_77
            · refine wa_iconst fx (0 : Int32) dX4_minds_76 (by decide) ?_
              exact fn_i (mo_ws g ad) fx hf (Option.some.inj h) rfl dX4_minds_77
          · have h := (if_neg c3).symm.trans h
            refine wa_tabD fx 78 dX4_minds_22 (by decide) [(2 : Int32), (3 : Int32), (4 : Int32), (5 : Int32)] (by decide) (List.forall_mem_cons.mpr ⟨c0, (List.forall_mem_cons.mpr ⟨c1, (List.forall_mem_cons.mpr ⟨c2, (List.forall_mem_cons.mpr ⟨c3, (fun _ hm => absurd hm List.not_mem_nil)⟩)⟩)⟩)⟩) ?_
            refine wa_iload_n fx 0 dX4_minds_78 rfl ?_
            exact fn_i (mo_ws g ad) fx hf (Option.some.inj h) rfl dX4_minds_79
  refine wa_aload_n fx 0 dX4_minds_0 rfl ?_
  refine wa_iload_n fx 1 dX4_minds_1 rfl ?_
  refine wa_iload_n fx 2 dX4_minds_2 rfl ?_
  refine wa_V (b := ad 0) (rmc := (rmh 3)) (As := [.int a1, .int a2]) (st := []) (wc := (mo_ws g ad st)) (wr := ([] : va_W)) (wcz := fun _ => (mo_ws g ad st)) (w2 := fun _ => (mo_ws g ad st)) (o := fun z1 => some (.int z1)) (s2 := fun z1 => [.int z1]) (ci := 4) (q0 := 0) fx mm_X4_isQuarrel q_11_20 dX4_minds_3 h (fun _ hz => c_X4_isQuarrel hz) rfl rfl (rm_ok (by decide) (by decide)) ⟨Nat.zero_le _, Nat.zero_le _⟩ rfl (List.Perm.refl _) (fun _ => (List.Perm.refl _)) rfl (Nat.le_of_ble_eq_true rfl) (fun _ => rfl) (fun z1 h => ?_)
  refine wa_if_eq fx 14 dX4_minds_6 (by decide) h (fun h => ?_) (fun h => ?_)
  · refine wa_iconst fx (1 : Int32) dX4_minds_14 (by decide) ?_
    refine wa_sub [0, 1, 2] rfl ?_
    exact B15 a1 a2 (1 : Int32) h
  · refine wa_bipush fx (-6 : Int32) dX4_minds_9 (by decide) ?_
    refine wa_goto fx 15 dX4_minds_11 (by decide) ?_
    refine wa_sub [0, 1, 2] rfl ?_
    exact B15 a1 a2 (-6 : Int32) h
def f_X4_sits_b85 (k10 : (Int32) → (Int32) → (Int32) → (Int32) → Option (Int32)) (st : StT) (x26 : Int32) (x27 : Int32) (x28 : Int32) (x29 : Int32) (x30 : Int32) : Option (Int32) := nm (x30 + x29) fun x31 => nm (x28 + (1 : Int32)) fun x32 => k10 x26 x27 x31 x32
def f_X4_sits_b84 (k10 : (Int32) → (Int32) → (Int32) → (Int32) → Option (Int32)) (st : StT) (x22 : Int32) (x23 : Int32) (x24 : Int32) (x25 : Int32) : Option (Int32) := f_X4_sits_b85 k10 st x22 x23 x24 (0 : Int32) x25
def f_X4_sits_b60 (k10 : (Int32) → (Int32) → (Int32) → (Int32) → Option (Int32)) (st : StT) (x17 : Int32) (x18 : Int32) (x19 : Int32) (x20 : Int32) (x21 : Int32) : Option (Int32) := if x20 = x17 then (f_X4_sits_b84 k10 st x17 x18 x20 x19) else (if x21 = 0 then (f_X4_sits_b84 k10 st x17 x18 x20 x19) else (Option.bind (f_X4_minds st x17 x20) fun z33 => f_X4_sits_b85 k10 st x17 x18 x20 z33 x19))
def f_X4_sits_b59 (k10 : (Int32) → (Int32) → (Int32) → (Int32) → Option (Int32)) (st : StT) (x13 : Int32) (x14 : Int32) (x15 : Int32) (x16 : Int32) : Option (Int32) := f_X4_sits_b60 k10 st x13 x14 x15 x16 (0 : Int32)
def f_X4_sits_b55 (k10 : (Int32) → (Int32) → (Int32) → (Int32) → Option (Int32)) (st : StT) (x34 : Int32) (x35 : Int32) (x36 : Int32) (x37 : Int32) : Option (Int32) := f_X4_sits_b60 k10 st x34 x35 x36 x37 (1 : Int32)
def f_X4_sits_l10 (st : StT) : Nat → (Int32) → (Int32) → (Int32) → (Int32) → Option (Int32)
  | 0, _, _, _, _ => none
  | n + 1, x6, x7, x8, x9 => ck (0 : Int32) 66 (if (st.1 0 (Int32.toNatClampNeg (0 : Int32))) ≤ x9 then (some x8) else (Option.bind (f_X4_its st x9 (5 : Int32)) fun z10 => nm (z10 - x7) fun x11 => Option.bind (f_X4_its st x9 (5 : Int32)) fun z12 => if z12 = (-1 : Int32) then (f_X4_sits_b59 (f_X4_sits_l10 st n) st x6 x7 x8 x9) else (if x11 = (1 : Int32) then (f_X4_sits_b55 (f_X4_sits_l10 st n) st x6 x7 x8 x9) else (if x11 = (-1 : Int32) then (f_X4_sits_b55 (f_X4_sits_l10 st n) st x6 x7 x8 x9) else (f_X4_sits_b59 (f_X4_sits_l10 st n) st x6 x7 x8 x9)))))
def f_X4_sits (st : StT) (a1 : Int32) (a2 : Int32) : Option (Int32) := Option.bind (f_X4_likes st a1 a2) fun z1 => f_X4_sits_l10 st 200 a1 a2 z1 (0 : Int32)
set_option maxHeartbeats 4000000 in
set_option maxRecDepth 100000 in
theorem c_X4_sits {g : GT} {l : Launch} {ad : Nat → Nat}   {st : StT} {a1 : Int32} {a2 : Int32} {r : Int32} (h : f_X4_sits st a1 a2 = some r) : Ct g l yX4_sits (wd yX4_sits cX4_sits 7 (some .int)) (rmh 5) [.ref (ad 0), .int a1, .int a2] (mo_ws g ad st) (mo_ws g ad st) (some (.int r)) := by
  refine Ct.of (lv := [(0, .ref (ad 0)), (1, .int a1), (2, .int a2)]) (by decide) (Nat.le_of_ble_eq_true rfl) rfl (fun K hl fx hf => ?_)
  subst hl
  rw [f_X4_sits] at h
  have B85 : ∀ (k10 : (Int32) → (Int32) → (Int32) → (Int32) → Option (Int32)) (Hk10 : ∀ (y2 : Int32) (y3 : Int32) (y4 : Int32) (y5 : Int32), k10 y2 y3 y4 y5 = some r → WA g K 7 0 0 10 [(0, .ref (ad 0)), (1, .int y2), (2, .int y3), (3, .int y4), (4, .int y5)] [] (mo_ws g ad st)) (x26 : Int32) (x27 : Int32) (x28 : Int32) (x29 : Int32) (x30 : Int32), f_X4_sits_b85 k10 st x26 x27 x28 x29 x30 = some r → WA g K 7 0 0 85 [(0, .ref (ad 0)), (1, .int x26), (2, .int x27), (4, .int x28)] [.int x29, .int x30] (mo_ws g ad st) := by
    intro  k10 Hk10 x26 x27 x28 x29 x30 h
    rw [f_X4_sits_b85] at h
    refine wa_iadd fx dX4_sits_85 ?_
    refine wa_istore_nN fx (fun x31 => [(3, .int x31), (0, .ref (ad 0)), (1, .int x26), (2, .int x27), (4, .int x28)]) dX4_sits_86 rfl (by decide) (fun _ => rfl) h (fun x31 h => ?_)
    refine wa_iinc fx 4 (fun x32 => [(4, .int x32), (3, .int x31), (0, .ref (ad 0)), (1, .int x26), (2, .int x27)]) dX4_sits_87 rfl (by rfl) (by decide) (fun _ => rfl) h (fun x32 h => ?_)
    refine wa_goto fx 10 dX4_sits_90 (by decide) ?_
    refine wa_sub [2, 3, 4, 1, 0] rfl ?_
    exact Hk10 x26 x27 x31 x32 h
  have B84 : ∀ (k10 : (Int32) → (Int32) → (Int32) → (Int32) → Option (Int32)) (Hk10 : ∀ (y2 : Int32) (y3 : Int32) (y4 : Int32) (y5 : Int32), k10 y2 y3 y4 y5 = some r → WA g K 7 0 0 10 [(0, .ref (ad 0)), (1, .int y2), (2, .int y3), (3, .int y4), (4, .int y5)] [] (mo_ws g ad st)) (x22 : Int32) (x23 : Int32) (x24 : Int32) (x25 : Int32), f_X4_sits_b84 k10 st x22 x23 x24 x25 = some r → WA g K 7 0 0 84 [(0, .ref (ad 0)), (1, .int x22), (2, .int x23), (4, .int x24)] [.int x25] (mo_ws g ad st) := by
    intro  k10 Hk10 x22 x23 x24 x25 h
    rw [f_X4_sits_b84] at h
    refine wa_iconst fx (0 : Int32) dX4_sits_84 (by decide) ?_
    refine wa_sub [0, 1, 2, 3] rfl ?_
    exact B85 k10 Hk10 x22 x23 x24 (0 : Int32) x25 h
  have B60 : ∀ (k10 : (Int32) → (Int32) → (Int32) → (Int32) → Option (Int32)) (Hk10 : ∀ (y2 : Int32) (y3 : Int32) (y4 : Int32) (y5 : Int32), k10 y2 y3 y4 y5 = some r → WA g K 7 0 0 10 [(0, .ref (ad 0)), (1, .int y2), (2, .int y3), (3, .int y4), (4, .int y5)] [] (mo_ws g ad st)) (x17 : Int32) (x18 : Int32) (x19 : Int32) (x20 : Int32) (x21 : Int32), f_X4_sits_b60 k10 st x17 x18 x19 x20 x21 = some r → WA g K 7 0 0 60 [(0, .ref (ad 0)), (1, .int x17), (2, .int x18), (3, .int x19), (4, .int x20)] [.int x21] (mo_ws g ad st) := by
    intro  k10 Hk10 x17 x18 x19 x20 x21 h
    rw [f_X4_sits_b60] at h
    refine wa_istore fx [(6, .int x21), (0, .ref (ad 0)), (1, .int x17), (2, .int x18), (3, .int x19), (4, .int x20)] dX4_sits_60 (by decide) rfl ?_
    refine wa_iload_n fx 4 dX4_sits_62 rfl ?_
    refine wa_iload fx 5 dX4_sits_63 rfl ?_
    refine wa_iload_n fx 2 dX4_sits_65 rfl ?_
    refine wa_icmp_eq fx 84 dX4_sits_66 (by decide) h (fun h => ?_) (fun h => ?_)
    · refine wa_sub [1, 2, 3, 5] rfl ?_
      exact B84 k10 Hk10 x17 x18 x20 x19 h
    · refine wa_iload fx 0 dX4_sits_69 rfl ?_
      refine wa_if_eq fx 84 dX4_sits_71 (by decide) h (fun h => ?_) (fun h => ?_)
      · refine wa_sub [1, 2, 3, 5] rfl ?_
        exact B84 k10 Hk10 x17 x18 x20 x19 h
      · refine wa_aload_n fx 1 dX4_sits_74 rfl ?_
        refine wa_iload_n fx 2 dX4_sits_75 rfl ?_
        refine wa_iload fx 5 dX4_sits_76 rfl ?_
        refine wa_V (b := ad 0) (rmc := (rmh 4)) (As := [.int x17, .int x20]) (st := [.int x19]) (wc := (mo_ws g ad st)) (wr := ([] : va_W)) (wcz := fun _ => (mo_ws g ad st)) (w2 := fun _ => (mo_ws g ad st)) (o := fun z33 => some (.int z33)) (s2 := fun z33 => [.int z33, .int x19]) (ci := 4) (q0 := 0) fx mm_X4_minds q_15_3 dX4_sits_78 h (fun _ hz => c_X4_minds hz) rfl rfl (rm_ok (by decide) (by decide)) ⟨Nat.zero_le _, Nat.zero_le _⟩ rfl (List.Perm.refl _) (fun _ => (List.Perm.refl _)) rfl (Nat.le_of_ble_eq_true rfl) (fun _ => rfl) (fun z33 h => ?_)
        refine wa_goto fx 85 dX4_sits_81 (by decide) ?_
        refine wa_sub [1, 2, 3, 5] rfl ?_
        exact B85 k10 Hk10 x17 x18 x20 z33 x19 h
  have B59 : ∀ (k10 : (Int32) → (Int32) → (Int32) → (Int32) → Option (Int32)) (Hk10 : ∀ (y2 : Int32) (y3 : Int32) (y4 : Int32) (y5 : Int32), k10 y2 y3 y4 y5 = some r → WA g K 7 0 0 10 [(0, .ref (ad 0)), (1, .int y2), (2, .int y3), (3, .int y4), (4, .int y5)] [] (mo_ws g ad st)) (x13 : Int32) (x14 : Int32) (x15 : Int32) (x16 : Int32), f_X4_sits_b59 k10 st x13 x14 x15 x16 = some r → WA g K 7 0 0 59 [(0, .ref (ad 0)), (1, .int x13), (2, .int x14), (3, .int x15), (4, .int x16)] [] (mo_ws g ad st) := by
    intro  k10 Hk10 x13 x14 x15 x16 h
    rw [f_X4_sits_b59] at h
    refine wa_iconst fx (0 : Int32) dX4_sits_59 (by decide) ?_
    refine wa_sub [0, 1, 2, 3, 4] rfl ?_
    exact B60 k10 Hk10 x13 x14 x15 x16 (0 : Int32) h
  have B55 : ∀ (k10 : (Int32) → (Int32) → (Int32) → (Int32) → Option (Int32)) (Hk10 : ∀ (y2 : Int32) (y3 : Int32) (y4 : Int32) (y5 : Int32), k10 y2 y3 y4 y5 = some r → WA g K 7 0 0 10 [(0, .ref (ad 0)), (1, .int y2), (2, .int y3), (3, .int y4), (4, .int y5)] [] (mo_ws g ad st)) (x34 : Int32) (x35 : Int32) (x36 : Int32) (x37 : Int32), f_X4_sits_b55 k10 st x34 x35 x36 x37 = some r → WA g K 7 0 0 55 [(0, .ref (ad 0)), (1, .int x34), (2, .int x35), (3, .int x36), (4, .int x37)] [] (mo_ws g ad st) := by
    intro  k10 Hk10 x34 x35 x36 x37 h
    rw [f_X4_sits_b55] at h
    refine wa_iconst fx (1 : Int32) dX4_sits_55 (by decide) ?_
    refine wa_goto fx 60 dX4_sits_56 (by decide) ?_
    refine wa_sub [0, 1, 2, 3, 4] rfl ?_
    exact B60 k10 Hk10 x34 x35 x36 x37 (1 : Int32) h
  have B10 : ∀  (n : Nat) (x6 : Int32) (x7 : Int32) (x8 : Int32) (x9 : Int32), f_X4_sits_l10 st n x6 x7 x8 x9 = some r → WA g K 7 0 0 10 [(0, .ref (ad 0)), (1, .int x6), (2, .int x7), (3, .int x8), (4, .int x9)] [] (mo_ws g ad st) := by
    intro   n
    induction n with
    | zero => intro x6 x7 x8 x9 h; exact absurd h (by rw [f_X4_sits_l10]; exact nofun)
    | succ n ih =>
      intro x6 x7 x8 x9 h
      rw [f_X4_sits_l10] at h
      refine wa_iload fx 4 dX4_sits_10 rfl ?_
      refine wa_aload_n fx 0 dX4_sits_12 rfl ?_
      refine wa_get (v := .ref (ad 1)) fx wm_X4 0 rfl rfl 0 (by decide) q_3_15 rfl rfl dX4_sits_13 ?_
      refine wa_iconst fx (0 : Int32) dX4_sits_16 (by decide) ?_
      refine wa_iald (f := st.1 0) fx 1 rfl dX4_sits_17 h (fun h => ?_)
      refine wa_icmp_ge fx 93 dX4_sits_18 (by decide) h (fun h => ?_) (fun h => ?_)
      · refine wa_iload_n fx 3 dX4_sits_93 rfl ?_
        exact fn_i (mo_ws g ad) fx hf (Option.some.inj h) rfl dX4_sits_94
      · refine wa_aload_n fx 0 dX4_sits_21 rfl ?_
        refine wa_iload fx 4 dX4_sits_22 rfl ?_
        refine wa_iconst fx (5 : Int32) dX4_sits_24 (by decide) ?_
        refine wa_V (b := ad 0) (rmc := (rmh 2)) (As := [.int x9, .int (5 : Int32)]) (st := []) (wc := (mo_ws g ad st)) (wr := ([] : va_W)) (wcz := fun _ => (mo_ws g ad st)) (w2 := fun _ => (mo_ws g ad st)) (o := fun z10 => some (.int z10)) (s2 := fun z10 => [.int z10]) (ci := 4) (q0 := 0) fx mm_X4_its q_6_10 dX4_sits_25 h (fun _ hz => c_X4_its hz) rfl rfl (rm_ok (by decide) (by decide)) ⟨Nat.zero_le _, Nat.zero_le _⟩ rfl (List.Perm.refl _) (fun _ => (List.Perm.refl _)) rfl (Nat.le_of_ble_eq_true rfl) (fun _ => rfl) (fun z10 h => ?_)
        refine wa_iload_n fx 2 dX4_sits_28 rfl ?_
        refine wa_isub fx dX4_sits_29 ?_
        refine wa_istoreN fx (fun x11 => [(5, .int x11), (0, .ref (ad 0)), (1, .int x6), (2, .int x7), (3, .int x8), (4, .int x9)]) dX4_sits_30 (by decide) (fun _ => rfl) h (fun x11 h => ?_)
        refine wa_aload_n fx 1 dX4_sits_32 rfl ?_
        refine wa_iload fx 5 dX4_sits_33 rfl ?_
        refine wa_iconst fx (5 : Int32) dX4_sits_35 (by decide) ?_
        refine wa_V (b := ad 0) (rmc := (rmh 2)) (As := [.int x9, .int (5 : Int32)]) (st := []) (wc := (mo_ws g ad st)) (wr := ([] : va_W)) (wcz := fun _ => (mo_ws g ad st)) (w2 := fun _ => (mo_ws g ad st)) (o := fun z12 => some (.int z12)) (s2 := fun z12 => [.int z12]) (ci := 4) (q0 := 0) fx mm_X4_its q_6_10 dX4_sits_36 h (fun _ hz => c_X4_its hz) rfl rfl (rm_ok (by decide) (by decide)) ⟨Nat.zero_le _, Nat.zero_le _⟩ rfl (List.Perm.refl _) (fun _ => (List.Perm.refl _)) rfl (Nat.le_of_ble_eq_true rfl) (fun _ => rfl) (fun z12 h => ?_)
        refine wa_iconst fx (-1 : Int32) dX4_sits_39 (by decide) ?_
        refine wa_icmp_eq fx 59 dX4_sits_40 (by decide) h (fun h => ?_) (fun h => ?_)
        · refine wa_sub [1, 2, 3, 4, 5] rfl ?_
          exact B59 (f_X4_sits_l10 st n) ih x6 x7 x8 x9 h
        · refine wa_iload fx 0 dX4_sits_43 rfl ?_
          refine wa_iconst fx (1 : Int32) dX4_sits_45 (by decide) ?_
          refine wa_icmp_eq fx 55 dX4_sits_46 (by decide) h (fun h => ?_) (fun h => ?_)
          · refine wa_sub [1, 2, 3, 4, 5] rfl ?_
            exact B55 (f_X4_sits_l10 st n) ih x6 x7 x8 x9 h
          · refine wa_iload fx 0 dX4_sits_49 rfl ?_
            refine wa_iconst fx (-1 : Int32) dX4_sits_51 (by decide) ?_
            refine wa_icmp_ne fx 59 dX4_sits_52 (by decide) h (fun h => ?_) (fun h => ?_)
            · refine wa_sub [1, 2, 3, 4, 5] rfl ?_
              exact B55 (f_X4_sits_l10 st n) ih x6 x7 x8 x9 h
            · refine wa_sub [1, 2, 3, 4, 5] rfl ?_
              exact B59 (f_X4_sits_l10 st n) ih x6 x7 x8 x9 h
  refine wa_aload_n fx 0 dX4_sits_0 rfl ?_
  refine wa_iload_n fx 1 dX4_sits_1 rfl ?_
  refine wa_iload_n fx 2 dX4_sits_2 rfl ?_
  refine wa_V (b := ad 0) (rmc := (rmh 3)) (As := [.int a1, .int a2]) (st := []) (wc := (mo_ws g ad st)) (wr := ([] : va_W)) (wcz := fun _ => (mo_ws g ad st)) (w2 := fun _ => (mo_ws g ad st)) (o := fun z1 => some (.int z1)) (s2 := fun z1 => [.int z1]) (ci := 4) (q0 := 0) fx mm_X4_likes q_14_15 dX4_sits_3 h (fun _ hz => c_X4_likes hz) rfl rfl (rm_ok (by decide) (by decide)) ⟨Nat.zero_le _, Nat.zero_le _⟩ rfl (List.Perm.refl _) (fun _ => (List.Perm.refl _)) rfl (Nat.le_of_ble_eq_true rfl) (fun _ => rfl) (fun z1 h => ?_)
  refine wa_istore_n fx [(3, .int z1), (0, .ref (ad 0)), (1, .int a1), (2, .int a2)] dX4_sits_6 rfl (by decide) rfl ?_
  refine wa_iconst fx (0 : Int32) dX4_sits_7 (by decide) ?_
  refine wa_istore fx [(4, .int (0 : Int32)), (3, .int z1), (0, .ref (ad 0)), (1, .int a1), (2, .int a2)] dX4_sits_8 (by decide) rfl ?_
  refine wa_sub [2, 3, 4, 1, 0] rfl ?_
  exact B10 200 a1 a2 z1 (0 : Int32) h
def f_X4_well  (st : StT) (a1 : Int32) (a2 : Int32) : Option (Int32 × (StT)) := Option.bind (f_X4_isPerson st a1) fun z1 => if z1 = 0 then (Option.bind (f_X4_finds st (-1000000001 : Int32)) fun z2 => some (z2.1, z2.2)) else (Option.bind (f_X4_isChair a2) fun z3 => if z3 = 0 then (Option.bind (f_X4_finds st (-1000000001 : Int32)) fun z4 => some (z4.1, z4.2)) else (Option.bind (f_X4_sits st a1 a2) fun z5 => some (((1000 : Int32) + z5), st)))
set_option maxHeartbeats 4000000 in
set_option maxRecDepth 100000 in
theorem c_X4_well {g : GT} {l : Launch} {ad : Nat → Nat}   {st : StT} {a1 : Int32} {a2 : Int32} {r : Int32 × (StT)} (h : f_X4_well st a1 a2 = some r) : Ct g l yX4_well (wd yX4_well cX4_well 3 (some .int)) (rmh 6) [.ref (ad 0), .int a1, .int a2] (mo_ws g ad st) (mo_ws g ad r.2) (some (.int r.1)) := by
  refine Ct.of (lv := [(0, .ref (ad 0)), (1, .int a1), (2, .int a2)]) (by decide) (Nat.le_of_ble_eq_true rfl) rfl (fun K hl fx hf => ?_)
  subst hl
  rw [f_X4_well] at h
  refine wa_aload_n fx 0 dX4_well_0 rfl ?_
  refine wa_iload_n fx 1 dX4_well_1 rfl ?_
  refine wa_V (b := ad 0) (rmc := (rmh 2)) (As := [.int a1]) (st := []) (wc := (mo_ws g ad st)) (wr := ([] : va_W)) (wcz := fun _ => (mo_ws g ad st)) (w2 := fun _ => (mo_ws g ad st)) (o := fun z1 => some (.int z1)) (s2 := fun z1 => [.int z1]) (ci := 4) (q0 := 0) fx mm_X4_isPerson q_8_18 dX4_well_2 h (fun _ hz => c_X4_isPerson hz) rfl rfl (rm_ok (by decide) (by decide)) ⟨Nat.zero_le _, Nat.zero_le _⟩ rfl (List.Perm.refl _) (fun _ => (List.Perm.refl _)) rfl (Nat.le_of_ble_eq_true rfl) (fun _ => rfl) (fun z1 h => ?_)
  refine wa_if_eq fx 28 dX4_well_5 (by decide) h (fun h => ?_) (fun h => ?_)
  · refine wa_aload_n fx 0 dX4_well_28 rfl ?_
    refine wa_ldc fx q_5_4 dX4_well_29 ?_
    refine wa_V (b := ad 0) (rmc := (rmh 1)) (As := [.int (-1000000001 : Int32)]) (st := []) (wc := (mo_ws g ad st)) (wr := ([] : va_W)) (wcz := fun z2 => mo_ws g ad z2.2) (w2 := fun z2 => mo_ws g ad z2.2) (o := fun z2 => some (.int z2.1)) (s2 := fun z2 => [.int z2.1]) (ci := 4) (q0 := 0) fx mm_X4_finds q_5_16 dX4_well_31 h (fun _ hz => c_X4_finds hz) rfl rfl (rm_ok (by decide) (by decide)) ⟨Nat.zero_le _, Nat.zero_le _⟩ rfl (List.Perm.refl _) (fun _ => List.Perm.refl _) rfl (Nat.le_of_ble_eq_true rfl) (fun _ => rfl) (fun z2 h => ?_)
    exact fn_i (mo_ws g ad) fx hf (sn1 h) (sn2 h) dX4_well_34
  · refine wa_iload_n fx 2 dX4_well_8 rfl ?_
    refine wa_S (rmc := (rmh 2)) (As := [.int a2]) (st := []) (wc := (no_ws ())) (wr := (mo_ws g ad st)) (wcz := fun _ => (no_ws ())) (w2 := fun _ => (mo_ws g ad st)) (o := fun z3 => some (.int z3)) (s2 := fun z3 => [.int z3]) fx mm_X4_isChair q_5_8 dX4_well_9 h (fun _ hz => c_X4_isChair hz) (rm_ok (by decide) (by decide)) ⟨Nat.zero_le _, Nat.zero_le _⟩ rfl (List.Perm.of_eq (List.append_nil _).symm) (fun _ => (List.Perm.of_eq (List.append_nil _).symm)) rfl (Nat.le_of_ble_eq_true rfl) (fun _ => rfl) (fun z3 h => ?_)
    refine wa_if_eq fx 28 dX4_well_12 (by decide) h (fun h => ?_) (fun h => ?_)
    · refine wa_aload_n fx 0 dX4_well_28 rfl ?_
      refine wa_ldc fx q_5_4 dX4_well_29 ?_
      refine wa_V (b := ad 0) (rmc := (rmh 1)) (As := [.int (-1000000001 : Int32)]) (st := []) (wc := (mo_ws g ad st)) (wr := ([] : va_W)) (wcz := fun z4 => mo_ws g ad z4.2) (w2 := fun z4 => mo_ws g ad z4.2) (o := fun z4 => some (.int z4.1)) (s2 := fun z4 => [.int z4.1]) (ci := 4) (q0 := 0) fx mm_X4_finds q_5_16 dX4_well_31 h (fun _ hz => c_X4_finds hz) rfl rfl (rm_ok (by decide) (by decide)) ⟨Nat.zero_le _, Nat.zero_le _⟩ rfl (List.Perm.refl _) (fun _ => List.Perm.refl _) rfl (Nat.le_of_ble_eq_true rfl) (fun _ => rfl) (fun z4 h => ?_)
      exact fn_i (mo_ws g ad) fx hf (sn1 h) (sn2 h) dX4_well_34
    · refine wa_sipush fx (1000 : Int32) dX4_well_15 (by decide) ?_
      refine wa_aload_n fx 0 dX4_well_18 rfl ?_
      refine wa_iload_n fx 1 dX4_well_19 rfl ?_
      refine wa_iload_n fx 2 dX4_well_20 rfl ?_
      refine wa_V (b := ad 0) (rmc := (rmh 5)) (As := [.int a1, .int a2]) (st := [.int (1000 : Int32)]) (wc := (mo_ws g ad st)) (wr := ([] : va_W)) (wcz := fun _ => (mo_ws g ad st)) (w2 := fun _ => (mo_ws g ad st)) (o := fun z5 => some (.int z5)) (s2 := fun z5 => [.int z5, .int (1000 : Int32)]) (ci := 4) (q0 := 0) fx mm_X4_sits q_14_11 dX4_well_21 h (fun _ hz => c_X4_sits hz) rfl rfl (rm_ok (by decide) (by decide)) ⟨Nat.zero_le _, Nat.zero_le _⟩ rfl (List.Perm.refl _) (fun _ => (List.Perm.refl _)) rfl (Nat.le_of_ble_eq_true rfl) (fun _ => rfl) (fun z5 h => ?_)
      refine wa_iadd fx dX4_well_24 ?_
      refine wa_goto fx 34 dX4_well_25 (by decide) ?_
      exact fn_i (mo_ws g ad) fx hf (sn1 h) (sn2 h) dX4_well_34
def f_X4_bestEmpty_b75 (k7 : (Int32) → (Int32) → (Int32) → (Int32) → Option (Int32)) (st : StT) (x10 : Int32) (x11 : Int32) (x12 : Int32) (x13 : Int32) : Option (Int32) := nm (x13 + (1 : Int32)) fun x14 => k7 x10 x11 x12 x14
def f_X4_bestEmpty_b74 (k7 : (Int32) → (Int32) → (Int32) → (Int32) → Option (Int32)) (st : StT) (x33 : Int32) (x34 : Int32) (x35 : Int32) (x36 : Int32) : Option (Int32) := f_X4_bestEmpty_b75 k7 st x33 x34 x36 x35
def f_X4_bestEmpty_b62 (k7 : (Int32) → (Int32) → (Int32) → (Int32) → Option (Int32)) (st : StT) (x27 : Int32) (x28 : Int32) (x29 : Int32) (x30 : Int32) (x31 : Int32) (x32 : Int32) : Option (Int32) := if x31 = 0 then (f_X4_bestEmpty_b74 k7 st x27 x32 x29 x28) else (f_X4_bestEmpty_b74 k7 st x27 x32 x29 x30)
def f_X4_bestEmpty_b49 (k7 : (Int32) → (Int32) → (Int32) → (Int32) → Option (Int32)) (st : StT) (x21 : Int32) (x22 : Int32) (x23 : Int32) (x24 : Int32) (x25 : Int32) (x26 : Int32) : Option (Int32) := if x26 = 0 then (f_X4_bestEmpty_b62 k7 st x21 x23 x24 x25 x26 x22) else (f_X4_bestEmpty_b62 k7 st x21 x23 x24 x25 x26 x24)
def f_X4_bestEmpty_b44 (k7 : (Int32) → (Int32) → (Int32) → (Int32) → Option (Int32)) (st : StT) (x16 : Int32) (x17 : Int32) (x18 : Int32) (x19 : Int32) (x20 : Int32) : Option (Int32) := f_X4_bestEmpty_b49 k7 st x16 x17 x18 x19 x20 (1 : Int32)
def f_X4_bestEmpty_l7 (st : StT) : Nat → (Int32) → (Int32) → (Int32) → (Int32) → Option (Int32)
  | 0, _, _, _, _ => none
  | n + 1, x5, x6, x7, x8 => if (8 : Int32) ≤ x8 then (some x6) else (Option.bind (f_X4_whoIn st x8) fun z9 => if z9 = (-1 : Int32) then (Option.bind (f_X4_sits st x5 x8) fun z15 => if x6 = (-1 : Int32) then (f_X4_bestEmpty_b44 (f_X4_bestEmpty_l7 st n) st x5 x6 x7 x8 z15) else (if z15 ≤ x7 then (f_X4_bestEmpty_b49 (f_X4_bestEmpty_l7 st n) st x5 x6 x7 x8 z15 (0 : Int32)) else (f_X4_bestEmpty_b44 (f_X4_bestEmpty_l7 st n) st x5 x6 x7 x8 z15))) else (f_X4_bestEmpty_b75 (f_X4_bestEmpty_l7 st n) st x5 x6 x7 x8))
def f_X4_bestEmpty (st : StT) (a1 : Int32) : Option (Int32) := f_X4_bestEmpty_l7 st 200 a1 (-1 : Int32) (0 : Int32) (0 : Int32)
set_option maxHeartbeats 4000000 in
set_option maxRecDepth 100000 in
theorem c_X4_bestEmpty {g : GT} {l : Launch} {ad : Nat → Nat}   {st : StT} {a1 : Int32} {r : Int32} (h : f_X4_bestEmpty st a1 = some r) : Ct g l yX4_bestEmpty (wd yX4_bestEmpty cX4_bestEmpty 7 (some .int)) (rmh 6) [.ref (ad 0), .int a1] (mo_ws g ad st) (mo_ws g ad st) (some (.int r)) := by
  refine Ct.of (lv := [(0, .ref (ad 0)), (1, .int a1)]) (by decide) (Nat.le_of_ble_eq_true rfl) rfl (fun K hl fx hf => ?_)
  subst hl
  rw [f_X4_bestEmpty] at h
  have B75 : ∀ (k7 : (Int32) → (Int32) → (Int32) → (Int32) → Option (Int32)) (Hk7 : ∀ (y1 : Int32) (y2 : Int32) (y3 : Int32) (y4 : Int32), k7 y1 y2 y3 y4 = some r → WA g K 7 0 0 7 [(0, .ref (ad 0)), (1, .int y1), (2, .int y2), (3, .int y3), (4, .int y4)] [] (mo_ws g ad st)) (x10 : Int32) (x11 : Int32) (x12 : Int32) (x13 : Int32), f_X4_bestEmpty_b75 k7 st x10 x11 x12 x13 = some r → WA g K 7 0 0 75 [(0, .ref (ad 0)), (1, .int x10), (2, .int x11), (3, .int x12), (4, .int x13)] [] (mo_ws g ad st) := by
    intro  k7 Hk7 x10 x11 x12 x13 h
    rw [f_X4_bestEmpty_b75] at h
    refine wa_iinc fx 4 (fun x14 => [(4, .int x14), (0, .ref (ad 0)), (1, .int x10), (2, .int x11), (3, .int x12)]) dX4_bestEmpty_75 rfl (by rfl) (by decide) (fun _ => rfl) h (fun x14 h => ?_)
    refine wa_goto fx 7 dX4_bestEmpty_78 (by decide) ?_
    refine wa_sub [1, 2, 3, 4, 0] rfl ?_
    exact Hk7 x10 x11 x12 x14 h
  have B74 : ∀ (k7 : (Int32) → (Int32) → (Int32) → (Int32) → Option (Int32)) (Hk7 : ∀ (y1 : Int32) (y2 : Int32) (y3 : Int32) (y4 : Int32), k7 y1 y2 y3 y4 = some r → WA g K 7 0 0 7 [(0, .ref (ad 0)), (1, .int y1), (2, .int y2), (3, .int y3), (4, .int y4)] [] (mo_ws g ad st)) (x33 : Int32) (x34 : Int32) (x35 : Int32) (x36 : Int32), f_X4_bestEmpty_b74 k7 st x33 x34 x35 x36 = some r → WA g K 7 0 0 74 [(0, .ref (ad 0)), (1, .int x33), (2, .int x34), (4, .int x35)] [.int x36] (mo_ws g ad st) := by
    intro  k7 Hk7 x33 x34 x35 x36 h
    rw [f_X4_bestEmpty_b74] at h
    refine wa_istore_n fx [(3, .int x36), (0, .ref (ad 0)), (1, .int x33), (2, .int x34), (4, .int x35)] dX4_bestEmpty_74 rfl (by decide) rfl ?_
    refine wa_sub [1, 2, 3, 0, 4] rfl ?_
    exact B75 k7 Hk7 x33 x34 x36 x35 h
  have B62 : ∀ (k7 : (Int32) → (Int32) → (Int32) → (Int32) → Option (Int32)) (Hk7 : ∀ (y1 : Int32) (y2 : Int32) (y3 : Int32) (y4 : Int32), k7 y1 y2 y3 y4 = some r → WA g K 7 0 0 7 [(0, .ref (ad 0)), (1, .int y1), (2, .int y2), (3, .int y3), (4, .int y4)] [] (mo_ws g ad st)) (x27 : Int32) (x28 : Int32) (x29 : Int32) (x30 : Int32) (x31 : Int32) (x32 : Int32), f_X4_bestEmpty_b62 k7 st x27 x28 x29 x30 x31 x32 = some r → WA g K 7 0 0 62 [(0, .ref (ad 0)), (1, .int x27), (3, .int x28), (4, .int x29), (5, .int x30), (6, .int x31)] [.int x32] (mo_ws g ad st) := by
    intro  k7 Hk7 x27 x28 x29 x30 x31 x32 h
    rw [f_X4_bestEmpty_b62] at h
    refine wa_istore_n fx [(2, .int x32), (0, .ref (ad 0)), (1, .int x27), (3, .int x28), (4, .int x29), (5, .int x30), (6, .int x31)] dX4_bestEmpty_62 rfl (by decide) rfl ?_
    refine wa_iload fx 6 dX4_bestEmpty_63 rfl ?_
    refine wa_if_eq fx 73 dX4_bestEmpty_65 (by decide) h (fun h => ?_) (fun h => ?_)
    · refine wa_iload_n fx 3 dX4_bestEmpty_73 rfl ?_
      refine wa_sub [1, 2, 0, 4] rfl ?_
      exact B74 k7 Hk7 x27 x32 x29 x28 h
    · refine wa_iload fx 5 dX4_bestEmpty_68 rfl ?_
      refine wa_goto fx 74 dX4_bestEmpty_70 (by decide) ?_
      refine wa_sub [1, 2, 0, 4] rfl ?_
      exact B74 k7 Hk7 x27 x32 x29 x30 h
  have B49 : ∀ (k7 : (Int32) → (Int32) → (Int32) → (Int32) → Option (Int32)) (Hk7 : ∀ (y1 : Int32) (y2 : Int32) (y3 : Int32) (y4 : Int32), k7 y1 y2 y3 y4 = some r → WA g K 7 0 0 7 [(0, .ref (ad 0)), (1, .int y1), (2, .int y2), (3, .int y3), (4, .int y4)] [] (mo_ws g ad st)) (x21 : Int32) (x22 : Int32) (x23 : Int32) (x24 : Int32) (x25 : Int32) (x26 : Int32), f_X4_bestEmpty_b49 k7 st x21 x22 x23 x24 x25 x26 = some r → WA g K 7 0 0 49 [(0, .ref (ad 0)), (1, .int x21), (2, .int x22), (3, .int x23), (4, .int x24), (5, .int x25)] [.int x26] (mo_ws g ad st) := by
    intro  k7 Hk7 x21 x22 x23 x24 x25 x26 h
    rw [f_X4_bestEmpty_b49] at h
    refine wa_istore fx [(6, .int x26), (0, .ref (ad 0)), (1, .int x21), (2, .int x22), (3, .int x23), (4, .int x24), (5, .int x25)] dX4_bestEmpty_49 (by decide) rfl ?_
    refine wa_iload fx 0 dX4_bestEmpty_51 rfl ?_
    refine wa_if_eq fx 61 dX4_bestEmpty_53 (by decide) h (fun h => ?_) (fun h => ?_)
    · refine wa_iload_n fx 3 dX4_bestEmpty_61 rfl ?_
      refine wa_sub [1, 2, 4, 5, 6, 0] rfl ?_
      exact B62 k7 Hk7 x21 x23 x24 x25 x26 x22 h
    · refine wa_iload fx 5 dX4_bestEmpty_56 rfl ?_
      refine wa_goto fx 62 dX4_bestEmpty_58 (by decide) ?_
      refine wa_sub [1, 2, 4, 5, 6, 0] rfl ?_
      exact B62 k7 Hk7 x21 x23 x24 x25 x26 x24 h
  have B44 : ∀ (k7 : (Int32) → (Int32) → (Int32) → (Int32) → Option (Int32)) (Hk7 : ∀ (y1 : Int32) (y2 : Int32) (y3 : Int32) (y4 : Int32), k7 y1 y2 y3 y4 = some r → WA g K 7 0 0 7 [(0, .ref (ad 0)), (1, .int y1), (2, .int y2), (3, .int y3), (4, .int y4)] [] (mo_ws g ad st)) (x16 : Int32) (x17 : Int32) (x18 : Int32) (x19 : Int32) (x20 : Int32), f_X4_bestEmpty_b44 k7 st x16 x17 x18 x19 x20 = some r → WA g K 7 0 0 44 [(0, .ref (ad 0)), (1, .int x16), (2, .int x17), (3, .int x18), (4, .int x19), (5, .int x20)] [] (mo_ws g ad st) := by
    intro  k7 Hk7 x16 x17 x18 x19 x20 h
    rw [f_X4_bestEmpty_b44] at h
    refine wa_iconst fx (1 : Int32) dX4_bestEmpty_44 (by decide) ?_
    refine wa_goto fx 49 dX4_bestEmpty_45 (by decide) ?_
    refine wa_sub [0, 1, 2, 3, 4, 5] rfl ?_
    exact B49 k7 Hk7 x16 x17 x18 x19 x20 (1 : Int32) h
  have B7 : ∀  (n : Nat) (x5 : Int32) (x6 : Int32) (x7 : Int32) (x8 : Int32), f_X4_bestEmpty_l7 st n x5 x6 x7 x8 = some r → WA g K 7 0 0 7 [(0, .ref (ad 0)), (1, .int x5), (2, .int x6), (3, .int x7), (4, .int x8)] [] (mo_ws g ad st) := by
    intro   n
    induction n with
    | zero => intro x5 x6 x7 x8 h; exact absurd h (by rw [f_X4_bestEmpty_l7]; exact nofun)
    | succ n ih =>
      intro x5 x6 x7 x8 h
      rw [f_X4_bestEmpty_l7] at h
      refine wa_iload fx 4 dX4_bestEmpty_7 rfl ?_
      refine wa_bipush fx (8 : Int32) dX4_bestEmpty_9 (by decide) ?_
      refine wa_icmp_ge fx 81 dX4_bestEmpty_11 (by decide) h (fun h => ?_) (fun h => ?_)
      · refine wa_iload_n fx 2 dX4_bestEmpty_81 rfl ?_
        exact fn_i (mo_ws g ad) fx hf (Option.some.inj h) rfl dX4_bestEmpty_82
      · refine wa_aload_n fx 0 dX4_bestEmpty_14 rfl ?_
        refine wa_iload fx 4 dX4_bestEmpty_15 rfl ?_
        refine wa_V (b := ad 0) (rmc := (rmh 3)) (As := [.int x8]) (st := []) (wc := (mo_ws g ad st)) (wr := ([] : va_W)) (wcz := fun _ => (mo_ws g ad st)) (w2 := fun _ => (mo_ws g ad st)) (o := fun z9 => some (.int z9)) (s2 := fun z9 => [.int z9]) (ci := 4) (q0 := 0) fx mm_X4_whoIn q_6_6 dX4_bestEmpty_17 h (fun _ hz => c_X4_whoIn hz) rfl rfl (rm_ok (by decide) (by decide)) ⟨Nat.zero_le _, Nat.zero_le _⟩ rfl (List.Perm.refl _) (fun _ => (List.Perm.refl _)) rfl (Nat.le_of_ble_eq_true rfl) (fun _ => rfl) (fun z9 h => ?_)
        refine wa_iconst fx (-1 : Int32) dX4_bestEmpty_20 (by decide) ?_
        refine wa_icmp_ne fx 75 dX4_bestEmpty_21 (by decide) h (fun h => ?_) (fun h => ?_)
        · refine wa_aload_n fx 0 dX4_bestEmpty_24 rfl ?_
          refine wa_iload_n fx 1 dX4_bestEmpty_25 rfl ?_
          refine wa_iload fx 4 dX4_bestEmpty_26 rfl ?_
          refine wa_V (b := ad 0) (rmc := (rmh 5)) (As := [.int x5, .int x8]) (st := []) (wc := (mo_ws g ad st)) (wr := ([] : va_W)) (wcz := fun _ => (mo_ws g ad st)) (w2 := fun _ => (mo_ws g ad st)) (o := fun z15 => some (.int z15)) (s2 := fun z15 => [.int z15]) (ci := 4) (q0 := 0) fx mm_X4_sits q_14_11 dX4_bestEmpty_28 h (fun _ hz => c_X4_sits hz) rfl rfl (rm_ok (by decide) (by decide)) ⟨Nat.zero_le _, Nat.zero_le _⟩ rfl (List.Perm.refl _) (fun _ => (List.Perm.refl _)) rfl (Nat.le_of_ble_eq_true rfl) (fun _ => rfl) (fun z15 h => ?_)
          refine wa_istore fx [(5, .int z15), (0, .ref (ad 0)), (1, .int x5), (2, .int x6), (3, .int x7), (4, .int x8)] dX4_bestEmpty_31 (by decide) rfl ?_
          refine wa_iload_n fx 3 dX4_bestEmpty_33 rfl ?_
          refine wa_iconst fx (-1 : Int32) dX4_bestEmpty_34 (by decide) ?_
          refine wa_icmp_eq fx 44 dX4_bestEmpty_35 (by decide) h (fun h => ?_) (fun h => ?_)
          · refine wa_sub [1, 2, 3, 4, 5, 0] rfl ?_
            exact B44 (f_X4_bestEmpty_l7 st n) ih x5 x6 x7 x8 z15 h
          · refine wa_iload fx 0 dX4_bestEmpty_38 rfl ?_
            refine wa_iload_n fx 4 dX4_bestEmpty_40 rfl ?_
            refine wa_icmp_le fx 48 dX4_bestEmpty_41 (by decide) h (fun h => ?_) (fun h => ?_)
            · refine wa_iconst fx (0 : Int32) dX4_bestEmpty_48 (by decide) ?_
              refine wa_sub [1, 2, 3, 4, 5, 0] rfl ?_
              exact B49 (f_X4_bestEmpty_l7 st n) ih x5 x6 x7 x8 z15 (0 : Int32) h
            · refine wa_sub [1, 2, 3, 4, 5, 0] rfl ?_
              exact B44 (f_X4_bestEmpty_l7 st n) ih x5 x6 x7 x8 z15 h
        · refine wa_sub [0, 1, 2, 3, 4] rfl ?_
          exact B75 (f_X4_bestEmpty_l7 st n) ih x5 x6 x7 x8 h
  refine wa_iconst fx (-1 : Int32) dX4_bestEmpty_0 (by decide) ?_
  refine wa_istore_n fx [(2, .int (-1 : Int32)), (0, .ref (ad 0)), (1, .int a1)] dX4_bestEmpty_1 rfl (by decide) rfl ?_
  refine wa_iconst fx (0 : Int32) dX4_bestEmpty_2 (by decide) ?_
  refine wa_istore_n fx [(3, .int (0 : Int32)), (2, .int (-1 : Int32)), (0, .ref (ad 0)), (1, .int a1)] dX4_bestEmpty_3 rfl (by decide) rfl ?_
  refine wa_iconst fx (0 : Int32) dX4_bestEmpty_4 (by decide) ?_
  refine wa_istore fx [(4, .int (0 : Int32)), (3, .int (0 : Int32)), (2, .int (-1 : Int32)), (0, .ref (ad 0)), (1, .int a1)] dX4_bestEmpty_5 (by decide) rfl ?_
  refine wa_sub [3, 4, 2, 1, 0] rfl ?_
  exact B7 200 a1 (-1 : Int32) (0 : Int32) (0 : Int32) h
def f_X4_moves_b75 (x7 : Int32) (x8 : Int32) (x9 : Int32) (w10 : StT) : Option (Int32 × (StT)) := if x9 = (-1 : Int32) then (some ((0 : Int32), w10)) else (if x9 = x7 then (some ((0 : Int32), w10)) else (Option.bind (f_X4_sits w10 x7 x8) fun z11 => Option.bind (f_X4_sits w10 x9 x8) fun z12 => Option.bind (f_X4_givesUp w10 x9) fun z13 => if z13 ≤ (z11 - z12) then (Option.bind (f_X4_changes w10 x7 x9) fun z14 => some ((1 : Int32), z14)) else (some ((0 : Int32), w10))))
def f_X4_moves_b51 (x3 : Int32) (w4 : StT) : Option (Int32 × (StT)) := Option.bind (f_X4_its w4 x3 (2 : Int32)) fun z5 => if z5 = (-1 : Int32) then (f_X4_moves_b75 x3 z5 (-1 : Int32) w4) else (Option.bind (f_X4_whoIn w4 z5) fun z6 => f_X4_moves_b75 x3 z5 z6 w4)
def f_X4_moves_b38 (x15 : Int32) (x16 : Int32) (w17 : StT) : Option (Int32 × (StT)) := Option.bind (f_X4_spotOf x15 (5 : Int32)) fun z18 => ck z18 66 (nm (setA w17 0 (upd (w17.1 0) (Int32.toNatClampNeg z18) x16)) fun w19 => some ((1 : Int32), w19))
def f_X4_moves  (st : StT) (a1 : Int32) : Option (Int32 × (StT)) := Option.bind (f_X4_its st a1 (5 : Int32)) fun z1 => Option.bind (f_X4_bestEmpty st a1) fun z2 => if z2 = (-1 : Int32) then (f_X4_moves_b51 a1 st) else (if z1 = (-1 : Int32) then (f_X4_moves_b38 a1 z2 st) else (Option.bind (f_X4_sits st a1 z2) fun z20 => Option.bind (f_X4_sits st a1 z1) fun z21 => if z20 ≤ z21 then (f_X4_moves_b51 a1 st) else (f_X4_moves_b38 a1 z2 st)))
set_option maxHeartbeats 4000000 in
set_option maxRecDepth 100000 in
theorem c_X4_moves {g : GT} {l : Launch} {ad : Nat → Nat}   {st : StT} {a1 : Int32} {r : Int32 × (StT)} (h : f_X4_moves st a1 = some r) : Ct g l yX4_moves (wd yX4_moves cX4_moves 6 (some .int)) (rmh 7) [.ref (ad 0), .int a1] (mo_ws g ad st) (mo_ws g ad r.2) (some (.int r.1)) := by
  refine Ct.of (lv := [(0, .ref (ad 0)), (1, .int a1)]) (by decide) (Nat.le_of_ble_eq_true rfl) rfl (fun K hl fx hf => ?_)
  subst hl
  rw [f_X4_moves] at h
  have B75 : ∀  (x7 : Int32) (x8 : Int32) (x9 : Int32) (w10 : StT), f_X4_moves_b75 x7 x8 x9 w10 = some r → WA g K 6 0 0 75 [(0, .ref (ad 0)), (1, .int x7), (4, .int x8)] [.int x9] (mo_ws g ad w10) := by
    intro   x7 x8 x9 w10 h
    rw [f_X4_moves_b75] at h
    refine wa_istore fx [(5, .int x9), (0, .ref (ad 0)), (1, .int x7), (4, .int x8)] dX4_moves_75 (by decide) rfl ?_
    refine wa_iload fx 0 dX4_moves_77 rfl ?_
    refine wa_iconst fx (-1 : Int32) dX4_moves_79 (by decide) ?_
    refine wa_icmp_eq fx 114 dX4_moves_80 (by decide) h (fun h => ?_) (fun h => ?_)
    · refine wa_iconst fx (0 : Int32) dX4_moves_114 (by decide) ?_
      exact fn_i (mo_ws g ad) fx hf (sn1 h) (sn2 h) dX4_moves_115
    · refine wa_iload fx 0 dX4_moves_83 rfl ?_
      refine wa_iload_n fx 2 dX4_moves_85 rfl ?_
      refine wa_icmp_eq fx 114 dX4_moves_86 (by decide) h (fun h => ?_) (fun h => ?_)
      · refine wa_iconst fx (0 : Int32) dX4_moves_114 (by decide) ?_
        exact fn_i (mo_ws g ad) fx hf (sn1 h) (sn2 h) dX4_moves_115
      · refine wa_aload_n fx 1 dX4_moves_89 rfl ?_
        refine wa_iload_n fx 2 dX4_moves_90 rfl ?_
        refine wa_iload fx 3 dX4_moves_91 rfl ?_
        refine wa_V (b := ad 0) (rmc := (rmh 5)) (As := [.int x7, .int x8]) (st := []) (wc := (mo_ws g ad w10)) (wr := ([] : va_W)) (wcz := fun _ => (mo_ws g ad w10)) (w2 := fun _ => (mo_ws g ad w10)) (o := fun z11 => some (.int z11)) (s2 := fun z11 => [.int z11]) (ci := 4) (q0 := 0) fx mm_X4_sits q_14_11 dX4_moves_93 h (fun _ hz => c_X4_sits hz) rfl rfl (rm_ok (by decide) (by decide)) ⟨Nat.zero_le _, Nat.zero_le _⟩ rfl (List.Perm.refl _) (fun _ => (List.Perm.refl _)) rfl (Nat.le_of_ble_eq_true rfl) (fun _ => rfl) (fun z11 h => ?_)
        refine wa_aload_n fx 1 dX4_moves_96 rfl ?_
        refine wa_iload fx 0 dX4_moves_97 rfl ?_
        refine wa_iload fx 3 dX4_moves_99 rfl ?_
        refine wa_V (b := ad 0) (rmc := (rmh 5)) (As := [.int x9, .int x8]) (st := [.int z11]) (wc := (mo_ws g ad w10)) (wr := ([] : va_W)) (wcz := fun _ => (mo_ws g ad w10)) (w2 := fun _ => (mo_ws g ad w10)) (o := fun z12 => some (.int z12)) (s2 := fun z12 => [.int z12, .int z11]) (ci := 4) (q0 := 0) fx mm_X4_sits q_14_11 dX4_moves_101 h (fun _ hz => c_X4_sits hz) rfl rfl (rm_ok (by decide) (by decide)) ⟨Nat.zero_le _, Nat.zero_le _⟩ rfl (List.Perm.refl _) (fun _ => (List.Perm.refl _)) rfl (Nat.le_of_ble_eq_true rfl) (fun _ => rfl) (fun z12 h => ?_)
        refine wa_isub fx dX4_moves_104 ?_
        refine wa_aload_n fx 1 dX4_moves_105 rfl ?_
        refine wa_iload fx 0 dX4_moves_106 rfl ?_
        refine wa_V (b := ad 0) (rmc := (rmh 3)) (As := [.int x9]) (st := [.int (z11 - z12)]) (wc := (mo_ws g ad w10)) (wr := ([] : va_W)) (wcz := fun _ => (mo_ws g ad w10)) (w2 := fun _ => (mo_ws g ad w10)) (o := fun z13 => some (.int z13)) (s2 := fun z13 => [.int z13, .int (z11 - z12)]) (ci := 4) (q0 := 0) fx mm_X4_givesUp q_8_22 dX4_moves_108 h (fun _ hz => c_X4_givesUp hz) rfl rfl (rm_ok (by decide) (by decide)) ⟨Nat.zero_le _, Nat.zero_le _⟩ rfl (List.Perm.refl _) (fun _ => (List.Perm.refl _)) rfl (Nat.le_of_ble_eq_true rfl) (fun _ => rfl) (fun z13 h => ?_)
        refine wa_icmp_ge fx 116 dX4_moves_111 (by decide) h (fun h => ?_) (fun h => ?_)
        · refine wa_aload_n fx 1 dX4_moves_116 rfl ?_
          refine wa_iload_n fx 2 dX4_moves_117 rfl ?_
          refine wa_iload fx 0 dX4_moves_118 rfl ?_
          refine wa_V (b := ad 0) (rmc := (rmh 3)) (As := [.int x7, .int x9]) (st := []) (wc := (mo_ws g ad w10)) (wr := ([] : va_W)) (wcz := fun z14 => mo_ws g ad z14) (w2 := fun z14 => mo_ws g ad z14) (o := fun _ => none) (s2 := fun z14 => []) (ci := 4) (q0 := 0) fx mm_X4_changes q_13_5 dX4_moves_120 h (fun _ hz => c_X4_changes hz) rfl rfl (rm_ok (by decide) (by decide)) ⟨Nat.zero_le _, Nat.zero_le _⟩ rfl (List.Perm.refl _) (fun _ => List.Perm.refl _) rfl (Nat.le_of_ble_eq_true rfl) (fun _ => rfl) (fun z14 h => ?_)
          refine wa_iconst fx (1 : Int32) dX4_moves_123 (by decide) ?_
          exact fn_i (mo_ws g ad) fx hf (sn1 h) (sn2 h) dX4_moves_124
        · refine wa_iconst fx (0 : Int32) dX4_moves_114 (by decide) ?_
          exact fn_i (mo_ws g ad) fx hf (sn1 h) (sn2 h) dX4_moves_115
  have B51 : ∀  (x3 : Int32) (w4 : StT), f_X4_moves_b51 x3 w4 = some r → WA g K 6 0 0 51 [(0, .ref (ad 0)), (1, .int x3)] [] (mo_ws g ad w4) := by
    intro   x3 w4 h
    rw [f_X4_moves_b51] at h
    refine wa_aload_n fx 0 dX4_moves_51 rfl ?_
    refine wa_iload_n fx 1 dX4_moves_52 rfl ?_
    refine wa_iconst fx (2 : Int32) dX4_moves_53 (by decide) ?_
    refine wa_V (b := ad 0) (rmc := (rmh 2)) (As := [.int x3, .int (2 : Int32)]) (st := []) (wc := (mo_ws g ad w4)) (wr := ([] : va_W)) (wcz := fun _ => (mo_ws g ad w4)) (w2 := fun _ => (mo_ws g ad w4)) (o := fun z5 => some (.int z5)) (s2 := fun z5 => [.int z5]) (ci := 4) (q0 := 0) fx mm_X4_its q_6_10 dX4_moves_54 h (fun _ hz => c_X4_its hz) rfl rfl (rm_ok (by decide) (by decide)) ⟨Nat.zero_le _, Nat.zero_le _⟩ rfl (List.Perm.refl _) (fun _ => (List.Perm.refl _)) rfl (Nat.le_of_ble_eq_true rfl) (fun _ => rfl) (fun z5 h => ?_)
    refine wa_istore fx [(4, .int z5), (0, .ref (ad 0)), (1, .int x3)] dX4_moves_57 (by decide) rfl ?_
    refine wa_iload fx 0 dX4_moves_59 rfl ?_
    refine wa_iconst fx (-1 : Int32) dX4_moves_61 (by decide) ?_
    refine wa_icmp_ne fx 69 dX4_moves_62 (by decide) h (fun h => ?_) (fun h => ?_)
    · refine wa_iconst fx (-1 : Int32) dX4_moves_65 (by decide) ?_
      refine wa_goto fx 75 dX4_moves_66 (by decide) ?_
      refine wa_sub [1, 2, 0] rfl ?_
      exact B75 x3 z5 (-1 : Int32) w4 h
    · refine wa_aload_n fx 1 dX4_moves_69 rfl ?_
      refine wa_iload fx 0 dX4_moves_70 rfl ?_
      refine wa_V (b := ad 0) (rmc := (rmh 3)) (As := [.int z5]) (st := []) (wc := (mo_ws g ad w4)) (wr := ([] : va_W)) (wcz := fun _ => (mo_ws g ad w4)) (w2 := fun _ => (mo_ws g ad w4)) (o := fun z6 => some (.int z6)) (s2 := fun z6 => [.int z6]) (ci := 4) (q0 := 0) fx mm_X4_whoIn q_6_6 dX4_moves_72 h (fun _ hz => c_X4_whoIn hz) rfl rfl (rm_ok (by decide) (by decide)) ⟨Nat.zero_le _, Nat.zero_le _⟩ rfl (List.Perm.refl _) (fun _ => (List.Perm.refl _)) rfl (Nat.le_of_ble_eq_true rfl) (fun _ => rfl) (fun z6 h => ?_)
      refine wa_sub [1, 2, 0] rfl ?_
      exact B75 x3 z5 z6 w4 h
  have B38 : ∀  (x15 : Int32) (x16 : Int32) (w17 : StT), f_X4_moves_b38 x15 x16 w17 = some r → WA g K 6 0 0 38 [(0, .ref (ad 0)), (1, .int x15), (3, .int x16)] [] (mo_ws g ad w17) := by
    intro   x15 x16 w17 h
    rw [f_X4_moves_b38] at h
    refine wa_aload_n fx 0 dX4_moves_38 rfl ?_
    refine wa_get (v := .ref (ad 1)) fx wm_X4 0 rfl rfl 0 (by decide) q_3_15 rfl rfl dX4_moves_39 ?_
    refine wa_iload_n fx 1 dX4_moves_42 rfl ?_
    refine wa_iconst fx (5 : Int32) dX4_moves_43 (by decide) ?_
    refine wa_S (rmc := (rmh 1)) (As := [.int x15, .int (5 : Int32)]) (st := [.ref (ad 1)]) (wc := (no_ws ())) (wr := (mo_ws g ad w17)) (wcz := fun _ => (no_ws ())) (w2 := fun _ => (mo_ws g ad w17)) (o := fun z18 => some (.int z18)) (s2 := fun z18 => [.int z18, .ref (ad 1)]) fx mm_X4_spotOf q_6_14 dX4_moves_44 h (fun _ hz => c_X4_spotOf hz) (rm_ok (by decide) (by decide)) ⟨Nat.zero_le _, Nat.zero_le _⟩ rfl (List.Perm.of_eq (List.append_nil _).symm) (fun _ => (List.Perm.of_eq (List.append_nil _).symm)) rfl (Nat.le_of_ble_eq_true rfl) (fun _ => rfl) (fun z18 h => ?_)
    refine wa_iload_n fx 2 dX4_moves_47 rfl ?_
    refine wa_iast (mo_ws g ad) (f := w17.1 0) fx 1 rfl dX4_moves_48 h rfl (fun w19 h => ?_)
    refine wa_iconst fx (1 : Int32) dX4_moves_49 (by decide) ?_
    exact fn_i (mo_ws g ad) fx hf (sn1 h) (sn2 h) dX4_moves_50
  refine wa_aload_n fx 0 dX4_moves_0 rfl ?_
  refine wa_iload_n fx 1 dX4_moves_1 rfl ?_
  refine wa_iconst fx (5 : Int32) dX4_moves_2 (by decide) ?_
  refine wa_V (b := ad 0) (rmc := (rmh 2)) (As := [.int a1, .int (5 : Int32)]) (st := []) (wc := (mo_ws g ad st)) (wr := ([] : va_W)) (wcz := fun _ => (mo_ws g ad st)) (w2 := fun _ => (mo_ws g ad st)) (o := fun z1 => some (.int z1)) (s2 := fun z1 => [.int z1]) (ci := 4) (q0 := 0) fx mm_X4_its q_6_10 dX4_moves_3 h (fun _ hz => c_X4_its hz) rfl rfl (rm_ok (by decide) (by decide)) ⟨Nat.zero_le _, Nat.zero_le _⟩ rfl (List.Perm.refl _) (fun _ => (List.Perm.refl _)) rfl (Nat.le_of_ble_eq_true rfl) (fun _ => rfl) (fun z1 h => ?_)
  refine wa_istore_n fx [(2, .int z1), (0, .ref (ad 0)), (1, .int a1)] dX4_moves_6 rfl (by decide) rfl ?_
  refine wa_aload_n fx 1 dX4_moves_7 rfl ?_
  refine wa_iload_n fx 2 dX4_moves_8 rfl ?_
  refine wa_V (b := ad 0) (rmc := (rmh 6)) (As := [.int a1]) (st := []) (wc := (mo_ws g ad st)) (wr := ([] : va_W)) (wcz := fun _ => (mo_ws g ad st)) (w2 := fun _ => (mo_ws g ad st)) (o := fun z2 => some (.int z2)) (s2 := fun z2 => [.int z2]) (ci := 4) (q0 := 0) fx mm_X4_bestEmpty q_17_3 dX4_moves_9 h (fun _ hz => c_X4_bestEmpty hz) rfl rfl (rm_ok (by decide) (by decide)) ⟨Nat.zero_le _, Nat.zero_le _⟩ rfl (List.Perm.refl _) (fun _ => (List.Perm.refl _)) rfl (Nat.le_of_ble_eq_true rfl) (fun _ => rfl) (fun z2 h => ?_)
  refine wa_istore_n fx [(3, .int z2), (2, .int z1), (0, .ref (ad 0)), (1, .int a1)] dX4_moves_12 rfl (by decide) rfl ?_
  refine wa_iload_n fx 0 dX4_moves_13 rfl ?_
  refine wa_iconst fx (-1 : Int32) dX4_moves_14 (by decide) ?_
  refine wa_icmp_eq fx 51 dX4_moves_15 (by decide) h (fun h => ?_) (fun h => ?_)
  · refine wa_sub [2, 3] rfl ?_
    exact B51 a1 st h
  · refine wa_iload_n fx 1 dX4_moves_18 rfl ?_
    refine wa_iconst fx (-1 : Int32) dX4_moves_19 (by decide) ?_
    refine wa_icmp_eq fx 38 dX4_moves_20 (by decide) h (fun h => ?_) (fun h => ?_)
    · refine wa_sub [2, 3, 0] rfl ?_
      exact B38 a1 z2 st h
    · refine wa_aload_n fx 2 dX4_moves_23 rfl ?_
      refine wa_iload_n fx 3 dX4_moves_24 rfl ?_
      refine wa_iload_n fx 0 dX4_moves_25 rfl ?_
      refine wa_V (b := ad 0) (rmc := (rmh 5)) (As := [.int a1, .int z2]) (st := []) (wc := (mo_ws g ad st)) (wr := ([] : va_W)) (wcz := fun _ => (mo_ws g ad st)) (w2 := fun _ => (mo_ws g ad st)) (o := fun z20 => some (.int z20)) (s2 := fun z20 => [.int z20]) (ci := 4) (q0 := 0) fx mm_X4_sits q_14_11 dX4_moves_26 h (fun _ hz => c_X4_sits hz) rfl rfl (rm_ok (by decide) (by decide)) ⟨Nat.zero_le _, Nat.zero_le _⟩ rfl (List.Perm.refl _) (fun _ => (List.Perm.refl _)) rfl (Nat.le_of_ble_eq_true rfl) (fun _ => rfl) (fun z20 h => ?_)
      refine wa_aload_n fx 2 dX4_moves_29 rfl ?_
      refine wa_iload_n fx 3 dX4_moves_30 rfl ?_
      refine wa_iload_n fx 1 dX4_moves_31 rfl ?_
      refine wa_V (b := ad 0) (rmc := (rmh 5)) (As := [.int a1, .int z1]) (st := [.int z20]) (wc := (mo_ws g ad st)) (wr := ([] : va_W)) (wcz := fun _ => (mo_ws g ad st)) (w2 := fun _ => (mo_ws g ad st)) (o := fun z21 => some (.int z21)) (s2 := fun z21 => [.int z21, .int z20]) (ci := 4) (q0 := 0) fx mm_X4_sits q_14_11 dX4_moves_32 h (fun _ hz => c_X4_sits hz) rfl rfl (rm_ok (by decide) (by decide)) ⟨Nat.zero_le _, Nat.zero_le _⟩ rfl (List.Perm.refl _) (fun _ => (List.Perm.refl _)) rfl (Nat.le_of_ble_eq_true rfl) (fun _ => rfl) (fun z21 h => ?_)
      refine wa_icmp_le fx 51 dX4_moves_35 (by decide) h (fun h => ?_) (fun h => ?_)
      · refine wa_sub [2, 3] rfl ?_
        exact B51 a1 st h
      · refine wa_sub [2, 3, 0] rfl ?_
        exact B38 a1 z2 st h
def f_X4_hour_l4 : Nat → (Int32) → (Int32) → (StT) → Option (Int32 × (StT))
  | 0, _, _, _ => none
  | n + 1, x4, x5, w6 => ck (0 : Int32) 66 (if (w6.1 0 (Int32.toNatClampNeg (0 : Int32))) ≤ x5 then (ck (1 : Int32) 66 (ck (1 : Int32) 66 (nm (setA w6 0 (upd (w6.1 0) (Int32.toNatClampNeg (1 : Int32)) ((w6.1 0 (Int32.toNatClampNeg (1 : Int32))) + (1 : Int32)))) fun w7 => Option.bind (f_X4_whoIn w7 (7 : Int32)) fun z8 => if z8 = (-1 : Int32) then (some (x4, w7)) else (Option.bind (f_X4_its w7 z8 (4 : Int32)) fun z9 => if (9999 : Int32) ≤ z9 then (some (x4, w7)) else (Option.bind (f_X4_spotOf z8 (4 : Int32)) fun z10 => ck z10 66 (ck z10 66 (nm (setA w7 0 (upd (w7.1 0) (Int32.toNatClampNeg z10) ((w7.1 0 (Int32.toNatClampNeg z10)) + (1 : Int32)))) fun w11 => some (x4, w11)))))))) else (Option.bind (f_X4_moves w6 x5) fun z12 => nm (x4 + z12.1) fun x13 => nm (x5 + (1 : Int32)) fun x14 => (f_X4_hour_l4 n) x13 x14 z12.2))
def f_X4_hour  (st : StT) : Option (Int32 × (StT)) := f_X4_hour_l4 200 (0 : Int32) (0 : Int32) st
set_option maxHeartbeats 4000000 in
set_option maxRecDepth 100000 in
theorem c_X4_hour {g : GT} {l : Launch} {ad : Nat → Nat}   {st : StT} {r : Int32 × (StT)} (h : f_X4_hour st = some r) : Ct g l yX4_hour (wd yX4_hour cX4_hour 3 (some .int)) (rmh 8) [.ref (ad 0)] (mo_ws g ad st) (mo_ws g ad r.2) (some (.int r.1)) := by
  refine Ct.of (lv := [(0, .ref (ad 0))]) (by decide) (Nat.le_of_ble_eq_true rfl) rfl (fun K hl fx hf => ?_)
  subst hl
  rw [f_X4_hour] at h
  have B4 : ∀  (n : Nat) (x4 : Int32) (x5 : Int32) (w6 : StT), f_X4_hour_l4 n x4 x5 w6 = some r → WA g K 3 0 0 4 [(0, .ref (ad 0)), (1, .int x4), (2, .int x5)] [] (mo_ws g ad w6) := by
    intro   n
    induction n with
    | zero => intro x4 x5 w6 h; exact absurd h (by rw [f_X4_hour_l4]; exact nofun)
    | succ n ih =>
      intro x4 x5 w6 h
      rw [f_X4_hour_l4] at h
      refine wa_iload_n fx 2 dX4_hour_4 rfl ?_
      refine wa_aload_n fx 0 dX4_hour_5 rfl ?_
      refine wa_get (v := .ref (ad 1)) fx wm_X4 0 rfl rfl 0 (by decide) q_3_15 rfl rfl dX4_hour_6 ?_
      refine wa_iconst fx (0 : Int32) dX4_hour_9 (by decide) ?_
      refine wa_iald (f := w6.1 0) fx 1 rfl dX4_hour_10 h (fun h => ?_)
      refine wa_icmp_ge fx 28 dX4_hour_11 (by decide) h (fun h => ?_) (fun h => ?_)
      · refine wa_aload_n fx 0 dX4_hour_28 rfl ?_
        refine wa_get (v := .ref (ad 1)) fx wm_X4 0 rfl rfl 0 (by decide) q_3_15 rfl rfl dX4_hour_29 ?_
        refine wa_iconst fx (1 : Int32) dX4_hour_32 (by decide) ?_
        refine wa_dup2 fx dX4_hour_33 rfl rfl ?_
        refine wa_iald (f := w6.1 0) fx 1 rfl dX4_hour_34 h (fun h => ?_)
        refine wa_iconst fx (1 : Int32) dX4_hour_35 (by decide) ?_
        refine wa_iadd fx dX4_hour_36 ?_
        refine wa_iast (mo_ws g ad) (f := w6.1 0) fx 1 rfl dX4_hour_37 h rfl (fun w7 h => ?_)
        refine wa_aload_n fx 0 dX4_hour_38 rfl ?_
        refine wa_bipush fx (7 : Int32) dX4_hour_39 (by decide) ?_
        refine wa_V (b := ad 0) (rmc := (rmh 3)) (As := [.int (7 : Int32)]) (st := []) (wc := (mo_ws g ad w7)) (wr := ([] : va_W)) (wcz := fun _ => (mo_ws g ad w7)) (w2 := fun _ => (mo_ws g ad w7)) (o := fun z8 => some (.int z8)) (s2 := fun z8 => [.int z8]) (ci := 4) (q0 := 0) fx mm_X4_whoIn q_6_6 dX4_hour_41 h (fun _ hz => c_X4_whoIn hz) rfl rfl (rm_ok (by decide) (by decide)) ⟨Nat.zero_le _, Nat.zero_le _⟩ rfl (List.Perm.refl _) (fun _ => (List.Perm.refl _)) rfl (Nat.le_of_ble_eq_true rfl) (fun _ => rfl) (fun z8 h => ?_)
        refine wa_istore_n fx [(2, .int z8), (0, .ref (ad 0)), (1, .int x4)] dX4_hour_44 rfl (by decide) rfl ?_
        refine wa_iload_n fx 0 dX4_hour_45 rfl ?_
        refine wa_iconst fx (-1 : Int32) dX4_hour_46 (by decide) ?_
        refine wa_icmp_eq fx 76 dX4_hour_47 (by decide) h (fun h => ?_) (fun h => ?_)
        · refine wa_iload_n fx 2 dX4_hour_76 rfl ?_
          exact fn_i (mo_ws g ad) fx hf (sn1 h) (sn2 h) dX4_hour_77
        · refine wa_aload_n fx 1 dX4_hour_50 rfl ?_
          refine wa_iload_n fx 0 dX4_hour_51 rfl ?_
          refine wa_iconst fx (4 : Int32) dX4_hour_52 (by decide) ?_
          refine wa_V (b := ad 0) (rmc := (rmh 2)) (As := [.int z8, .int (4 : Int32)]) (st := []) (wc := (mo_ws g ad w7)) (wr := ([] : va_W)) (wcz := fun _ => (mo_ws g ad w7)) (w2 := fun _ => (mo_ws g ad w7)) (o := fun z9 => some (.int z9)) (s2 := fun z9 => [.int z9]) (ci := 4) (q0 := 0) fx mm_X4_its q_6_10 dX4_hour_53 h (fun _ hz => c_X4_its hz) rfl rfl (rm_ok (by decide) (by decide)) ⟨Nat.zero_le _, Nat.zero_le _⟩ rfl (List.Perm.refl _) (fun _ => (List.Perm.refl _)) rfl (Nat.le_of_ble_eq_true rfl) (fun _ => rfl) (fun z9 h => ?_)
          refine wa_sipush fx (9999 : Int32) dX4_hour_56 (by decide) ?_
          refine wa_icmp_ge fx 76 dX4_hour_59 (by decide) h (fun h => ?_) (fun h => ?_)
          · refine wa_iload_n fx 2 dX4_hour_76 rfl ?_
            exact fn_i (mo_ws g ad) fx hf (sn1 h) (sn2 h) dX4_hour_77
          · refine wa_aload_n fx 1 dX4_hour_62 rfl ?_
            refine wa_get (v := .ref (ad 1)) fx wm_X4 0 rfl rfl 0 (by decide) q_3_15 rfl rfl dX4_hour_63 ?_
            refine wa_iload_n fx 0 dX4_hour_66 rfl ?_
            refine wa_iconst fx (4 : Int32) dX4_hour_67 (by decide) ?_
            refine wa_S (rmc := (rmh 1)) (As := [.int z8, .int (4 : Int32)]) (st := [.ref (ad 1)]) (wc := (no_ws ())) (wr := (mo_ws g ad w7)) (wcz := fun _ => (no_ws ())) (w2 := fun _ => (mo_ws g ad w7)) (o := fun z10 => some (.int z10)) (s2 := fun z10 => [.int z10, .ref (ad 1)]) fx mm_X4_spotOf q_6_14 dX4_hour_68 h (fun _ hz => c_X4_spotOf hz) (rm_ok (by decide) (by decide)) ⟨Nat.zero_le _, Nat.zero_le _⟩ rfl (List.Perm.of_eq (List.append_nil _).symm) (fun _ => (List.Perm.of_eq (List.append_nil _).symm)) rfl (Nat.le_of_ble_eq_true rfl) (fun _ => rfl) (fun z10 h => ?_)
            refine wa_dup2 fx dX4_hour_71 rfl rfl ?_
            refine wa_iald (f := w7.1 0) fx 1 rfl dX4_hour_72 h (fun h => ?_)
            refine wa_iconst fx (1 : Int32) dX4_hour_73 (by decide) ?_
            refine wa_iadd fx dX4_hour_74 ?_
            refine wa_iast (mo_ws g ad) (f := w7.1 0) fx 1 rfl dX4_hour_75 h rfl (fun w11 h => ?_)
            refine wa_iload_n fx 2 dX4_hour_76 rfl ?_
            exact fn_i (mo_ws g ad) fx hf (sn1 h) (sn2 h) dX4_hour_77
      · refine wa_iload_n fx 1 dX4_hour_14 rfl ?_
        refine wa_aload_n fx 0 dX4_hour_15 rfl ?_
        refine wa_iload_n fx 2 dX4_hour_16 rfl ?_
        refine wa_V (b := ad 0) (rmc := (rmh 7)) (As := [.int x5]) (st := [.int x4]) (wc := (mo_ws g ad w6)) (wr := ([] : va_W)) (wcz := fun z12 => mo_ws g ad z12.2) (w2 := fun z12 => mo_ws g ad z12.2) (o := fun z12 => some (.int z12.1)) (s2 := fun z12 => [.int z12.1, .int x4]) (ci := 4) (q0 := 0) fx mm_X4_moves q_16_23 dX4_hour_17 h (fun _ hz => c_X4_moves hz) rfl rfl (rm_ok (by decide) (by decide)) ⟨Nat.zero_le _, Nat.zero_le _⟩ rfl (List.Perm.refl _) (fun _ => List.Perm.refl _) rfl (Nat.le_of_ble_eq_true rfl) (fun _ => rfl) (fun z12 h => ?_)
        refine wa_iadd fx dX4_hour_20 ?_
        refine wa_istore_nN fx (fun x13 => [(1, .int x13), (0, .ref (ad 0)), (2, .int x5)]) dX4_hour_21 rfl (by decide) (fun _ => rfl) h (fun x13 h => ?_)
        refine wa_iinc fx 2 (fun x14 => [(2, .int x14), (1, .int x13), (0, .ref (ad 0))]) dX4_hour_22 rfl (by rfl) (by decide) (fun _ => rfl) h (fun x14 h => ?_)
        refine wa_goto fx 4 dX4_hour_25 (by decide) ?_
        refine wa_sub [2, 1, 0] rfl ?_
        exact ih x13 x14 z12.2 h
  refine wa_iconst fx (0 : Int32) dX4_hour_0 (by decide) ?_
  refine wa_istore_n fx [(1, .int (0 : Int32)), (0, .ref (ad 0))] dX4_hour_1 rfl (by decide) rfl ?_
  refine wa_iconst fx (0 : Int32) dX4_hour_2 (by decide) ?_
  refine wa_istore_n fx [(2, .int (0 : Int32)), (1, .int (0 : Int32)), (0, .ref (ad 0))] dX4_hour_3 rfl (by decide) rfl ?_
  refine wa_sub [2, 1, 0] rfl ?_
  exact B4 200 (0 : Int32) (0 : Int32) st h
def f_X4_hoursGo_l4 : Nat → (Int32) → (Int32) → (Int32) → (StT) → Option (Int32 × (StT))
  | 0, _, _, _, _ => none
  | n + 1, x5, x6, x7, w8 => if x5 ≤ x7 then (some (x6, w8)) else (Option.bind (f_X4_hour w8) fun z9 => nm z9.1 fun x10 => nm (x7 + (1 : Int32)) fun x11 => (f_X4_hoursGo_l4 n) x5 x10 x11 z9.2)
def f_X4_hoursGo  (st : StT) (a1 : Int32) : Option (Int32 × (StT)) := f_X4_hoursGo_l4 200 a1 (0 : Int32) (0 : Int32) st
set_option maxHeartbeats 4000000 in
set_option maxRecDepth 100000 in
theorem c_X4_hoursGo {g : GT} {l : Launch} {ad : Nat → Nat}   {st : StT} {a1 : Int32} {r : Int32 × (StT)} (h : f_X4_hoursGo st a1 = some r) : Ct g l yX4_hoursGo (wd yX4_hoursGo cX4_hoursGo 4 (some .int)) (rmh 9) [.ref (ad 0), .int a1] (mo_ws g ad st) (mo_ws g ad r.2) (some (.int r.1)) := by
  refine Ct.of (lv := [(0, .ref (ad 0)), (1, .int a1)]) (by decide) (Nat.le_of_ble_eq_true rfl) rfl (fun K hl fx hf => ?_)
  subst hl
  rw [f_X4_hoursGo] at h
  have B4 : ∀  (n : Nat) (x5 : Int32) (x6 : Int32) (x7 : Int32) (w8 : StT), f_X4_hoursGo_l4 n x5 x6 x7 w8 = some r → WA g K 4 0 0 4 [(0, .ref (ad 0)), (1, .int x5), (2, .int x6), (3, .int x7)] [] (mo_ws g ad w8) := by
    intro   n
    induction n with
    | zero => intro x5 x6 x7 w8 h; exact absurd h (by rw [f_X4_hoursGo_l4]; exact nofun)
    | succ n ih =>
      intro x5 x6 x7 w8 h
      rw [f_X4_hoursGo_l4] at h
      refine wa_iload_n fx 3 dX4_hoursGo_4 rfl ?_
      refine wa_iload_n fx 1 dX4_hoursGo_5 rfl ?_
      refine wa_icmp_ge fx 20 dX4_hoursGo_6 (by decide) h (fun h => ?_) (fun h => ?_)
      · refine wa_iload_n fx 2 dX4_hoursGo_20 rfl ?_
        exact fn_i (mo_ws g ad) fx hf (sn1 h) (sn2 h) dX4_hoursGo_21
      · refine wa_aload_n fx 0 dX4_hoursGo_9 rfl ?_
        refine wa_V (b := ad 0) (rmc := (rmh 8)) (As := []) (st := []) (wc := (mo_ws g ad w8)) (wr := ([] : va_W)) (wcz := fun z9 => mo_ws g ad z9.2) (w2 := fun z9 => mo_ws g ad z9.2) (o := fun z9 => some (.int z9.1)) (s2 := fun z9 => [.int z9.1]) (ci := 4) (q0 := 0) fx mm_X4_hour q_16_19 dX4_hoursGo_10 h (fun _ hz => c_X4_hour hz) rfl rfl (rm_ok (by decide) (by decide)) ⟨Nat.zero_le _, Nat.zero_le _⟩ rfl (List.Perm.refl _) (fun _ => List.Perm.refl _) rfl (Nat.le_of_ble_eq_true rfl) (fun _ => rfl) (fun z9 h => ?_)
        refine wa_istore_nN fx (fun x10 => [(2, .int x10), (0, .ref (ad 0)), (1, .int x5), (3, .int x7)]) dX4_hoursGo_13 rfl (by decide) (fun _ => rfl) h (fun x10 h => ?_)
        refine wa_iinc fx 3 (fun x11 => [(3, .int x11), (2, .int x10), (0, .ref (ad 0)), (1, .int x5)]) dX4_hoursGo_14 rfl (by rfl) (by decide) (fun _ => rfl) h (fun x11 h => ?_)
        refine wa_goto fx 4 dX4_hoursGo_17 (by decide) ?_
        refine wa_sub [2, 3, 1, 0] rfl ?_
        exact ih x5 x10 x11 z9.2 h
  refine wa_iconst fx (0 : Int32) dX4_hoursGo_0 (by decide) ?_
  refine wa_istore_n fx [(2, .int (0 : Int32)), (0, .ref (ad 0)), (1, .int a1)] dX4_hoursGo_1 rfl (by decide) rfl ?_
  refine wa_iconst fx (0 : Int32) dX4_hoursGo_2 (by decide) ?_
  refine wa_istore_n fx [(3, .int (0 : Int32)), (2, .int (0 : Int32)), (0, .ref (ad 0)), (1, .int a1)] dX4_hoursGo_3 rfl (by decide) rfl ?_
  refine wa_sub [2, 3, 1, 0] rfl ?_
  exact B4 200 a1 (0 : Int32) (0 : Int32) st h
def f_X4_hours  (st : StT) (a1 : Int32) : Option (Int32 × (StT)) := Option.bind (f_X4_in (Int32.toInt64 a1) (1 : Int64) (60 : Int64)) fun z1 => if z1 = 0 then (Option.bind (f_X4_finds st (-1000000001 : Int32)) fun z4 => some (z4.1, z4.2)) else (ck (1 : Int32) 66 (if ((st.1 0 (Int32.toNatClampNeg (1 : Int32))) + a1) ≤ (99999 : Int32) then (Option.bind (f_X4_hoursGo st a1) fun z2 => some (z2.1, z2.2)) else (Option.bind (f_X4_finds st (-1000000005 : Int32)) fun z3 => some (z3.1, z3.2))))
set_option maxHeartbeats 4000000 in
set_option maxRecDepth 100000 in
theorem c_X4_hours {g : GT} {l : Launch} {ad : Nat → Nat}   {st : StT} {a1 : Int32} {r : Int32 × (StT)} (h : f_X4_hours st a1 = some r) : Ct g l yX4_hours (wd yX4_hours cX4_hours 2 (some .int)) (rmh 10) [.ref (ad 0), .int a1] (mo_ws g ad st) (mo_ws g ad r.2) (some (.int r.1)) := by
  refine Ct.of (lv := [(0, .ref (ad 0)), (1, .int a1)]) (by decide) (Nat.le_of_ble_eq_true rfl) rfl (fun K hl fx hf => ?_)
  subst hl
  rw [f_X4_hours] at h
  refine wa_iload_n fx 1 dX4_hours_0 rfl ?_
  refine wa_i2l fx dX4_hours_1 ?_
  refine wa_lconst fx (1 : Int64) dX4_hours_2 (by decide) ?_
  refine wa_ldc2 fx q_16_13 dX4_hours_3 ?_
  refine wa_S (rmc := (rmh 1)) (As := [.long (Int32.toInt64 a1), .long (1 : Int64), .long (60 : Int64)]) (st := []) (wc := (no_ws ())) (wr := (mo_ws g ad st)) (wcz := fun _ => (no_ws ())) (w2 := fun _ => (mo_ws g ad st)) (o := fun z1 => some (.int z1)) (s2 := fun z1 => [.int z1]) fx mm_X4_in q_5_5 dX4_hours_6 h (fun _ hz => c_X4_in hz) (rm_ok (by decide) (by decide)) ⟨Nat.zero_le _, Nat.zero_le _⟩ rfl (List.Perm.of_eq (List.append_nil _).symm) (fun _ => (List.Perm.of_eq (List.append_nil _).symm)) rfl (Nat.le_of_ble_eq_true rfl) (fun _ => rfl) (fun z1 h => ?_)
  refine wa_if_ne fx 19 dX4_hours_9 (by decide) h (fun h => ?_) (fun h => ?_)
  · refine wa_aload_n fx 0 dX4_hours_12 rfl ?_
    refine wa_ldc fx q_5_4 dX4_hours_13 ?_
    refine wa_V (b := ad 0) (rmc := (rmh 1)) (As := [.int (-1000000001 : Int32)]) (st := []) (wc := (mo_ws g ad st)) (wr := ([] : va_W)) (wcz := fun z4 => mo_ws g ad z4.2) (w2 := fun z4 => mo_ws g ad z4.2) (o := fun z4 => some (.int z4.1)) (s2 := fun z4 => [.int z4.1]) (ci := 4) (q0 := 0) fx mm_X4_finds q_5_16 dX4_hours_15 h (fun _ hz => c_X4_finds hz) rfl rfl (rm_ok (by decide) (by decide)) ⟨Nat.zero_le _, Nat.zero_le _⟩ rfl (List.Perm.refl _) (fun _ => List.Perm.refl _) rfl (Nat.le_of_ble_eq_true rfl) (fun _ => rfl) (fun z4 h => ?_)
    exact fn_i (mo_ws g ad) fx hf (sn1 h) (sn2 h) dX4_hours_18
  · refine wa_aload_n fx 0 dX4_hours_19 rfl ?_
    refine wa_get (v := .ref (ad 1)) fx wm_X4 0 rfl rfl 0 (by decide) q_3_15 rfl rfl dX4_hours_20 ?_
    refine wa_iconst fx (1 : Int32) dX4_hours_23 (by decide) ?_
    refine wa_iald (f := st.1 0) fx 1 rfl dX4_hours_24 h (fun h => ?_)
    refine wa_iload_n fx 1 dX4_hours_25 rfl ?_
    refine wa_iadd fx dX4_hours_26 ?_
    refine wa_ldc fx q_16_14 dX4_hours_27 ?_
    refine wa_icmp_le fx 41 dX4_hours_29 (by decide) h (fun h => ?_) (fun h => ?_)
    · refine wa_aload_n fx 0 dX4_hours_41 rfl ?_
      refine wa_iload_n fx 1 dX4_hours_42 rfl ?_
      refine wa_V (b := ad 0) (rmc := (rmh 9)) (As := [.int a1]) (st := []) (wc := (mo_ws g ad st)) (wr := ([] : va_W)) (wcz := fun z2 => mo_ws g ad z2.2) (w2 := fun z2 => mo_ws g ad z2.2) (o := fun z2 => some (.int z2.1)) (s2 := fun z2 => [.int z2.1]) (ci := 4) (q0 := 0) fx mm_X4_hoursGo q_16_15 dX4_hours_43 h (fun _ hz => c_X4_hoursGo hz) rfl rfl (rm_ok (by decide) (by decide)) ⟨Nat.zero_le _, Nat.zero_le _⟩ rfl (List.Perm.refl _) (fun _ => List.Perm.refl _) rfl (Nat.le_of_ble_eq_true rfl) (fun _ => rfl) (fun z2 h => ?_)
      exact fn_i (mo_ws g ad) fx hf (sn1 h) (sn2 h) dX4_hours_46
    · refine wa_aload_n fx 0 dX4_hours_32 rfl ?_
      refine wa_ldc fx q_12_16 dX4_hours_33 ?_
      refine wa_V (b := ad 0) (rmc := (rmh 1)) (As := [.int (-1000000005 : Int32)]) (st := []) (wc := (mo_ws g ad st)) (wr := ([] : va_W)) (wcz := fun z3 => mo_ws g ad z3.2) (w2 := fun z3 => mo_ws g ad z3.2) (o := fun z3 => some (.int z3.1)) (s2 := fun z3 => [.int z3.1]) (ci := 4) (q0 := 0) fx mm_X4_finds q_5_16 dX4_hours_35 h (fun _ hz => c_X4_finds hz) rfl rfl (rm_ok (by decide) (by decide)) ⟨Nat.zero_le _, Nat.zero_le _⟩ rfl (List.Perm.refl _) (fun _ => List.Perm.refl _) rfl (Nat.le_of_ble_eq_true rfl) (fun _ => rfl) (fun z3 h => ?_)
      refine wa_goto fx 46 dX4_hours_38 (by decide) ?_
      exact fn_i (mo_ws g ad) fx hf (sn1 h) (sn2 h) dX4_hours_46
def f_X4_sitting_b32 (k4 : (Int32) → (Int32) → Option (Int32)) (st : StT) (x6 : Int32) (x7 : Int32) (x8 : Int32) : Option (Int32) := nm (x8 ||| x7) fun x9 => nm (x6 + (1 : Int32)) fun x10 => k4 x9 x10
def f_X4_sitting_l4 (st : StT) : Nat → (Int32) → (Int32) → Option (Int32)
  | 0, _, _ => none
  | n + 1, x3, x4 => ck (0 : Int32) 66 (if (st.1 0 (Int32.toNatClampNeg (0 : Int32))) ≤ x4 then (some x3) else (Option.bind (f_X4_its st x4 (5 : Int32)) fun z5 => if z5 = (-1 : Int32) then (f_X4_sitting_b32 (f_X4_sitting_l4 st n) st x4 (0 : Int32) x3) else (f_X4_sitting_b32 (f_X4_sitting_l4 st n) st x4 ((1 : Int32) <<< (x4 &&& 31)) x3)))
def f_X4_sitting (st : StT)  : Option (Int32) := f_X4_sitting_l4 st 200 (0 : Int32) (0 : Int32)
set_option maxHeartbeats 4000000 in
set_option maxRecDepth 100000 in
theorem c_X4_sitting {g : GT} {l : Launch} {ad : Nat → Nat}   {st : StT}  {r : Int32} (h : f_X4_sitting st = some r) : Ct g l yX4_sitting (wd yX4_sitting cX4_sitting 3 (some .int)) (rmh 3) [.ref (ad 0)] (mo_ws g ad st) (mo_ws g ad st) (some (.int r)) := by
  refine Ct.of (lv := [(0, .ref (ad 0))]) (by decide) (Nat.le_of_ble_eq_true rfl) rfl (fun K hl fx hf => ?_)
  subst hl
  rw [f_X4_sitting] at h
  have B32 : ∀ (k4 : (Int32) → (Int32) → Option (Int32)) (Hk4 : ∀ (y1 : Int32) (y2 : Int32), k4 y1 y2 = some r → WA g K 3 0 0 4 [(0, .ref (ad 0)), (1, .int y1), (2, .int y2)] [] (mo_ws g ad st)) (x6 : Int32) (x7 : Int32) (x8 : Int32), f_X4_sitting_b32 k4 st x6 x7 x8 = some r → WA g K 3 0 0 32 [(0, .ref (ad 0)), (2, .int x6)] [.int x7, .int x8] (mo_ws g ad st) := by
    intro  k4 Hk4 x6 x7 x8 h
    rw [f_X4_sitting_b32] at h
    refine wa_ior fx dX4_sitting_32 ?_
    refine wa_istore_nN fx (fun x9 => [(1, .int x9), (0, .ref (ad 0)), (2, .int x6)]) dX4_sitting_33 rfl (by decide) (fun _ => rfl) h (fun x9 h => ?_)
    refine wa_iinc fx 2 (fun x10 => [(2, .int x10), (1, .int x9), (0, .ref (ad 0))]) dX4_sitting_34 rfl (by rfl) (by decide) (fun _ => rfl) h (fun x10 h => ?_)
    refine wa_goto fx 4 dX4_sitting_37 (by decide) ?_
    refine wa_sub [2, 1, 0] rfl ?_
    exact Hk4 x9 x10 h
  have B4 : ∀  (n : Nat) (x3 : Int32) (x4 : Int32), f_X4_sitting_l4 st n x3 x4 = some r → WA g K 3 0 0 4 [(0, .ref (ad 0)), (1, .int x3), (2, .int x4)] [] (mo_ws g ad st) := by
    intro   n
    induction n with
    | zero => intro x3 x4 h; exact absurd h (by rw [f_X4_sitting_l4]; exact nofun)
    | succ n ih =>
      intro x3 x4 h
      rw [f_X4_sitting_l4] at h
      refine wa_iload_n fx 2 dX4_sitting_4 rfl ?_
      refine wa_aload_n fx 0 dX4_sitting_5 rfl ?_
      refine wa_get (v := .ref (ad 1)) fx wm_X4 0 rfl rfl 0 (by decide) q_3_15 rfl rfl dX4_sitting_6 ?_
      refine wa_iconst fx (0 : Int32) dX4_sitting_9 (by decide) ?_
      refine wa_iald (f := st.1 0) fx 1 rfl dX4_sitting_10 h (fun h => ?_)
      refine wa_icmp_ge fx 40 dX4_sitting_11 (by decide) h (fun h => ?_) (fun h => ?_)
      · refine wa_iload_n fx 1 dX4_sitting_40 rfl ?_
        exact fn_i (mo_ws g ad) fx hf (Option.some.inj h) rfl dX4_sitting_41
      · refine wa_iload_n fx 1 dX4_sitting_14 rfl ?_
        refine wa_aload_n fx 0 dX4_sitting_15 rfl ?_
        refine wa_iload_n fx 2 dX4_sitting_16 rfl ?_
        refine wa_iconst fx (5 : Int32) dX4_sitting_17 (by decide) ?_
        refine wa_V (b := ad 0) (rmc := (rmh 2)) (As := [.int x4, .int (5 : Int32)]) (st := [.int x3]) (wc := (mo_ws g ad st)) (wr := ([] : va_W)) (wcz := fun _ => (mo_ws g ad st)) (w2 := fun _ => (mo_ws g ad st)) (o := fun z5 => some (.int z5)) (s2 := fun z5 => [.int z5, .int x3]) (ci := 4) (q0 := 0) fx mm_X4_its q_6_10 dX4_sitting_18 h (fun _ hz => c_X4_its hz) rfl rfl (rm_ok (by decide) (by decide)) ⟨Nat.zero_le _, Nat.zero_le _⟩ rfl (List.Perm.refl _) (fun _ => (List.Perm.refl _)) rfl (Nat.le_of_ble_eq_true rfl) (fun _ => rfl) (fun z5 h => ?_)
        refine wa_iconst fx (-1 : Int32) dX4_sitting_21 (by decide) ?_
        refine wa_icmp_eq fx 31 dX4_sitting_22 (by decide) h (fun h => ?_) (fun h => ?_)
        · refine wa_iconst fx (0 : Int32) dX4_sitting_31 (by decide) ?_
          refine wa_sub [0, 2] rfl ?_
          exact B32 (f_X4_sitting_l4 st n) ih x4 (0 : Int32) x3 h
        · refine wa_iconst fx (1 : Int32) dX4_sitting_25 (by decide) ?_
          refine wa_iload_n fx 2 dX4_sitting_26 rfl ?_
          refine wa_ishl fx dX4_sitting_27 ?_
          refine wa_goto fx 32 dX4_sitting_28 (by decide) ?_
          refine wa_sub [0, 2] rfl ?_
          exact B32 (f_X4_sitting_l4 st n) ih x4 ((1 : Int32) <<< (x4 &&& 31)) x3 h
  refine wa_iconst fx (0 : Int32) dX4_sitting_0 (by decide) ?_
  refine wa_istore_n fx [(1, .int (0 : Int32)), (0, .ref (ad 0))] dX4_sitting_1 rfl (by decide) rfl ?_
  refine wa_iconst fx (0 : Int32) dX4_sitting_2 (by decide) ?_
  refine wa_istore_n fx [(2, .int (0 : Int32)), (1, .int (0 : Int32)), (0, .ref (ad 0))] dX4_sitting_3 rfl (by decide) rfl ?_
  refine wa_sub [2, 1, 0] rfl ?_
  exact B4 200 (0 : Int32) (0 : Int32) h
def f_X4_emptyOnes_b27 (k4 : (Int32) → (Int32) → Option (Int32)) (st : StT) (x6 : Int32) (x7 : Int32) (x8 : Int32) : Option (Int32) := nm (x8 ||| x7) fun x9 => nm (x6 + (1 : Int32)) fun x10 => k4 x9 x10
def f_X4_emptyOnes_l4 (st : StT) : Nat → (Int32) → (Int32) → Option (Int32)
  | 0, _, _ => none
  | n + 1, x3, x4 => if (8 : Int32) ≤ x4 then (some x3) else (Option.bind (f_X4_whoIn st x4) fun z5 => if z5 = (-1 : Int32) then (f_X4_emptyOnes_b27 (f_X4_emptyOnes_l4 st n) st x4 ((1 : Int32) <<< (x4 &&& 31)) x3) else (f_X4_emptyOnes_b27 (f_X4_emptyOnes_l4 st n) st x4 (0 : Int32) x3))
def f_X4_emptyOnes (st : StT)  : Option (Int32) := f_X4_emptyOnes_l4 st 200 (0 : Int32) (0 : Int32)
set_option maxHeartbeats 4000000 in
set_option maxRecDepth 100000 in
theorem c_X4_emptyOnes {g : GT} {l : Launch} {ad : Nat → Nat}   {st : StT}  {r : Int32} (h : f_X4_emptyOnes st = some r) : Ct g l yX4_emptyOnes (wd yX4_emptyOnes cX4_emptyOnes 3 (some .int)) (rmh 4) [.ref (ad 0)] (mo_ws g ad st) (mo_ws g ad st) (some (.int r)) := by
  refine Ct.of (lv := [(0, .ref (ad 0))]) (by decide) (Nat.le_of_ble_eq_true rfl) rfl (fun K hl fx hf => ?_)
  subst hl
  rw [f_X4_emptyOnes] at h
  have B27 : ∀ (k4 : (Int32) → (Int32) → Option (Int32)) (Hk4 : ∀ (y1 : Int32) (y2 : Int32), k4 y1 y2 = some r → WA g K 3 0 0 4 [(0, .ref (ad 0)), (1, .int y1), (2, .int y2)] [] (mo_ws g ad st)) (x6 : Int32) (x7 : Int32) (x8 : Int32), f_X4_emptyOnes_b27 k4 st x6 x7 x8 = some r → WA g K 3 0 0 27 [(0, .ref (ad 0)), (2, .int x6)] [.int x7, .int x8] (mo_ws g ad st) := by
    intro  k4 Hk4 x6 x7 x8 h
    rw [f_X4_emptyOnes_b27] at h
    refine wa_ior fx dX4_emptyOnes_27 ?_
    refine wa_istore_nN fx (fun x9 => [(1, .int x9), (0, .ref (ad 0)), (2, .int x6)]) dX4_emptyOnes_28 rfl (by decide) (fun _ => rfl) h (fun x9 h => ?_)
    refine wa_iinc fx 2 (fun x10 => [(2, .int x10), (1, .int x9), (0, .ref (ad 0))]) dX4_emptyOnes_29 rfl (by rfl) (by decide) (fun _ => rfl) h (fun x10 h => ?_)
    refine wa_goto fx 4 dX4_emptyOnes_32 (by decide) ?_
    refine wa_sub [2, 1, 0] rfl ?_
    exact Hk4 x9 x10 h
  have B4 : ∀  (n : Nat) (x3 : Int32) (x4 : Int32), f_X4_emptyOnes_l4 st n x3 x4 = some r → WA g K 3 0 0 4 [(0, .ref (ad 0)), (1, .int x3), (2, .int x4)] [] (mo_ws g ad st) := by
    intro   n
    induction n with
    | zero => intro x3 x4 h; exact absurd h (by rw [f_X4_emptyOnes_l4]; exact nofun)
    | succ n ih =>
      intro x3 x4 h
      rw [f_X4_emptyOnes_l4] at h
      refine wa_iload_n fx 2 dX4_emptyOnes_4 rfl ?_
      refine wa_bipush fx (8 : Int32) dX4_emptyOnes_5 (by decide) ?_
      refine wa_icmp_ge fx 35 dX4_emptyOnes_7 (by decide) h (fun h => ?_) (fun h => ?_)
      · refine wa_iload_n fx 1 dX4_emptyOnes_35 rfl ?_
        exact fn_i (mo_ws g ad) fx hf (Option.some.inj h) rfl dX4_emptyOnes_36
      · refine wa_iload_n fx 1 dX4_emptyOnes_10 rfl ?_
        refine wa_aload_n fx 0 dX4_emptyOnes_11 rfl ?_
        refine wa_iload_n fx 2 dX4_emptyOnes_12 rfl ?_
        refine wa_V (b := ad 0) (rmc := (rmh 3)) (As := [.int x4]) (st := [.int x3]) (wc := (mo_ws g ad st)) (wr := ([] : va_W)) (wcz := fun _ => (mo_ws g ad st)) (w2 := fun _ => (mo_ws g ad st)) (o := fun z5 => some (.int z5)) (s2 := fun z5 => [.int z5, .int x3]) (ci := 4) (q0 := 0) fx mm_X4_whoIn q_6_6 dX4_emptyOnes_13 h (fun _ hz => c_X4_whoIn hz) rfl rfl (rm_ok (by decide) (by decide)) ⟨Nat.zero_le _, Nat.zero_le _⟩ rfl (List.Perm.refl _) (fun _ => (List.Perm.refl _)) rfl (Nat.le_of_ble_eq_true rfl) (fun _ => rfl) (fun z5 h => ?_)
        refine wa_iconst fx (-1 : Int32) dX4_emptyOnes_16 (by decide) ?_
        refine wa_icmp_ne fx 26 dX4_emptyOnes_17 (by decide) h (fun h => ?_) (fun h => ?_)
        · refine wa_iconst fx (1 : Int32) dX4_emptyOnes_20 (by decide) ?_
          refine wa_iload_n fx 2 dX4_emptyOnes_21 rfl ?_
          refine wa_ishl fx dX4_emptyOnes_22 ?_
          refine wa_goto fx 27 dX4_emptyOnes_23 (by decide) ?_
          refine wa_sub [0, 2] rfl ?_
          exact B27 (f_X4_emptyOnes_l4 st n) ih x4 ((1 : Int32) <<< (x4 &&& 31)) x3 h
        · refine wa_iconst fx (0 : Int32) dX4_emptyOnes_26 (by decide) ?_
          refine wa_sub [0, 2] rfl ?_
          exact B27 (f_X4_emptyOnes_l4 st n) ih x4 (0 : Int32) x3 h
  refine wa_iconst fx (0 : Int32) dX4_emptyOnes_0 (by decide) ?_
  refine wa_istore_n fx [(1, .int (0 : Int32)), (0, .ref (ad 0))] dX4_emptyOnes_1 rfl (by decide) rfl ?_
  refine wa_iconst fx (0 : Int32) dX4_emptyOnes_2 (by decide) ?_
  refine wa_istore_n fx [(2, .int (0 : Int32)), (1, .int (0 : Int32)), (0, .ref (ad 0))] dX4_emptyOnes_3 rfl (by decide) rfl ?_
  refine wa_sub [2, 1, 0] rfl ?_
  exact B4 200 (0 : Int32) (0 : Int32) h
def f_X4_peaceNow_b40 (k4 : (Int32) → (Int32) → Option (Int32)) (st : StT) (x6 : Int32) (x7 : Int32) (x8 : Int32) : Option (Int32) := nm (x8 + x7) fun x9 => nm (x6 + (1 : Int32)) fun x10 => k4 x9 x10
def f_X4_peaceNow_l4 (st : StT) : Nat → (Int32) → (Int32) → Option (Int32)
  | 0, _, _ => none
  | n + 1, x3, x4 => ck (0 : Int32) 66 (if (st.1 0 (Int32.toNatClampNeg (0 : Int32))) ≤ x4 then (some x3) else (Option.bind (f_X4_its st x4 (5 : Int32)) fun z5 => if z5 = (-1 : Int32) then (f_X4_peaceNow_b40 (f_X4_peaceNow_l4 st n) st x4 (0 : Int32) x3) else (Option.bind (f_X4_its st x4 (5 : Int32)) fun z11 => Option.bind (f_X4_sits st x4 z11) fun z12 => f_X4_peaceNow_b40 (f_X4_peaceNow_l4 st n) st x4 z12 x3)))
def f_X4_peaceNow (st : StT)  : Option (Int32) := f_X4_peaceNow_l4 st 200 (0 : Int32) (0 : Int32)
set_option maxHeartbeats 4000000 in
set_option maxRecDepth 100000 in
theorem c_X4_peaceNow {g : GT} {l : Launch} {ad : Nat → Nat}   {st : StT}  {r : Int32} (h : f_X4_peaceNow st = some r) : Ct g l yX4_peaceNow (wd yX4_peaceNow cX4_peaceNow 3 (some .int)) (rmh 6) [.ref (ad 0)] (mo_ws g ad st) (mo_ws g ad st) (some (.int r)) := by
  refine Ct.of (lv := [(0, .ref (ad 0))]) (by decide) (Nat.le_of_ble_eq_true rfl) rfl (fun K hl fx hf => ?_)
  subst hl
  rw [f_X4_peaceNow] at h
  have B40 : ∀ (k4 : (Int32) → (Int32) → Option (Int32)) (Hk4 : ∀ (y1 : Int32) (y2 : Int32), k4 y1 y2 = some r → WA g K 3 0 0 4 [(0, .ref (ad 0)), (1, .int y1), (2, .int y2)] [] (mo_ws g ad st)) (x6 : Int32) (x7 : Int32) (x8 : Int32), f_X4_peaceNow_b40 k4 st x6 x7 x8 = some r → WA g K 3 0 0 40 [(0, .ref (ad 0)), (2, .int x6)] [.int x7, .int x8] (mo_ws g ad st) := by
    intro  k4 Hk4 x6 x7 x8 h
    rw [f_X4_peaceNow_b40] at h
    refine wa_iadd fx dX4_peaceNow_40 ?_
    refine wa_istore_nN fx (fun x9 => [(1, .int x9), (0, .ref (ad 0)), (2, .int x6)]) dX4_peaceNow_41 rfl (by decide) (fun _ => rfl) h (fun x9 h => ?_)
    refine wa_iinc fx 2 (fun x10 => [(2, .int x10), (1, .int x9), (0, .ref (ad 0))]) dX4_peaceNow_42 rfl (by rfl) (by decide) (fun _ => rfl) h (fun x10 h => ?_)
    refine wa_goto fx 4 dX4_peaceNow_45 (by decide) ?_
    refine wa_sub [2, 1, 0] rfl ?_
    exact Hk4 x9 x10 h
  have B4 : ∀  (n : Nat) (x3 : Int32) (x4 : Int32), f_X4_peaceNow_l4 st n x3 x4 = some r → WA g K 3 0 0 4 [(0, .ref (ad 0)), (1, .int x3), (2, .int x4)] [] (mo_ws g ad st) := by
    intro   n
    induction n with
    | zero => intro x3 x4 h; exact absurd h (by rw [f_X4_peaceNow_l4]; exact nofun)
    | succ n ih =>
      intro x3 x4 h
      rw [f_X4_peaceNow_l4] at h
      refine wa_iload_n fx 2 dX4_peaceNow_4 rfl ?_
      refine wa_aload_n fx 0 dX4_peaceNow_5 rfl ?_
      refine wa_get (v := .ref (ad 1)) fx wm_X4 0 rfl rfl 0 (by decide) q_3_15 rfl rfl dX4_peaceNow_6 ?_
      refine wa_iconst fx (0 : Int32) dX4_peaceNow_9 (by decide) ?_
      refine wa_iald (f := st.1 0) fx 1 rfl dX4_peaceNow_10 h (fun h => ?_)
      refine wa_icmp_ge fx 48 dX4_peaceNow_11 (by decide) h (fun h => ?_) (fun h => ?_)
      · refine wa_iload_n fx 1 dX4_peaceNow_48 rfl ?_
        exact fn_i (mo_ws g ad) fx hf (Option.some.inj h) rfl dX4_peaceNow_49
      · refine wa_iload_n fx 1 dX4_peaceNow_14 rfl ?_
        refine wa_aload_n fx 0 dX4_peaceNow_15 rfl ?_
        refine wa_iload_n fx 2 dX4_peaceNow_16 rfl ?_
        refine wa_iconst fx (5 : Int32) dX4_peaceNow_17 (by decide) ?_
        refine wa_V (b := ad 0) (rmc := (rmh 2)) (As := [.int x4, .int (5 : Int32)]) (st := [.int x3]) (wc := (mo_ws g ad st)) (wr := ([] : va_W)) (wcz := fun _ => (mo_ws g ad st)) (w2 := fun _ => (mo_ws g ad st)) (o := fun z5 => some (.int z5)) (s2 := fun z5 => [.int z5, .int x3]) (ci := 4) (q0 := 0) fx mm_X4_its q_6_10 dX4_peaceNow_18 h (fun _ hz => c_X4_its hz) rfl rfl (rm_ok (by decide) (by decide)) ⟨Nat.zero_le _, Nat.zero_le _⟩ rfl (List.Perm.refl _) (fun _ => (List.Perm.refl _)) rfl (Nat.le_of_ble_eq_true rfl) (fun _ => rfl) (fun z5 h => ?_)
        refine wa_iconst fx (-1 : Int32) dX4_peaceNow_21 (by decide) ?_
        refine wa_icmp_eq fx 39 dX4_peaceNow_22 (by decide) h (fun h => ?_) (fun h => ?_)
        · refine wa_iconst fx (0 : Int32) dX4_peaceNow_39 (by decide) ?_
          refine wa_sub [0, 2] rfl ?_
          exact B40 (f_X4_peaceNow_l4 st n) ih x4 (0 : Int32) x3 h
        · refine wa_aload_n fx 0 dX4_peaceNow_25 rfl ?_
          refine wa_iload_n fx 2 dX4_peaceNow_26 rfl ?_
          refine wa_aload_n fx 0 dX4_peaceNow_27 rfl ?_
          refine wa_iload_n fx 2 dX4_peaceNow_28 rfl ?_
          refine wa_iconst fx (5 : Int32) dX4_peaceNow_29 (by decide) ?_
          refine wa_V (b := ad 0) (rmc := (rmh 2)) (As := [.int x4, .int (5 : Int32)]) (st := [.int x4, .ref (ad 0), .int x3]) (wc := (mo_ws g ad st)) (wr := ([] : va_W)) (wcz := fun _ => (mo_ws g ad st)) (w2 := fun _ => (mo_ws g ad st)) (o := fun z11 => some (.int z11)) (s2 := fun z11 => [.int z11, .int x4, .ref (ad 0), .int x3]) (ci := 4) (q0 := 0) fx mm_X4_its q_6_10 dX4_peaceNow_30 h (fun _ hz => c_X4_its hz) rfl rfl (rm_ok (by decide) (by decide)) ⟨Nat.zero_le _, Nat.zero_le _⟩ rfl (List.Perm.refl _) (fun _ => (List.Perm.refl _)) rfl (Nat.le_of_ble_eq_true rfl) (fun _ => rfl) (fun z11 h => ?_)
          refine wa_V (b := ad 0) (rmc := (rmh 5)) (As := [.int x4, .int z11]) (st := [.int x3]) (wc := (mo_ws g ad st)) (wr := ([] : va_W)) (wcz := fun _ => (mo_ws g ad st)) (w2 := fun _ => (mo_ws g ad st)) (o := fun z12 => some (.int z12)) (s2 := fun z12 => [.int z12, .int x3]) (ci := 4) (q0 := 0) fx mm_X4_sits q_14_11 dX4_peaceNow_33 h (fun _ hz => c_X4_sits hz) rfl rfl (rm_ok (by decide) (by decide)) ⟨Nat.zero_le _, Nat.zero_le _⟩ rfl (List.Perm.refl _) (fun _ => (List.Perm.refl _)) rfl (Nat.le_of_ble_eq_true rfl) (fun _ => rfl) (fun z12 h => ?_)
          refine wa_goto fx 40 dX4_peaceNow_36 (by decide) ?_
          refine wa_sub [0, 2] rfl ?_
          exact B40 (f_X4_peaceNow_l4 st n) ih x4 z12 x3 h
  refine wa_iconst fx (0 : Int32) dX4_peaceNow_0 (by decide) ?_
  refine wa_istore_n fx [(1, .int (0 : Int32)), (0, .ref (ad 0))] dX4_peaceNow_1 rfl (by decide) rfl ?_
  refine wa_iconst fx (0 : Int32) dX4_peaceNow_2 (by decide) ?_
  refine wa_istore_n fx [(2, .int (0 : Int32)), (1, .int (0 : Int32)), (0, .ref (ad 0))] dX4_peaceNow_3 rfl (by decide) rfl ?_
  refine wa_sub [2, 1, 0] rfl ?_
  exact B4 200 (0 : Int32) (0 : Int32) h
def f_X4_now  (st : StT) (a1 : Int32) : Option (Int32 × (StT)) := if a1 = (0 : Int32) then (ck (1 : Int32) 66 (some ((st.1 0 (Int32.toNatClampNeg (1 : Int32))), st))) else (if a1 = (1 : Int32) then (Option.bind (f_X4_hourNow st) fun z1 => some (z1, st)) else (if a1 = (2 : Int32) then (Option.bind (f_X4_isSunny st) fun z2 => if z2 = 0 then (some ((0 : Int32), st)) else (some ((1 : Int32), st))) else (if a1 = (3 : Int32) then (Option.bind (f_X4_sitting st) fun z3 => some (z3, st)) else (if a1 = (4 : Int32) then (Option.bind (f_X4_peaceNow st) fun z4 => some (((10000 : Int32) + z4), st)) else (if a1 = (5 : Int32) then (Option.bind (f_X4_emptyOnes st) fun z5 => some (z5, st)) else (Option.bind (f_X4_finds st (-1000000001 : Int32)) fun z6 => some (z6.1, z6.2)))))))
set_option maxHeartbeats 4000000 in
set_option maxRecDepth 100000 in
theorem c_X4_now {g : GT} {l : Launch} {ad : Nat → Nat}   {st : StT} {a1 : Int32} {r : Int32 × (StT)} (h : f_X4_now st a1 = some r) : Ct g l yX4_now (wd yX4_now cX4_now 2 (some .int)) (rmh 7) [.ref (ad 0), .int a1] (mo_ws g ad st) (mo_ws g ad r.2) (some (.int r.1)) := by
  refine Ct.of (lv := [(0, .ref (ad 0)), (1, .int a1)]) (by decide) (Nat.le_of_ble_eq_true rfl) rfl (fun K hl fx hf => ?_)
  subst hl
  rw [f_X4_now] at h
  refine wa_iload_n fx 1 dX4_now_0 rfl ?_
  by_cases c0 : a1 = (0 : Int32)
  · have h := (if_pos c0).symm.trans h
    refine wa_tabI fx 40 (0 : Int) dX4_now_1 (by rw [c0] <;> rfl) (by decide) (by decide) (by rfl) (by decide) ?_
    refine wa_aload_n fx 0 dX4_now_40 rfl ?_
    refine wa_get (v := .ref (ad 1)) fx wm_X4 0 rfl rfl 0 (by decide) q_3_15 rfl rfl dX4_now_41 ?_
    refine wa_iconst fx (1 : Int32) dX4_now_44 (by decide) ?_
    refine wa_iald (f := st.1 0) fx 1 rfl dX4_now_45 h (fun h => ?_)
    exact fn_i (mo_ws g ad) fx hf (sn1 h) (sn2 h) dX4_now_46
  · have h := (if_neg c0).symm.trans h
    by_cases c1 : a1 = (1 : Int32)
    · have h := (if_pos c1).symm.trans h
      refine wa_tabI fx 47 (1 : Int) dX4_now_1 (by rw [c1] <;> rfl) (by decide) (by decide) (by rfl) (by decide) ?_
      refine wa_aload_n fx 0 dX4_now_47 rfl ?_
      refine wa_V (b := ad 0) (rmc := (rmh 1)) (As := []) (st := []) (wc := (mo_ws g ad st)) (wr := ([] : va_W)) (wcz := fun _ => (mo_ws g ad st)) (w2 := fun _ => (mo_ws g ad st)) (o := fun z1 => some (.int z1)) (s2 := fun z1 => [.int z1]) (ci := 4) (q0 := 0) fx mm_X4_hourNow q_14_23 dX4_now_48 h (fun _ hz => c_X4_hourNow hz) rfl rfl (rm_ok (by decide) (by decide)) ⟨Nat.zero_le _, Nat.zero_le _⟩ rfl (List.Perm.refl _) (fun _ => (List.Perm.refl _)) rfl (Nat.le_of_ble_eq_true rfl) (fun _ => rfl) (fun z1 h => ?_)
      exact fn_i (mo_ws g ad) fx hf (sn1 h) (sn2 h) dX4_now_51
    · have h := (if_neg c1).symm.trans h
      by_cases c2 : a1 = (2 : Int32)
      · have h := (if_pos c2).symm.trans h
        refine wa_tabI fx 52 (2 : Int) dX4_now_1 (by rw [c2] <;> rfl) (by decide) (by decide) (by rfl) (by decide) ?_
        refine wa_aload_n fx 0 dX4_now_52 rfl ?_
        refine wa_V (b := ad 0) (rmc := (rmh 2)) (As := []) (st := []) (wc := (mo_ws g ad st)) (wr := ([] : va_W)) (wcz := fun _ => (mo_ws g ad st)) (w2 := fun _ => (mo_ws g ad st)) (o := fun z2 => some (.int z2)) (s2 := fun z2 => [.int z2]) (ci := 4) (q0 := 0) fx mm_X4_isSunny q_14_19 dX4_now_53 h (fun _ hz => c_X4_isSunny hz) rfl rfl (rm_ok (by decide) (by decide)) ⟨Nat.zero_le _, Nat.zero_le _⟩ rfl (List.Perm.refl _) (fun _ => (List.Perm.refl _)) rfl (Nat.le_of_ble_eq_true rfl) (fun _ => rfl) (fun z2 h => ?_)
        refine wa_if_eq fx 63 dX4_now_56 (by decide) h (fun h => ?_) (fun h => ?_)
        · refine wa_iconst fx (0 : Int32) dX4_now_63 (by decide) ?_
          exact fn_i (mo_ws g ad) fx hf (sn1 h) (sn2 h) dX4_now_64
        · refine wa_iconst fx (1 : Int32) dX4_now_59 (by decide) ?_
          refine wa_goto fx 64 dX4_now_60 (by decide) ?_
          exact fn_i (mo_ws g ad) fx hf (sn1 h) (sn2 h) dX4_now_64
      · have h := (if_neg c2).symm.trans h
        by_cases c3 : a1 = (3 : Int32)
        · have h := (if_pos c3).symm.trans h
          refine wa_tabI fx 65 (3 : Int) dX4_now_1 (by rw [c3] <;> rfl) (by decide) (by decide) (by rfl) (by decide) ?_
          refine wa_aload_n fx 0 dX4_now_65 rfl ?_
          refine wa_V (b := ad 0) (rmc := (rmh 3)) (As := []) (st := []) (wc := (mo_ws g ad st)) (wr := ([] : va_W)) (wcz := fun _ => (mo_ws g ad st)) (w2 := fun _ => (mo_ws g ad st)) (o := fun z3 => some (.int z3)) (s2 := fun z3 => [.int z3]) (ci := 4) (q0 := 0) fx mm_X4_sitting q_18_4 dX4_now_66 h (fun _ hz => c_X4_sitting hz) rfl rfl (rm_ok (by decide) (by decide)) ⟨Nat.zero_le _, Nat.zero_le _⟩ rfl (List.Perm.refl _) (fun _ => (List.Perm.refl _)) rfl (Nat.le_of_ble_eq_true rfl) (fun _ => rfl) (fun z3 h => ?_)
          exact fn_i (mo_ws g ad) fx hf (sn1 h) (sn2 h) dX4_now_69
        · have h := (if_neg c3).symm.trans h
          by_cases c4 : a1 = (4 : Int32)
          · have h := (if_pos c4).symm.trans h
            refine wa_tabI fx 70 (4 : Int) dX4_now_1 (by rw [c4] <;> rfl) (by decide) (by decide) (by rfl) (by decide) ?_
            refine wa_sipush fx (10000 : Int32) dX4_now_70 (by decide) ?_
            refine wa_aload_n fx 0 dX4_now_73 rfl ?_
            refine wa_V (b := ad 0) (rmc := (rmh 6)) (As := []) (st := [.int (10000 : Int32)]) (wc := (mo_ws g ad st)) (wr := ([] : va_W)) (wcz := fun _ => (mo_ws g ad st)) (w2 := fun _ => (mo_ws g ad st)) (o := fun z4 => some (.int z4)) (s2 := fun z4 => [.int z4, .int (10000 : Int32)]) (ci := 4) (q0 := 0) fx mm_X4_peaceNow q_18_8 dX4_now_74 h (fun _ hz => c_X4_peaceNow hz) rfl rfl (rm_ok (by decide) (by decide)) ⟨Nat.zero_le _, Nat.zero_le _⟩ rfl (List.Perm.refl _) (fun _ => (List.Perm.refl _)) rfl (Nat.le_of_ble_eq_true rfl) (fun _ => rfl) (fun z4 h => ?_)
            refine wa_iadd fx dX4_now_77 ?_
            exact fn_i (mo_ws g ad) fx hf (sn1 h) (sn2 h) dX4_now_78
          · have h := (if_neg c4).symm.trans h
            by_cases c5 : a1 = (5 : Int32)
            · have h := (if_pos c5).symm.trans h
              refine wa_tabI fx 79 (5 : Int) dX4_now_1 (by rw [c5] <;> rfl) (by decide) (by decide) (by rfl) (by decide) ?_
              refine wa_aload_n fx 0 dX4_now_79 rfl ?_
              refine wa_V (b := ad 0) (rmc := (rmh 4)) (As := []) (st := []) (wc := (mo_ws g ad st)) (wr := ([] : va_W)) (wcz := fun _ => (mo_ws g ad st)) (w2 := fun _ => (mo_ws g ad st)) (o := fun z5 => some (.int z5)) (s2 := fun z5 => [.int z5]) (ci := 4) (q0 := 0) fx mm_X4_emptyOnes q_18_12 dX4_now_80 h (fun _ hz => c_X4_emptyOnes hz) rfl rfl (rm_ok (by decide) (by decide)) ⟨Nat.zero_le _, Nat.zero_le _⟩ rfl (List.Perm.refl _) (fun _ => (List.Perm.refl _)) rfl (Nat.le_of_ble_eq_true rfl) (fun _ => rfl) (fun z5 h => ?_)
              exact fn_i (mo_ws g ad) fx hf (sn1 h) (sn2 h) dX4_now_83
            · have h := (if_neg c5).symm.trans h
              refine wa_tabD fx 84 dX4_now_1 (by decide) [(0 : Int32), (1 : Int32), (2 : Int32), (3 : Int32), (4 : Int32), (5 : Int32)] (by decide) (List.forall_mem_cons.mpr ⟨c0, (List.forall_mem_cons.mpr ⟨c1, (List.forall_mem_cons.mpr ⟨c2, (List.forall_mem_cons.mpr ⟨c3, (List.forall_mem_cons.mpr ⟨c4, (List.forall_mem_cons.mpr ⟨c5, (fun _ hm => absurd hm List.not_mem_nil)⟩)⟩)⟩)⟩)⟩)⟩) ?_
              refine wa_aload_n fx 0 dX4_now_84 rfl ?_
              refine wa_ldc fx q_5_4 dX4_now_85 ?_
              refine wa_V (b := ad 0) (rmc := (rmh 1)) (As := [.int (-1000000001 : Int32)]) (st := []) (wc := (mo_ws g ad st)) (wr := ([] : va_W)) (wcz := fun z6 => mo_ws g ad z6.2) (w2 := fun z6 => mo_ws g ad z6.2) (o := fun z6 => some (.int z6.1)) (s2 := fun z6 => [.int z6.1]) (ci := 4) (q0 := 0) fx mm_X4_finds q_5_16 dX4_now_87 h (fun _ hz => c_X4_finds hz) rfl rfl (rm_ok (by decide) (by decide)) ⟨Nat.zero_le _, Nat.zero_le _⟩ rfl (List.Perm.refl _) (fun _ => List.Perm.refl _) rfl (Nat.le_of_ble_eq_true rfl) (fun _ => rfl) (fun z6 h => ?_)
              exact fn_i (mo_ws g ad) fx hf (sn1 h) (sn2 h) dX4_now_90
def f_X4_on_b60 (x9 : Int32) (x10 : Int32) (w11 : StT) : Option (Int32 × (StT)) := Option.bind (f_X4_its w11 x10 x9) fun z12 => Option.bind (f_X4_takesBack w11 z12) fun z13 => some (z13.1, z13.2)
def f_X4_on  (st : StT) (a1 : Int32) (a2 : Int32) (a3 : Int32) : Option (Int32 × (StT)) := Option.bind (f_X4_isPerson st a1) fun z1 => if z1 = 0 then (Option.bind (f_X4_finds st (-1000000001 : Int32)) fun z2 => some (z2.1, z2.2)) else (Option.bind (f_X4_in (Int32.toInt64 a2) (0 : Int64) (60 : Int64)) fun z3 => if z3 = 0 then (Option.bind (f_X4_finds st (-1000000001 : Int32)) fun z4 => some (z4.1, z4.2)) else (Option.bind (f_X4_in (Int32.toInt64 a3) (0 : Int64) (1 : Int64)) fun z5 => if z5 = 0 then (Option.bind (f_X4_finds st (-1000000001 : Int32)) fun z14 => some (z14.1, z14.2)) else (Option.bind (f_X4_laysAside st) fun z6 => Option.bind (f_X4_hoursGo z6 a2) fun z7 => nm z7.1 fun x8 => if a3 = 0 then (f_X4_on_b60 (5 : Int32) a1 z7.2) else (f_X4_on_b60 (4 : Int32) a1 z7.2))))
set_option maxHeartbeats 4000000 in
set_option maxRecDepth 100000 in
theorem c_X4_on {g : GT} {l : Launch} {ad : Nat → Nat}   {st : StT} {a1 : Int32} {a2 : Int32} {a3 : Int32} {r : Int32 × (StT)} (h : f_X4_on st a1 a2 a3 = some r) : Ct g l yX4_on (wd yX4_on cX4_on 5 (some .int)) (rmh 10) [.ref (ad 0), .int a1, .int a2, .int a3] (mo_ws g ad st) (mo_ws g ad r.2) (some (.int r.1)) := by
  refine Ct.of (lv := [(0, .ref (ad 0)), (1, .int a1), (2, .int a2), (3, .int a3)]) (by decide) (Nat.le_of_ble_eq_true rfl) rfl (fun K hl fx hf => ?_)
  subst hl
  rw [f_X4_on] at h
  have B60 : ∀  (x9 : Int32) (x10 : Int32) (w11 : StT), f_X4_on_b60 x9 x10 w11 = some r → WA g K 5 0 0 60 [] [.int x9, .int x10, .ref (ad 0), .ref (ad 0)] (mo_ws g ad w11) := by
    intro   x9 x10 w11 h
    rw [f_X4_on_b60] at h
    refine wa_V (b := ad 0) (rmc := (rmh 2)) (As := [.int x10, .int x9]) (st := [.ref (ad 0)]) (wc := (mo_ws g ad w11)) (wr := ([] : va_W)) (wcz := fun _ => (mo_ws g ad w11)) (w2 := fun _ => (mo_ws g ad w11)) (o := fun z12 => some (.int z12)) (s2 := fun z12 => [.int z12, .ref (ad 0)]) (ci := 4) (q0 := 0) fx mm_X4_its q_6_10 dX4_on_60 h (fun _ hz => c_X4_its hz) rfl rfl (rm_ok (by decide) (by decide)) ⟨Nat.zero_le _, Nat.zero_le _⟩ rfl (List.Perm.refl _) (fun _ => (List.Perm.refl _)) rfl (Nat.le_of_ble_eq_true rfl) (fun _ => rfl) (fun z12 h => ?_)
    refine wa_V (b := ad 0) (rmc := (rmh 1)) (As := [.int z12]) (st := []) (wc := (mo_ws g ad w11)) (wr := ([] : va_W)) (wcz := fun z13 => mo_ws g ad z13.2) (w2 := fun z13 => mo_ws g ad z13.2) (o := fun z13 => some (.int z13.1)) (s2 := fun z13 => [.int z13.1]) (ci := 4) (q0 := 0) fx mm_X4_takesBack q_19_12 dX4_on_63 h (fun _ hz => c_X4_takesBack hz) rfl rfl (rm_ok (by decide) (by decide)) ⟨Nat.zero_le _, Nat.zero_le _⟩ rfl (List.Perm.refl _) (fun _ => List.Perm.refl _) rfl (Nat.le_of_ble_eq_true rfl) (fun _ => rfl) (fun z13 h => ?_)
    exact fn_i (mo_ws g ad) fx hf (sn1 h) (sn2 h) dX4_on_66
  refine wa_aload_n fx 0 dX4_on_0 rfl ?_
  refine wa_iload_n fx 1 dX4_on_1 rfl ?_
  refine wa_V (b := ad 0) (rmc := (rmh 2)) (As := [.int a1]) (st := []) (wc := (mo_ws g ad st)) (wr := ([] : va_W)) (wcz := fun _ => (mo_ws g ad st)) (w2 := fun _ => (mo_ws g ad st)) (o := fun z1 => some (.int z1)) (s2 := fun z1 => [.int z1]) (ci := 4) (q0 := 0) fx mm_X4_isPerson q_8_18 dX4_on_2 h (fun _ hz => c_X4_isPerson hz) rfl rfl (rm_ok (by decide) (by decide)) ⟨Nat.zero_le _, Nat.zero_le _⟩ rfl (List.Perm.refl _) (fun _ => (List.Perm.refl _)) rfl (Nat.le_of_ble_eq_true rfl) (fun _ => rfl) (fun z1 h => ?_)
  refine wa_if_eq fx 30 dX4_on_5 (by decide) h (fun h => ?_) (fun h => ?_)
  · refine wa_aload_n fx 0 dX4_on_30 rfl ?_
    refine wa_ldc fx q_5_4 dX4_on_31 ?_
    refine wa_V (b := ad 0) (rmc := (rmh 1)) (As := [.int (-1000000001 : Int32)]) (st := []) (wc := (mo_ws g ad st)) (wr := ([] : va_W)) (wcz := fun z2 => mo_ws g ad z2.2) (w2 := fun z2 => mo_ws g ad z2.2) (o := fun z2 => some (.int z2.1)) (s2 := fun z2 => [.int z2.1]) (ci := 4) (q0 := 0) fx mm_X4_finds q_5_16 dX4_on_33 h (fun _ hz => c_X4_finds hz) rfl rfl (rm_ok (by decide) (by decide)) ⟨Nat.zero_le _, Nat.zero_le _⟩ rfl (List.Perm.refl _) (fun _ => List.Perm.refl _) rfl (Nat.le_of_ble_eq_true rfl) (fun _ => rfl) (fun z2 h => ?_)
    exact fn_i (mo_ws g ad) fx hf (sn1 h) (sn2 h) dX4_on_36
  · refine wa_iload_n fx 2 dX4_on_8 rfl ?_
    refine wa_i2l fx dX4_on_9 ?_
    refine wa_lconst fx (0 : Int64) dX4_on_10 (by decide) ?_
    refine wa_ldc2 fx q_16_13 dX4_on_11 ?_
    refine wa_S (rmc := (rmh 1)) (As := [.long (Int32.toInt64 a2), .long (0 : Int64), .long (60 : Int64)]) (st := []) (wc := (no_ws ())) (wr := (mo_ws g ad st)) (wcz := fun _ => (no_ws ())) (w2 := fun _ => (mo_ws g ad st)) (o := fun z3 => some (.int z3)) (s2 := fun z3 => [.int z3]) fx mm_X4_in q_5_5 dX4_on_14 h (fun _ hz => c_X4_in hz) (rm_ok (by decide) (by decide)) ⟨Nat.zero_le _, Nat.zero_le _⟩ rfl (List.Perm.of_eq (List.append_nil _).symm) (fun _ => (List.Perm.of_eq (List.append_nil _).symm)) rfl (Nat.le_of_ble_eq_true rfl) (fun _ => rfl) (fun z3 h => ?_)
    refine wa_if_eq fx 30 dX4_on_17 (by decide) h (fun h => ?_) (fun h => ?_)
    · refine wa_aload_n fx 0 dX4_on_30 rfl ?_
      refine wa_ldc fx q_5_4 dX4_on_31 ?_
      refine wa_V (b := ad 0) (rmc := (rmh 1)) (As := [.int (-1000000001 : Int32)]) (st := []) (wc := (mo_ws g ad st)) (wr := ([] : va_W)) (wcz := fun z4 => mo_ws g ad z4.2) (w2 := fun z4 => mo_ws g ad z4.2) (o := fun z4 => some (.int z4.1)) (s2 := fun z4 => [.int z4.1]) (ci := 4) (q0 := 0) fx mm_X4_finds q_5_16 dX4_on_33 h (fun _ hz => c_X4_finds hz) rfl rfl (rm_ok (by decide) (by decide)) ⟨Nat.zero_le _, Nat.zero_le _⟩ rfl (List.Perm.refl _) (fun _ => List.Perm.refl _) rfl (Nat.le_of_ble_eq_true rfl) (fun _ => rfl) (fun z4 h => ?_)
      exact fn_i (mo_ws g ad) fx hf (sn1 h) (sn2 h) dX4_on_36
    · refine wa_iload_n fx 3 dX4_on_20 rfl ?_
      refine wa_i2l fx dX4_on_21 ?_
      refine wa_lconst fx (0 : Int64) dX4_on_22 (by decide) ?_
      refine wa_lconst fx (1 : Int64) dX4_on_23 (by decide) ?_
      refine wa_S (rmc := (rmh 1)) (As := [.long (Int32.toInt64 a3), .long (0 : Int64), .long (1 : Int64)]) (st := []) (wc := (no_ws ())) (wr := (mo_ws g ad st)) (wcz := fun _ => (no_ws ())) (w2 := fun _ => (mo_ws g ad st)) (o := fun z5 => some (.int z5)) (s2 := fun z5 => [.int z5]) fx mm_X4_in q_5_5 dX4_on_24 h (fun _ hz => c_X4_in hz) (rm_ok (by decide) (by decide)) ⟨Nat.zero_le _, Nat.zero_le _⟩ rfl (List.Perm.of_eq (List.append_nil _).symm) (fun _ => (List.Perm.of_eq (List.append_nil _).symm)) rfl (Nat.le_of_ble_eq_true rfl) (fun _ => rfl) (fun z5 h => ?_)
      refine wa_if_ne fx 37 dX4_on_27 (by decide) h (fun h => ?_) (fun h => ?_)
      · refine wa_aload_n fx 0 dX4_on_30 rfl ?_
        refine wa_ldc fx q_5_4 dX4_on_31 ?_
        refine wa_V (b := ad 0) (rmc := (rmh 1)) (As := [.int (-1000000001 : Int32)]) (st := []) (wc := (mo_ws g ad st)) (wr := ([] : va_W)) (wcz := fun z14 => mo_ws g ad z14.2) (w2 := fun z14 => mo_ws g ad z14.2) (o := fun z14 => some (.int z14.1)) (s2 := fun z14 => [.int z14.1]) (ci := 4) (q0 := 0) fx mm_X4_finds q_5_16 dX4_on_33 h (fun _ hz => c_X4_finds hz) rfl rfl (rm_ok (by decide) (by decide)) ⟨Nat.zero_le _, Nat.zero_le _⟩ rfl (List.Perm.refl _) (fun _ => List.Perm.refl _) rfl (Nat.le_of_ble_eq_true rfl) (fun _ => rfl) (fun z14 h => ?_)
        exact fn_i (mo_ws g ad) fx hf (sn1 h) (sn2 h) dX4_on_36
      · refine wa_aload_n fx 0 dX4_on_37 rfl ?_
        refine wa_V (b := ad 0) (rmc := (rmh 1)) (As := []) (st := []) (wc := (mo_ws g ad st)) (wr := ([] : va_W)) (wcz := fun z6 => mo_ws g ad z6) (w2 := fun z6 => mo_ws g ad z6) (o := fun _ => none) (s2 := fun z6 => []) (ci := 4) (q0 := 0) fx mm_X4_laysAside q_19_8 dX4_on_38 h (fun _ hz => c_X4_laysAside hz) rfl rfl (rm_ok (by decide) (by decide)) ⟨Nat.zero_le _, Nat.zero_le _⟩ rfl (List.Perm.refl _) (fun _ => List.Perm.refl _) rfl (Nat.le_of_ble_eq_true rfl) (fun _ => rfl) (fun z6 h => ?_)
        refine wa_aload_n fx 0 dX4_on_41 rfl ?_
        refine wa_iload_n fx 2 dX4_on_42 rfl ?_
        refine wa_V (b := ad 0) (rmc := (rmh 9)) (As := [.int a2]) (st := []) (wc := (mo_ws g ad z6)) (wr := ([] : va_W)) (wcz := fun z7 => mo_ws g ad z7.2) (w2 := fun z7 => mo_ws g ad z7.2) (o := fun z7 => some (.int z7.1)) (s2 := fun z7 => [.int z7.1]) (ci := 4) (q0 := 0) fx mm_X4_hoursGo q_16_15 dX4_on_43 h (fun _ hz => c_X4_hoursGo hz) rfl rfl (rm_ok (by decide) (by decide)) ⟨Nat.zero_le _, Nat.zero_le _⟩ rfl (List.Perm.refl _) (fun _ => List.Perm.refl _) rfl (Nat.le_of_ble_eq_true rfl) (fun _ => rfl) (fun z7 h => ?_)
        refine wa_istoreN fx (fun x8 => [(4, .int x8), (0, .ref (ad 0)), (1, .int a1), (2, .int a2), (3, .int a3)]) dX4_on_46 (by decide) (fun _ => rfl) h (fun x8 h => ?_)
        refine wa_aload_n fx 1 dX4_on_48 rfl ?_
        refine wa_aload_n fx 1 dX4_on_49 rfl ?_
        refine wa_iload_n fx 2 dX4_on_50 rfl ?_
        refine wa_iload_n fx 4 dX4_on_51 rfl ?_
        refine wa_if_ne fx 59 dX4_on_52 (by decide) h (fun h => ?_) (fun h => ?_)
        · refine wa_iconst fx (5 : Int32) dX4_on_55 (by decide) ?_
          refine wa_goto fx 60 dX4_on_56 (by decide) ?_
          refine wa_sub [] rfl ?_
          exact B60 (5 : Int32) a1 z7.2 h
        · refine wa_iconst fx (4 : Int32) dX4_on_59 (by decide) ?_
          refine wa_sub [] rfl ?_
          exact B60 (4 : Int32) a1 z7.2 h
def f_X4_peaceIn  (st : StT) (a1 : Int32) : Option (Int32 × (StT)) := Option.bind (f_X4_laysAside st) fun z1 => Option.bind (f_X4_hoursGo z1 a1) fun z2 => nm z2.1 fun x3 => Option.bind (f_X4_peaceNow z2.2) fun z4 => Option.bind (f_X4_takesBack z2.2 z4) fun z5 => some (z5.1, z5.2)
set_option maxHeartbeats 4000000 in
set_option maxRecDepth 100000 in
theorem c_X4_peaceIn {g : GT} {l : Launch} {ad : Nat → Nat}   {st : StT} {a1 : Int32} {r : Int32 × (StT)} (h : f_X4_peaceIn st a1 = some r) : Ct g l yX4_peaceIn (wd yX4_peaceIn cX4_peaceIn 3 (some .int)) (rmh 10) [.ref (ad 0), .int a1] (mo_ws g ad st) (mo_ws g ad r.2) (some (.int r.1)) := by
  refine Ct.of (lv := [(0, .ref (ad 0)), (1, .int a1)]) (by decide) (Nat.le_of_ble_eq_true rfl) rfl (fun K hl fx hf => ?_)
  subst hl
  rw [f_X4_peaceIn] at h
  refine wa_aload_n fx 0 dX4_peaceIn_0 rfl ?_
  refine wa_V (b := ad 0) (rmc := (rmh 1)) (As := []) (st := []) (wc := (mo_ws g ad st)) (wr := ([] : va_W)) (wcz := fun z1 => mo_ws g ad z1) (w2 := fun z1 => mo_ws g ad z1) (o := fun _ => none) (s2 := fun z1 => []) (ci := 4) (q0 := 0) fx mm_X4_laysAside q_19_8 dX4_peaceIn_1 h (fun _ hz => c_X4_laysAside hz) rfl rfl (rm_ok (by decide) (by decide)) ⟨Nat.zero_le _, Nat.zero_le _⟩ rfl (List.Perm.refl _) (fun _ => List.Perm.refl _) rfl (Nat.le_of_ble_eq_true rfl) (fun _ => rfl) (fun z1 h => ?_)
  refine wa_aload_n fx 0 dX4_peaceIn_4 rfl ?_
  refine wa_iload_n fx 1 dX4_peaceIn_5 rfl ?_
  refine wa_V (b := ad 0) (rmc := (rmh 9)) (As := [.int a1]) (st := []) (wc := (mo_ws g ad z1)) (wr := ([] : va_W)) (wcz := fun z2 => mo_ws g ad z2.2) (w2 := fun z2 => mo_ws g ad z2.2) (o := fun z2 => some (.int z2.1)) (s2 := fun z2 => [.int z2.1]) (ci := 4) (q0 := 0) fx mm_X4_hoursGo q_16_15 dX4_peaceIn_6 h (fun _ hz => c_X4_hoursGo hz) rfl rfl (rm_ok (by decide) (by decide)) ⟨Nat.zero_le _, Nat.zero_le _⟩ rfl (List.Perm.refl _) (fun _ => List.Perm.refl _) rfl (Nat.le_of_ble_eq_true rfl) (fun _ => rfl) (fun z2 h => ?_)
  refine wa_istore_nN fx (fun x3 => [(2, .int x3), (0, .ref (ad 0)), (1, .int a1)]) dX4_peaceIn_9 rfl (by decide) (fun _ => rfl) h (fun x3 h => ?_)
  refine wa_aload_n fx 1 dX4_peaceIn_10 rfl ?_
  refine wa_aload_n fx 1 dX4_peaceIn_11 rfl ?_
  refine wa_V (b := ad 0) (rmc := (rmh 6)) (As := []) (st := [.ref (ad 0)]) (wc := (mo_ws g ad z2.2)) (wr := ([] : va_W)) (wcz := fun _ => (mo_ws g ad z2.2)) (w2 := fun _ => (mo_ws g ad z2.2)) (o := fun z4 => some (.int z4)) (s2 := fun z4 => [.int z4, .ref (ad 0)]) (ci := 4) (q0 := 0) fx mm_X4_peaceNow q_18_8 dX4_peaceIn_12 h (fun _ hz => c_X4_peaceNow hz) rfl rfl (rm_ok (by decide) (by decide)) ⟨Nat.zero_le _, Nat.zero_le _⟩ rfl (List.Perm.refl _) (fun _ => (List.Perm.refl _)) rfl (Nat.le_of_ble_eq_true rfl) (fun _ => rfl) (fun z4 h => ?_)
  refine wa_V (b := ad 0) (rmc := (rmh 1)) (As := [.int z4]) (st := []) (wc := (mo_ws g ad z2.2)) (wr := ([] : va_W)) (wcz := fun z5 => mo_ws g ad z5.2) (w2 := fun z5 => mo_ws g ad z5.2) (o := fun z5 => some (.int z5.1)) (s2 := fun z5 => [.int z5.1]) (ci := 4) (q0 := 0) fx mm_X4_takesBack q_19_12 dX4_peaceIn_15 h (fun _ hz => c_X4_takesBack hz) rfl rfl (rm_ok (by decide) (by decide)) ⟨Nat.zero_le _, Nat.zero_le _⟩ rfl (List.Perm.refl _) (fun _ => List.Perm.refl _) rfl (Nat.le_of_ble_eq_true rfl) (fun _ => rfl) (fun z5 h => ?_)
  exact fn_i (mo_ws g ad) fx hf (sn1 h) (sn2 h) dX4_peaceIn_18
def f_X4_peace  (st : StT) (a1 : Int32) : Option (Int32 × (StT)) := Option.bind (f_X4_in (Int32.toInt64 a1) (0 : Int64) (60 : Int64)) fun z1 => if z1 = 0 then (Option.bind (f_X4_finds st (-1000000001 : Int32)) fun z2 => some (z2.1, z2.2)) else (Option.bind (f_X4_peaceIn st a1) fun z3 => some (((10000 : Int32) + z3.1), z3.2))
set_option maxHeartbeats 4000000 in
set_option maxRecDepth 100000 in
theorem c_X4_peace {g : GT} {l : Launch} {ad : Nat → Nat}   {st : StT} {a1 : Int32} {r : Int32 × (StT)} (h : f_X4_peace st a1 = some r) : Ct g l yX4_peace (wd yX4_peace cX4_peace 2 (some .int)) (rmh 11) [.ref (ad 0), .int a1] (mo_ws g ad st) (mo_ws g ad r.2) (some (.int r.1)) := by
  refine Ct.of (lv := [(0, .ref (ad 0)), (1, .int a1)]) (by decide) (Nat.le_of_ble_eq_true rfl) rfl (fun K hl fx hf => ?_)
  subst hl
  rw [f_X4_peace] at h
  refine wa_iload_n fx 1 dX4_peace_0 rfl ?_
  refine wa_i2l fx dX4_peace_1 ?_
  refine wa_lconst fx (0 : Int64) dX4_peace_2 (by decide) ?_
  refine wa_ldc2 fx q_16_13 dX4_peace_3 ?_
  refine wa_S (rmc := (rmh 1)) (As := [.long (Int32.toInt64 a1), .long (0 : Int64), .long (60 : Int64)]) (st := []) (wc := (no_ws ())) (wr := (mo_ws g ad st)) (wcz := fun _ => (no_ws ())) (w2 := fun _ => (mo_ws g ad st)) (o := fun z1 => some (.int z1)) (s2 := fun z1 => [.int z1]) fx mm_X4_in q_5_5 dX4_peace_6 h (fun _ hz => c_X4_in hz) (rm_ok (by decide) (by decide)) ⟨Nat.zero_le _, Nat.zero_le _⟩ rfl (List.Perm.of_eq (List.append_nil _).symm) (fun _ => (List.Perm.of_eq (List.append_nil _).symm)) rfl (Nat.le_of_ble_eq_true rfl) (fun _ => rfl) (fun z1 h => ?_)
  refine wa_if_eq fx 24 dX4_peace_9 (by decide) h (fun h => ?_) (fun h => ?_)
  · refine wa_aload_n fx 0 dX4_peace_24 rfl ?_
    refine wa_ldc fx q_5_4 dX4_peace_25 ?_
    refine wa_V (b := ad 0) (rmc := (rmh 1)) (As := [.int (-1000000001 : Int32)]) (st := []) (wc := (mo_ws g ad st)) (wr := ([] : va_W)) (wcz := fun z2 => mo_ws g ad z2.2) (w2 := fun z2 => mo_ws g ad z2.2) (o := fun z2 => some (.int z2.1)) (s2 := fun z2 => [.int z2.1]) (ci := 4) (q0 := 0) fx mm_X4_finds q_5_16 dX4_peace_27 h (fun _ hz => c_X4_finds hz) rfl rfl (rm_ok (by decide) (by decide)) ⟨Nat.zero_le _, Nat.zero_le _⟩ rfl (List.Perm.refl _) (fun _ => List.Perm.refl _) rfl (Nat.le_of_ble_eq_true rfl) (fun _ => rfl) (fun z2 h => ?_)
    exact fn_i (mo_ws g ad) fx hf (sn1 h) (sn2 h) dX4_peace_30
  · refine wa_sipush fx (10000 : Int32) dX4_peace_12 (by decide) ?_
    refine wa_aload_n fx 0 dX4_peace_15 rfl ?_
    refine wa_iload_n fx 1 dX4_peace_16 rfl ?_
    refine wa_V (b := ad 0) (rmc := (rmh 10)) (As := [.int a1]) (st := [.int (10000 : Int32)]) (wc := (mo_ws g ad st)) (wr := ([] : va_W)) (wcz := fun z3 => mo_ws g ad z3.2) (w2 := fun z3 => mo_ws g ad z3.2) (o := fun z3 => some (.int z3.1)) (s2 := fun z3 => [.int z3.1, .int (10000 : Int32)]) (ci := 4) (q0 := 0) fx mm_X4_peaceIn q_20_0 dX4_peace_17 h (fun _ hz => c_X4_peaceIn hz) rfl rfl (rm_ok (by decide) (by decide)) ⟨Nat.zero_le _, Nat.zero_le _⟩ rfl (List.Perm.refl _) (fun _ => List.Perm.refl _) rfl (Nat.le_of_ble_eq_true rfl) (fun _ => rfl) (fun z3 h => ?_)
    refine wa_iadd fx dX4_peace_20 ?_
    refine wa_goto fx 30 dX4_peace_21 (by decide) ?_
    exact fn_i (mo_ws g ad) fx hf (sn1 h) (sn2 h) dX4_peace_30
def f_X4_settles_b25 (x6 : Int32) (w7 : StT) : Option (Int32 × (StT)) := Option.bind (f_X4_takesBack w7 x6) fun z8 => nm z8.1 fun x9 => if x9 ≤ (60 : Int32) then (some (x9, z8.2)) else (Option.bind (f_X4_finds z8.2 (-1000000004 : Int32)) fun z10 => some (z10.1, z10.2))
def f_X4_settles_l6 : Nat → (Int32) → (StT) → Option (Int32 × (StT))
  | 0, _, _ => none
  | n + 1, x4, w5 => if (60 : Int32) < x4 then (f_X4_settles_b25 x4 w5) else (Option.bind (f_X4_hour w5) fun z11 => if z11.1 ≤ 0 then (f_X4_settles_b25 x4 z11.2) else (nm (x4 + (1 : Int32)) fun x12 => (f_X4_settles_l6 n) x12 z11.2))
def f_X4_settles  (st : StT) : Option (Int32 × (StT)) := Option.bind (f_X4_laysAside st) fun z1 => f_X4_settles_l6 200 (0 : Int32) z1
set_option maxHeartbeats 4000000 in
set_option maxRecDepth 100000 in
theorem c_X4_settles {g : GT} {l : Launch} {ad : Nat → Nat}   {st : StT} {r : Int32 × (StT)} (h : f_X4_settles st = some r) : Ct g l yX4_settles (wd yX4_settles cX4_settles 3 (some .int)) (rmh 9) [.ref (ad 0)] (mo_ws g ad st) (mo_ws g ad r.2) (some (.int r.1)) := by
  refine Ct.of (lv := [(0, .ref (ad 0))]) (by decide) (Nat.le_of_ble_eq_true rfl) rfl (fun K hl fx hf => ?_)
  subst hl
  rw [f_X4_settles] at h
  have B25 : ∀  (x6 : Int32) (w7 : StT), f_X4_settles_b25 x6 w7 = some r → WA g K 3 0 0 25 [(0, .ref (ad 0)), (1, .int x6)] [] (mo_ws g ad w7) := by
    intro   x6 w7 h
    rw [f_X4_settles_b25] at h
    refine wa_aload_n fx 0 dX4_settles_25 rfl ?_
    refine wa_iload_n fx 1 dX4_settles_26 rfl ?_
    refine wa_V (b := ad 0) (rmc := (rmh 1)) (As := [.int x6]) (st := []) (wc := (mo_ws g ad w7)) (wr := ([] : va_W)) (wcz := fun z8 => mo_ws g ad z8.2) (w2 := fun z8 => mo_ws g ad z8.2) (o := fun z8 => some (.int z8.1)) (s2 := fun z8 => [.int z8.1]) (ci := 4) (q0 := 0) fx mm_X4_takesBack q_19_12 dX4_settles_27 h (fun _ hz => c_X4_takesBack hz) rfl rfl (rm_ok (by decide) (by decide)) ⟨Nat.zero_le _, Nat.zero_le _⟩ rfl (List.Perm.refl _) (fun _ => List.Perm.refl _) rfl (Nat.le_of_ble_eq_true rfl) (fun _ => rfl) (fun z8 h => ?_)
    refine wa_istore_nN fx (fun x9 => [(2, .int x9), (0, .ref (ad 0)), (1, .int x6)]) dX4_settles_30 rfl (by decide) (fun _ => rfl) h (fun x9 h => ?_)
    refine wa_iload_n fx 0 dX4_settles_31 rfl ?_
    refine wa_bipush fx (60 : Int32) dX4_settles_32 (by decide) ?_
    refine wa_icmp_le fx 46 dX4_settles_34 (by decide) h (fun h => ?_) (fun h => ?_)
    · refine wa_iload_n fx 0 dX4_settles_46 rfl ?_
      exact fn_i (mo_ws g ad) fx hf (sn1 h) (sn2 h) dX4_settles_47
    · refine wa_aload_n fx 1 dX4_settles_37 rfl ?_
      refine wa_ldc fx q_20_13 dX4_settles_38 ?_
      refine wa_V (b := ad 0) (rmc := (rmh 1)) (As := [.int (-1000000004 : Int32)]) (st := []) (wc := (mo_ws g ad z8.2)) (wr := ([] : va_W)) (wcz := fun z10 => mo_ws g ad z10.2) (w2 := fun z10 => mo_ws g ad z10.2) (o := fun z10 => some (.int z10.1)) (s2 := fun z10 => [.int z10.1]) (ci := 4) (q0 := 0) fx mm_X4_finds q_5_16 dX4_settles_40 h (fun _ hz => c_X4_finds hz) rfl rfl (rm_ok (by decide) (by decide)) ⟨Nat.zero_le _, Nat.zero_le _⟩ rfl (List.Perm.refl _) (fun _ => List.Perm.refl _) rfl (Nat.le_of_ble_eq_true rfl) (fun _ => rfl) (fun z10 h => ?_)
      refine wa_goto fx 47 dX4_settles_43 (by decide) ?_
      exact fn_i (mo_ws g ad) fx hf (sn1 h) (sn2 h) dX4_settles_47
  have B6 : ∀  (n : Nat) (x4 : Int32) (w5 : StT), f_X4_settles_l6 n x4 w5 = some r → WA g K 3 0 0 6 [(0, .ref (ad 0)), (1, .int x4)] [] (mo_ws g ad w5) := by
    intro   n
    induction n with
    | zero => intro x4 w5 h; exact absurd h (by rw [f_X4_settles_l6]; exact nofun)
    | succ n ih =>
      intro x4 w5 h
      rw [f_X4_settles_l6] at h
      refine wa_iload_n fx 1 dX4_settles_6 rfl ?_
      refine wa_bipush fx (60 : Int32) dX4_settles_7 (by decide) ?_
      refine wa_icmp_gt fx 25 dX4_settles_9 (by decide) h (fun h => ?_) (fun h => ?_)
      · refine wa_sub [0, 1] rfl ?_
        exact B25 x4 w5 h
      · refine wa_aload_n fx 0 dX4_settles_12 rfl ?_
        refine wa_V (b := ad 0) (rmc := (rmh 8)) (As := []) (st := []) (wc := (mo_ws g ad w5)) (wr := ([] : va_W)) (wcz := fun z11 => mo_ws g ad z11.2) (w2 := fun z11 => mo_ws g ad z11.2) (o := fun z11 => some (.int z11.1)) (s2 := fun z11 => [.int z11.1]) (ci := 4) (q0 := 0) fx mm_X4_hour q_16_19 dX4_settles_13 h (fun _ hz => c_X4_hour hz) rfl rfl (rm_ok (by decide) (by decide)) ⟨Nat.zero_le _, Nat.zero_le _⟩ rfl (List.Perm.refl _) (fun _ => List.Perm.refl _) rfl (Nat.le_of_ble_eq_true rfl) (fun _ => rfl) (fun z11 h => ?_)
        refine wa_if_le fx 25 dX4_settles_16 (by decide) h (fun h => ?_) (fun h => ?_)
        · refine wa_sub [0, 1] rfl ?_
          exact B25 x4 z11.2 h
        · refine wa_iinc fx 1 (fun x12 => [(1, .int x12), (0, .ref (ad 0))]) dX4_settles_19 rfl (by rfl) (by decide) (fun _ => rfl) h (fun x12 h => ?_)
          refine wa_goto fx 6 dX4_settles_22 (by decide) ?_
          refine wa_sub [1, 0] rfl ?_
          exact ih x12 z11.2 h
  refine wa_aload_n fx 0 dX4_settles_0 rfl ?_
  refine wa_V (b := ad 0) (rmc := (rmh 1)) (As := []) (st := []) (wc := (mo_ws g ad st)) (wr := ([] : va_W)) (wcz := fun z1 => mo_ws g ad z1) (w2 := fun z1 => mo_ws g ad z1) (o := fun _ => none) (s2 := fun z1 => []) (ci := 4) (q0 := 0) fx mm_X4_laysAside q_19_8 dX4_settles_1 h (fun _ hz => c_X4_laysAside hz) rfl rfl (rm_ok (by decide) (by decide)) ⟨Nat.zero_le _, Nat.zero_le _⟩ rfl (List.Perm.refl _) (fun _ => List.Perm.refl _) rfl (Nat.le_of_ble_eq_true rfl) (fun _ => rfl) (fun z1 h => ?_)
  refine wa_iconst fx (0 : Int32) dX4_settles_4 (by decide) ?_
  refine wa_istore_n fx [(1, .int (0 : Int32)), (0, .ref (ad 0))] dX4_settles_5 rfl (by decide) rfl ?_
  refine wa_sub [1, 0] rfl ?_
  exact B6 200 (0 : Int32) z1 h
def f_X4_gets_b56 (x13 : Int32) (w14 : StT) : Option (Int32 × (StT)) := Option.bind (f_X4_takesBack w14 x13) fun z15 => nm z15.1 fun x16 => if x16 ≤ (60 : Int32) then (some (x16, z15.2)) else (Option.bind (f_X4_finds z15.2 (-1000000004 : Int32)) fun z17 => some (z17.1, z17.2))
def f_X4_gets_l28 : Nat → (Int32) → (Int32) → (Int32) → (StT) → Option (Int32 × (StT))
  | 0, _, _, _, _ => none
  | n + 1, x9, x10, x11, w12 => if (60 : Int32) < x11 then (f_X4_gets_b56 x11 w12) else (Option.bind (f_X4_its w12 x9 (5 : Int32)) fun z18 => if z18 = x10 then (f_X4_gets_b56 x11 w12) else (Option.bind (f_X4_hour w12) fun z19 => nm z19.1 fun x20 => nm (x11 + (1 : Int32)) fun x21 => (f_X4_gets_l28 n) x9 x10 x21 z19.2))
def f_X4_gets  (st : StT) (a1 : Int32) (a2 : Int32) : Option (Int32 × (StT)) := Option.bind (f_X4_isPerson st a1) fun z1 => if z1 = 0 then (Option.bind (f_X4_finds st (-1000000001 : Int32)) fun z2 => some (z2.1, z2.2)) else (Option.bind (f_X4_isChair a2) fun z3 => if z3 = 0 then (Option.bind (f_X4_finds st (-1000000001 : Int32)) fun z22 => some (z22.1, z22.2)) else (Option.bind (f_X4_laysAside st) fun z4 => f_X4_gets_l28 200 a1 a2 (0 : Int32) z4))
set_option maxHeartbeats 4000000 in
set_option maxRecDepth 100000 in
theorem c_X4_gets {g : GT} {l : Launch} {ad : Nat → Nat}   {st : StT} {a1 : Int32} {a2 : Int32} {r : Int32 × (StT)} (h : f_X4_gets st a1 a2 = some r) : Ct g l yX4_gets (wd yX4_gets cX4_gets 5 (some .int)) (rmh 9) [.ref (ad 0), .int a1, .int a2] (mo_ws g ad st) (mo_ws g ad r.2) (some (.int r.1)) := by
  refine Ct.of (lv := [(0, .ref (ad 0)), (1, .int a1), (2, .int a2)]) (by decide) (Nat.le_of_ble_eq_true rfl) rfl (fun K hl fx hf => ?_)
  subst hl
  rw [f_X4_gets] at h
  have B56 : ∀  (x13 : Int32) (w14 : StT), f_X4_gets_b56 x13 w14 = some r → WA g K 5 0 0 56 [(0, .ref (ad 0)), (3, .int x13)] [] (mo_ws g ad w14) := by
    intro   x13 w14 h
    rw [f_X4_gets_b56] at h
    refine wa_aload_n fx 0 dX4_gets_56 rfl ?_
    refine wa_iload_n fx 1 dX4_gets_57 rfl ?_
    refine wa_V (b := ad 0) (rmc := (rmh 1)) (As := [.int x13]) (st := []) (wc := (mo_ws g ad w14)) (wr := ([] : va_W)) (wcz := fun z15 => mo_ws g ad z15.2) (w2 := fun z15 => mo_ws g ad z15.2) (o := fun z15 => some (.int z15.1)) (s2 := fun z15 => [.int z15.1]) (ci := 4) (q0 := 0) fx mm_X4_takesBack q_19_12 dX4_gets_58 h (fun _ hz => c_X4_takesBack hz) rfl rfl (rm_ok (by decide) (by decide)) ⟨Nat.zero_le _, Nat.zero_le _⟩ rfl (List.Perm.refl _) (fun _ => List.Perm.refl _) rfl (Nat.le_of_ble_eq_true rfl) (fun _ => rfl) (fun z15 h => ?_)
    refine wa_istoreN fx (fun x16 => [(4, .int x16), (0, .ref (ad 0)), (3, .int x13)]) dX4_gets_61 (by decide) (fun _ => rfl) h (fun x16 h => ?_)
    refine wa_iload fx 0 dX4_gets_63 rfl ?_
    refine wa_bipush fx (60 : Int32) dX4_gets_65 (by decide) ?_
    refine wa_icmp_le fx 79 dX4_gets_67 (by decide) h (fun h => ?_) (fun h => ?_)
    · refine wa_iload fx 0 dX4_gets_79 rfl ?_
      exact fn_i (mo_ws g ad) fx hf (sn1 h) (sn2 h) dX4_gets_81
    · refine wa_aload_n fx 1 dX4_gets_70 rfl ?_
      refine wa_ldc fx q_20_13 dX4_gets_71 ?_
      refine wa_V (b := ad 0) (rmc := (rmh 1)) (As := [.int (-1000000004 : Int32)]) (st := []) (wc := (mo_ws g ad z15.2)) (wr := ([] : va_W)) (wcz := fun z17 => mo_ws g ad z17.2) (w2 := fun z17 => mo_ws g ad z17.2) (o := fun z17 => some (.int z17.1)) (s2 := fun z17 => [.int z17.1]) (ci := 4) (q0 := 0) fx mm_X4_finds q_5_16 dX4_gets_73 h (fun _ hz => c_X4_finds hz) rfl rfl (rm_ok (by decide) (by decide)) ⟨Nat.zero_le _, Nat.zero_le _⟩ rfl (List.Perm.refl _) (fun _ => List.Perm.refl _) rfl (Nat.le_of_ble_eq_true rfl) (fun _ => rfl) (fun z17 h => ?_)
      refine wa_goto fx 81 dX4_gets_76 (by decide) ?_
      exact fn_i (mo_ws g ad) fx hf (sn1 h) (sn2 h) dX4_gets_81
  have B28 : ∀  (n : Nat) (x9 : Int32) (x10 : Int32) (x11 : Int32) (w12 : StT), f_X4_gets_l28 n x9 x10 x11 w12 = some r → WA g K 5 0 0 28 [(0, .ref (ad 0)), (1, .int x9), (2, .int x10), (3, .int x11)] [] (mo_ws g ad w12) := by
    intro   n
    induction n with
    | zero => intro x9 x10 x11 w12 h; exact absurd h (by rw [f_X4_gets_l28]; exact nofun)
    | succ n ih =>
      intro x9 x10 x11 w12 h
      rw [f_X4_gets_l28] at h
      refine wa_iload_n fx 3 dX4_gets_28 rfl ?_
      refine wa_bipush fx (60 : Int32) dX4_gets_29 (by decide) ?_
      refine wa_icmp_gt fx 56 dX4_gets_31 (by decide) h (fun h => ?_) (fun h => ?_)
      · refine wa_sub [0, 3] rfl ?_
        exact B56 x11 w12 h
      · refine wa_aload_n fx 0 dX4_gets_34 rfl ?_
        refine wa_iload_n fx 1 dX4_gets_35 rfl ?_
        refine wa_iconst fx (5 : Int32) dX4_gets_36 (by decide) ?_
        refine wa_V (b := ad 0) (rmc := (rmh 2)) (As := [.int x9, .int (5 : Int32)]) (st := []) (wc := (mo_ws g ad w12)) (wr := ([] : va_W)) (wcz := fun _ => (mo_ws g ad w12)) (w2 := fun _ => (mo_ws g ad w12)) (o := fun z18 => some (.int z18)) (s2 := fun z18 => [.int z18]) (ci := 4) (q0 := 0) fx mm_X4_its q_6_10 dX4_gets_37 h (fun _ hz => c_X4_its hz) rfl rfl (rm_ok (by decide) (by decide)) ⟨Nat.zero_le _, Nat.zero_le _⟩ rfl (List.Perm.refl _) (fun _ => (List.Perm.refl _)) rfl (Nat.le_of_ble_eq_true rfl) (fun _ => rfl) (fun z18 h => ?_)
        refine wa_iload_n fx 2 dX4_gets_40 rfl ?_
        refine wa_icmp_eq fx 56 dX4_gets_41 (by decide) h (fun h => ?_) (fun h => ?_)
        · refine wa_sub [0, 3] rfl ?_
          exact B56 x11 w12 h
        · refine wa_aload_n fx 0 dX4_gets_44 rfl ?_
          refine wa_V (b := ad 0) (rmc := (rmh 8)) (As := []) (st := []) (wc := (mo_ws g ad w12)) (wr := ([] : va_W)) (wcz := fun z19 => mo_ws g ad z19.2) (w2 := fun z19 => mo_ws g ad z19.2) (o := fun z19 => some (.int z19.1)) (s2 := fun z19 => [.int z19.1]) (ci := 4) (q0 := 0) fx mm_X4_hour q_16_19 dX4_gets_45 h (fun _ hz => c_X4_hour hz) rfl rfl (rm_ok (by decide) (by decide)) ⟨Nat.zero_le _, Nat.zero_le _⟩ rfl (List.Perm.refl _) (fun _ => List.Perm.refl _) rfl (Nat.le_of_ble_eq_true rfl) (fun _ => rfl) (fun z19 h => ?_)
          refine wa_istoreN fx (fun x20 => [(4, .int x20), (0, .ref (ad 0)), (1, .int x9), (2, .int x10), (3, .int x11)]) dX4_gets_48 (by decide) (fun _ => rfl) h (fun x20 h => ?_)
          refine wa_iinc fx 4 (fun x21 => [(3, .int x21), (4, .int x20), (0, .ref (ad 0)), (1, .int x9), (2, .int x10)]) dX4_gets_50 rfl (by rfl) (by decide) (fun _ => rfl) h (fun x21 h => ?_)
          refine wa_goto fx 28 dX4_gets_53 (by decide) ?_
          refine wa_sub [2, 3, 4, 0] rfl ?_
          exact ih x9 x10 x21 z19.2 h
  refine wa_aload_n fx 0 dX4_gets_0 rfl ?_
  refine wa_iload_n fx 1 dX4_gets_1 rfl ?_
  refine wa_V (b := ad 0) (rmc := (rmh 2)) (As := [.int a1]) (st := []) (wc := (mo_ws g ad st)) (wr := ([] : va_W)) (wcz := fun _ => (mo_ws g ad st)) (w2 := fun _ => (mo_ws g ad st)) (o := fun z1 => some (.int z1)) (s2 := fun z1 => [.int z1]) (ci := 4) (q0 := 0) fx mm_X4_isPerson q_8_18 dX4_gets_2 h (fun _ hz => c_X4_isPerson hz) rfl rfl (rm_ok (by decide) (by decide)) ⟨Nat.zero_le _, Nat.zero_le _⟩ rfl (List.Perm.refl _) (fun _ => (List.Perm.refl _)) rfl (Nat.le_of_ble_eq_true rfl) (fun _ => rfl) (fun z1 h => ?_)
  refine wa_if_eq fx 15 dX4_gets_5 (by decide) h (fun h => ?_) (fun h => ?_)
  · refine wa_aload_n fx 0 dX4_gets_15 rfl ?_
    refine wa_ldc fx q_5_4 dX4_gets_16 ?_
    refine wa_V (b := ad 0) (rmc := (rmh 1)) (As := [.int (-1000000001 : Int32)]) (st := []) (wc := (mo_ws g ad st)) (wr := ([] : va_W)) (wcz := fun z2 => mo_ws g ad z2.2) (w2 := fun z2 => mo_ws g ad z2.2) (o := fun z2 => some (.int z2.1)) (s2 := fun z2 => [.int z2.1]) (ci := 4) (q0 := 0) fx mm_X4_finds q_5_16 dX4_gets_18 h (fun _ hz => c_X4_finds hz) rfl rfl (rm_ok (by decide) (by decide)) ⟨Nat.zero_le _, Nat.zero_le _⟩ rfl (List.Perm.refl _) (fun _ => List.Perm.refl _) rfl (Nat.le_of_ble_eq_true rfl) (fun _ => rfl) (fun z2 h => ?_)
    exact fn_i (mo_ws g ad) fx hf (sn1 h) (sn2 h) dX4_gets_21
  · refine wa_iload_n fx 2 dX4_gets_8 rfl ?_
    refine wa_S (rmc := (rmh 2)) (As := [.int a2]) (st := []) (wc := (no_ws ())) (wr := (mo_ws g ad st)) (wcz := fun _ => (no_ws ())) (w2 := fun _ => (mo_ws g ad st)) (o := fun z3 => some (.int z3)) (s2 := fun z3 => [.int z3]) fx mm_X4_isChair q_5_8 dX4_gets_9 h (fun _ hz => c_X4_isChair hz) (rm_ok (by decide) (by decide)) ⟨Nat.zero_le _, Nat.zero_le _⟩ rfl (List.Perm.of_eq (List.append_nil _).symm) (fun _ => (List.Perm.of_eq (List.append_nil _).symm)) rfl (Nat.le_of_ble_eq_true rfl) (fun _ => rfl) (fun z3 h => ?_)
    refine wa_if_ne fx 22 dX4_gets_12 (by decide) h (fun h => ?_) (fun h => ?_)
    · refine wa_aload_n fx 0 dX4_gets_15 rfl ?_
      refine wa_ldc fx q_5_4 dX4_gets_16 ?_
      refine wa_V (b := ad 0) (rmc := (rmh 1)) (As := [.int (-1000000001 : Int32)]) (st := []) (wc := (mo_ws g ad st)) (wr := ([] : va_W)) (wcz := fun z22 => mo_ws g ad z22.2) (w2 := fun z22 => mo_ws g ad z22.2) (o := fun z22 => some (.int z22.1)) (s2 := fun z22 => [.int z22.1]) (ci := 4) (q0 := 0) fx mm_X4_finds q_5_16 dX4_gets_18 h (fun _ hz => c_X4_finds hz) rfl rfl (rm_ok (by decide) (by decide)) ⟨Nat.zero_le _, Nat.zero_le _⟩ rfl (List.Perm.refl _) (fun _ => List.Perm.refl _) rfl (Nat.le_of_ble_eq_true rfl) (fun _ => rfl) (fun z22 h => ?_)
      exact fn_i (mo_ws g ad) fx hf (sn1 h) (sn2 h) dX4_gets_21
    · refine wa_aload_n fx 0 dX4_gets_22 rfl ?_
      refine wa_V (b := ad 0) (rmc := (rmh 1)) (As := []) (st := []) (wc := (mo_ws g ad st)) (wr := ([] : va_W)) (wcz := fun z4 => mo_ws g ad z4) (w2 := fun z4 => mo_ws g ad z4) (o := fun _ => none) (s2 := fun z4 => []) (ci := 4) (q0 := 0) fx mm_X4_laysAside q_19_8 dX4_gets_23 h (fun _ hz => c_X4_laysAside hz) rfl rfl (rm_ok (by decide) (by decide)) ⟨Nat.zero_le _, Nat.zero_le _⟩ rfl (List.Perm.refl _) (fun _ => List.Perm.refl _) rfl (Nat.le_of_ble_eq_true rfl) (fun _ => rfl) (fun z4 h => ?_)
      refine wa_iconst fx (0 : Int32) dX4_gets_26 (by decide) ?_
      refine wa_istore_n fx [(3, .int (0 : Int32)), (0, .ref (ad 0)), (1, .int a1), (2, .int a2)] dX4_gets_27 rfl (by decide) rfl ?_
      refine wa_sub [1, 2, 3, 0] rfl ?_
      exact B28 200 a1 a2 (0 : Int32) z4 h
def f_X4_places_b81 (rec : (StT) → Int32 → Int32 → Option ((StT))) (k32 : (Int32) → (Int32) → (Int32) → (StT) → Option ((StT))) (x9 : Int32) (x10 : Int32) (x11 : Int32) (w12 : StT) : Option ((StT)) := nm (x11 + (1 : Int32)) fun x13 => k32 x9 x10 x13 w12
def f_X4_places_l32 (rec : (StT) → Int32 → Int32 → Option ((StT))) : Nat → (Int32) → (Int32) → (Int32) → (StT) → Option ((StT))
  | 0, _, _, _, _ => none
  | n + 1, x5, x6, x7, w8 => ck (0 : Int32) 66 (if (w8.1 0 (Int32.toNatClampNeg (0 : Int32))) ≤ x7 then (some w8) else (if ((x6 >>> (x7 &&& 31)) &&& (1 : Int32)) = (1 : Int32) then (Option.bind (f_X4_spotOf x7 (5 : Int32)) fun z14 => ck x5 8 (ck z14 66 (nm (setA w8 0 (upd (w8.1 0) (Int32.toNatClampNeg z14) (w8.1 5 (Int32.toNatClampNeg x5)))) fun w15 => Option.bind (rec w15 (x5 + (1 : Int32)) (x6 &&& (((1 : Int32) <<< (x7 &&& 31)) ^^^ (-1 : Int32)))) fun z16 => f_X4_places_b81 rec (f_X4_places_l32 rec n) x5 x6 x7 z16))) else (f_X4_places_b81 rec (f_X4_places_l32 rec n) x5 x6 x7 w8)))
def f_X4_places_s (rec : (StT) → Int32 → Int32 → Option ((StT)))  (st : StT) (a1 : Int32) (a2 : Int32) : Option ((StT)) := if a2 = 0 then (Option.bind (f_X4_peaceNow st) fun z17 => if z17 ≤ (st.2.2 2) then (nm (setF st 2 (st.2.2 2)) fun w18 => some w18) else (nm (setF st 2 z17) fun w19 => some w19)) else (f_X4_places_l32 rec 200 a1 a2 (0 : Int32) st)
def f_X4_places : Nat → (StT) → (Int32) → (Int32) → Option ((StT))
  | 0, _, _, _ => none
  | d + 1, st, a1, a2 => f_X4_places_s (f_X4_places d) st a1 a2
set_option maxHeartbeats 4000000 in
set_option maxRecDepth 100000 in
theorem c_X4_places_s {g : GT} {l : Launch} {ad : Nat → Nat}  (d : Nat) (rec : (StT) → Int32 → Int32 → Option ((StT))) (Hrec : ∀ (r : (StT)) (G : StT) (a1 : Int32) (a2 : Int32), rec G a1 a2 = some r → Ct g l yX4_places (wd yX4_places cX4_places 4 none) (rmh (7 + d)) [.ref (ad 0), .int a1, .int a2] (mo_ws g ad G) (mo_ws g ad r) none) {r : (StT)} {st : StT} {a1 : Int32} {a2 : Int32} (h : f_X4_places_s rec st a1 a2 = some r) : Ct g l yX4_places (wd yX4_places cX4_places 4 none) (rmh (7 + d + 1)) [.ref (ad 0), .int a1, .int a2] (mo_ws g ad st) (mo_ws g ad r) none := by
  refine Ct.of (lv := [(0, .ref (ad 0)), (1, .int a1), (2, .int a2)]) (by decide) (Nat.le_of_ble_eq_true rfl) rfl (fun K hl fx hf => ?_)
  subst hl
  rw [f_X4_places_s] at h
  have B81 : ∀ (k32 : (Int32) → (Int32) → (Int32) → (StT) → Option ((StT))) (Hk32 : ∀ (y1 : Int32) (y2 : Int32) (y3 : Int32) (w4 : StT), k32 y1 y2 y3 w4 = some r → WA g K 4 0 0 32 [(0, .ref (ad 0)), (1, .int y1), (2, .int y2), (3, .int y3)] [] (mo_ws g ad w4)) (x9 : Int32) (x10 : Int32) (x11 : Int32) (w12 : StT), f_X4_places_b81 rec k32 x9 x10 x11 w12 = some r → WA g K 4 0 0 81 [(0, .ref (ad 0)), (1, .int x9), (2, .int x10), (3, .int x11)] [] (mo_ws g ad w12) := by
    intro  k32 Hk32 x9 x10 x11 w12 h
    rw [f_X4_places_b81] at h
    refine wa_iinc fx 3 (fun x13 => [(3, .int x13), (0, .ref (ad 0)), (1, .int x9), (2, .int x10)]) dX4_places_81 rfl (by rfl) (by decide) (fun _ => rfl) h (fun x13 h => ?_)
    refine wa_goto fx 32 dX4_places_84 (by decide) ?_
    refine wa_sub [1, 2, 3, 0] rfl ?_
    exact Hk32 x9 x10 x13 w12 h
  have B32 : ∀  (n : Nat) (x5 : Int32) (x6 : Int32) (x7 : Int32) (w8 : StT), f_X4_places_l32 rec n x5 x6 x7 w8 = some r → WA g K 4 0 0 32 [(0, .ref (ad 0)), (1, .int x5), (2, .int x6), (3, .int x7)] [] (mo_ws g ad w8) := by
    intro   n
    induction n with
    | zero => intro x5 x6 x7 w8 h; exact absurd h (by rw [f_X4_places_l32]; exact nofun)
    | succ n ih =>
      intro x5 x6 x7 w8 h
      rw [f_X4_places_l32] at h
      refine wa_iload_n fx 3 dX4_places_32 rfl ?_
      refine wa_aload_n fx 0 dX4_places_33 rfl ?_
      refine wa_get (v := .ref (ad 1)) fx wm_X4 0 rfl rfl 0 (by decide) q_3_15 rfl rfl dX4_places_34 ?_
      refine wa_iconst fx (0 : Int32) dX4_places_37 (by decide) ?_
      refine wa_iald (f := w8.1 0) fx 1 rfl dX4_places_38 h (fun h => ?_)
      refine wa_icmp_ge fx 87 dX4_places_39 (by decide) h (fun h => ?_) (fun h => ?_)
      · exact fn_v (mo_ws g ad) fx hf (Option.some.inj h) dX4_places_87
      · refine wa_iload_n fx 2 dX4_places_42 rfl ?_
        refine wa_iload_n fx 3 dX4_places_43 rfl ?_
        refine wa_ishr fx dX4_places_44 ?_
        refine wa_iconst fx (1 : Int32) dX4_places_45 (by decide) ?_
        refine wa_iand fx dX4_places_46 ?_
        refine wa_iconst fx (1 : Int32) dX4_places_47 (by decide) ?_
        refine wa_icmp_ne fx 81 dX4_places_48 (by decide) h (fun h => ?_) (fun h => ?_)
        · refine wa_aload_n fx 0 dX4_places_51 rfl ?_
          refine wa_get (v := .ref (ad 1)) fx wm_X4 0 rfl rfl 0 (by decide) q_3_15 rfl rfl dX4_places_52 ?_
          refine wa_iload_n fx 3 dX4_places_55 rfl ?_
          refine wa_iconst fx (5 : Int32) dX4_places_56 (by decide) ?_
          refine wa_S (rmc := (rmh 1)) (As := [.int x7, .int (5 : Int32)]) (st := [.ref (ad 1)]) (wc := (no_ws ())) (wr := (mo_ws g ad w8)) (wcz := fun _ => (no_ws ())) (w2 := fun _ => (mo_ws g ad w8)) (o := fun z14 => some (.int z14)) (s2 := fun z14 => [.int z14, .ref (ad 1)]) fx mm_X4_spotOf q_6_14 dX4_places_57 h (fun _ hz => c_X4_spotOf hz) (rm_ok (by omega) (by decide)) ⟨Nat.zero_le _, Nat.zero_le _⟩ rfl (List.Perm.of_eq (List.append_nil _).symm) (fun _ => (List.Perm.of_eq (List.append_nil _).symm)) rfl (Nat.le_of_ble_eq_true rfl) (fun _ => rfl) (fun z14 h => ?_)
          refine wa_aload_n fx 0 dX4_places_60 rfl ?_
          refine wa_get (v := .ref (ad 6)) fx wm_X4 0 rfl rfl 6 (by decide) q_3_20 rfl rfl dX4_places_61 ?_
          refine wa_iload_n fx 1 dX4_places_64 rfl ?_
          refine wa_iald (f := w8.1 5) fx 6 rfl dX4_places_65 h (fun h => ?_)
          refine wa_iast (mo_ws g ad) (f := w8.1 0) fx 1 rfl dX4_places_66 h rfl (fun w15 h => ?_)
          refine wa_aload_n fx 0 dX4_places_67 rfl ?_
          refine wa_iload_n fx 1 dX4_places_68 rfl ?_
          refine wa_iconst fx (1 : Int32) dX4_places_69 (by decide) ?_
          refine wa_iadd fx dX4_places_70 ?_
          refine wa_iload_n fx 2 dX4_places_71 rfl ?_
          refine wa_iconst fx (1 : Int32) dX4_places_72 (by decide) ?_
          refine wa_iload_n fx 3 dX4_places_73 rfl ?_
          refine wa_ishl fx dX4_places_74 ?_
          refine wa_iconst fx (-1 : Int32) dX4_places_75 (by decide) ?_
          refine wa_ixor fx dX4_places_76 ?_
          refine wa_iand fx dX4_places_77 ?_
          refine wa_V (b := ad 0) (rmc := (rmh (7 + d))) (As := [.int (x5 + (1 : Int32)), .int (x6 &&& (((1 : Int32) <<< (x7 &&& 31)) ^^^ (-1 : Int32)))]) (st := []) (wc := (mo_ws g ad w15)) (wr := ([] : va_W)) (wcz := fun z16 => mo_ws g ad z16) (w2 := fun z16 => mo_ws g ad z16) (o := fun _ => none) (s2 := fun z16 => []) (ci := 4) (q0 := 0) fx mm_X4_places q_21_19 dX4_places_78 h (fun _ hz => Hrec _ _ _ _ hz) rfl rfl (rm_ok (by omega) (by decide)) ⟨Nat.zero_le _, Nat.zero_le _⟩ rfl (List.Perm.refl _) (fun _ => List.Perm.refl _) rfl (Nat.le_of_ble_eq_true rfl) (fun _ => rfl) (fun z16 h => ?_)
          refine wa_sub [0, 1, 2, 3] rfl ?_
          exact B81 (f_X4_places_l32 rec n) ih x5 x6 x7 z16 h
        · refine wa_sub [0, 1, 2, 3] rfl ?_
          exact B81 (f_X4_places_l32 rec n) ih x5 x6 x7 w8 h
  refine wa_iload_n fx 2 dX4_places_0 rfl ?_
  refine wa_if_ne fx 30 dX4_places_1 (by decide) h (fun h => ?_) (fun h => ?_)
  · refine wa_aload_n fx 0 dX4_places_4 rfl ?_
    refine wa_V (b := ad 0) (rmc := (rmh 6)) (As := []) (st := []) (wc := (mo_ws g ad st)) (wr := ([] : va_W)) (wcz := fun _ => (mo_ws g ad st)) (w2 := fun _ => (mo_ws g ad st)) (o := fun z17 => some (.int z17)) (s2 := fun z17 => [.int z17]) (ci := 4) (q0 := 0) fx mm_X4_peaceNow q_18_8 dX4_places_5 h (fun _ hz => c_X4_peaceNow hz) rfl rfl (rm_ok (by omega) (by decide)) ⟨Nat.zero_le _, Nat.zero_le _⟩ rfl (List.Perm.refl _) (fun _ => (List.Perm.refl _)) rfl (Nat.le_of_ble_eq_true rfl) (fun _ => rfl) (fun z17 h => ?_)
    refine wa_istore_n fx [(3, .int z17), (0, .ref (ad 0)), (1, .int a1), (2, .int a2)] dX4_places_8 rfl (by decide) rfl ?_
    refine wa_aload_n fx 1 dX4_places_9 rfl ?_
    refine wa_iload_n fx 0 dX4_places_10 rfl ?_
    refine wa_aload_n fx 1 dX4_places_11 rfl ?_
    refine wa_get (v := .int (st.2.2 2)) fx wm_X4 0 rfl rfl 8 (by decide) q_21_15 rfl rfl dX4_places_12 ?_
    refine wa_icmp_le fx 22 dX4_places_15 (by decide) h (fun h => ?_) (fun h => ?_)
    · refine wa_aload_n fx 1 dX4_places_22 rfl ?_
      refine wa_get (v := .int (st.2.2 2)) fx wm_X4 0 rfl rfl 8 (by decide) q_21_15 rfl rfl dX4_places_23 ?_
      refine wa_put (mo_ws g ad) fx wm_X4 tyX4 tyX4_ok nmX4 0 rfl rfl 8 (by decide) q_21_15 rfl rfl rfl rfl (Nat.le_of_ble_eq_true rfl) dX4_places_26 h rfl (fun w18 h => ?_)
      exact fn_v (mo_ws g ad) fx hf (Option.some.inj h) dX4_places_29
    · refine wa_iload_n fx 0 dX4_places_18 rfl ?_
      refine wa_goto fx 26 dX4_places_19 (by decide) ?_
      refine wa_put (mo_ws g ad) fx wm_X4 tyX4 tyX4_ok nmX4 0 rfl rfl 8 (by decide) q_21_15 rfl rfl rfl rfl (Nat.le_of_ble_eq_true rfl) dX4_places_26 h rfl (fun w19 h => ?_)
      exact fn_v (mo_ws g ad) fx hf (Option.some.inj h) dX4_places_29
  · refine wa_iconst fx (0 : Int32) dX4_places_30 (by decide) ?_
    refine wa_istore_n fx [(3, .int (0 : Int32)), (0, .ref (ad 0)), (1, .int a1), (2, .int a2)] dX4_places_31 rfl (by decide) rfl ?_
    refine wa_sub [1, 2, 3, 0] rfl ?_
    exact B32 200 a1 a2 (0 : Int32) st h
theorem c_X4_places {g : GT} {l : Launch} {ad : Nat → Nat}  : ∀ (d : Nat) {r : (StT)} {st : StT} {a1 : Int32} {a2 : Int32}, f_X4_places d st a1 a2 = some r → Ct g l yX4_places (wd yX4_places cX4_places 4 none) (rmh (7 + d)) [.ref (ad 0), .int a1, .int a2] (mo_ws g ad st) (mo_ws g ad r) none := by
  intro d
  induction d with
  | zero => intro r st a1 a2 h; exact absurd h (by rw [f_X4_places]; exact nofun)
  | succ d ih =>
    intro r st a1 a2 h
    rw [f_X4_places] at h
    exact c_X4_places_s d _ (fun r st a1 a2 hz => ih hz) h
