def f_X2_append  (st : StT) (a1 : Int32) : Option ((StT)) := if (120 : Int32) ≤ (st.2.2 0) then (some st) else (ck (st.2.2 0) 120 (nm (setA st 0 (upd (st.1 0) (Int32.toNatClampNeg (st.2.2 0)) a1)) fun w1 => nm (setF w1 0 ((w1.2.2 0) + (1 : Int32))) fun w2 => some w2))
set_option maxHeartbeats 4000000 in
set_option maxRecDepth 100000 in
theorem c_X2_append {g : GT} {l : Launch} {ad : Nat → Nat}   {st : StT} {a1 : Int32} {r : (StT)} (h : f_X2_append st a1 = some r) : Ct g l yX2_append (wd yX2_append cX2_append 2 none) (rmh 1) [.ref (ad 0), .int a1] (tx_ws g ad st) (tx_ws g ad r) none := by
  refine Ct.of (lv := [(0, .ref (ad 0)), (1, .int a1)]) (by decide) (Nat.le_of_ble_eq_true rfl) rfl (fun K hl fx hf => ?_)
  subst hl
  rw [f_X2_append] at h
  refine wa_aload_n fx 0 dX2_append_0 rfl ?_
  refine wa_get (v := .int (st.2.2 0)) fx wm_X2 0 rfl rfl 1 (by decide) q_25_4 rfl rfl dX2_append_1 ?_
  refine wa_bipush fx (120 : Int32) dX2_append_4 (by decide) ?_
  refine wa_icmp_ge fx 29 dX2_append_6 (by decide) h (fun h => ?_) (fun h => ?_)
  · exact fn_v (tx_ws g ad) fx hf (Option.some.inj h) dX2_append_29
  · refine wa_aload_n fx 0 dX2_append_9 rfl ?_
    refine wa_get (v := .ref (ad 1)) fx wm_X2 0 rfl rfl 0 (by decide) q_3_4 rfl rfl dX2_append_10 ?_
    refine wa_aload_n fx 0 dX2_append_13 rfl ?_
    refine wa_get (v := .int (st.2.2 0)) fx wm_X2 0 rfl rfl 1 (by decide) q_25_4 rfl rfl dX2_append_14 ?_
    refine wa_iload_n fx 1 dX2_append_17 rfl ?_
    refine wa_iast (tx_ws g ad) (f := st.1 0) fx 1 rfl dX2_append_18 h rfl (fun w1 h => ?_)
    refine wa_aload_n fx 0 dX2_append_19 rfl ?_
    refine wa_dup fx dX2_append_20 rfl ?_
    refine wa_get (v := .int (w1.2.2 0)) fx wm_X2 0 rfl rfl 1 (by decide) q_25_4 rfl rfl dX2_append_21 ?_
    refine wa_iconst fx (1 : Int32) dX2_append_24 (by decide) ?_
    refine wa_iadd fx dX2_append_25 ?_
    refine wa_put (tx_ws g ad) fx wm_X2 tyX2 tyX2_ok nmX2 0 rfl rfl 1 (by decide) q_25_4 rfl rfl rfl rfl (Nat.le_of_ble_eq_true rfl) dX2_append_26 h rfl (fun w2 h => ?_)
    exact fn_v (tx_ws g ad) fx hf (Option.some.inj h) dX2_append_29
def f_X2_sortAt_b45 (st : StT) (x3 : Int32) : Option (Int32) := if x3 = (59 : Int32) then (some (3 : Int32)) else (some (4 : Int32))
def f_X2_sortAt_b31 (st : StT) (x2 : Int32) : Option (Int32) := if x2 < (48 : Int32) then (f_X2_sortAt_b45 st x2) else (if (57 : Int32) < x2 then (f_X2_sortAt_b45 st x2) else (some (2 : Int32)))
def f_X2_sortAt (st : StT) (a1 : Int32) : Option (Int32) := if a1 < (st.2.2 0) then (ck a1 120 (nm (st.1 0 (Int32.toNatClampNeg a1)) fun x1 => if x1 < (97 : Int32) then (f_X2_sortAt_b31 st x1) else (if (122 : Int32) < x1 then (f_X2_sortAt_b31 st x1) else (some (1 : Int32))))) else (some (0 : Int32))
set_option maxHeartbeats 4000000 in
set_option maxRecDepth 100000 in
theorem c_X2_sortAt {g : GT} {l : Launch} {ad : Nat → Nat}   {st : StT} {a1 : Int32} {r : Int32} (h : f_X2_sortAt st a1 = some r) : Ct g l yX2_sortAt (wd yX2_sortAt cX2_sortAt 3 (some .int)) (rmh 1) [.ref (ad 0), .int a1] (tx_ws g ad st) (tx_ws g ad st) (some (.int r)) := by
  refine Ct.of (lv := [(0, .ref (ad 0)), (1, .int a1)]) (by decide) (Nat.le_of_ble_eq_true rfl) rfl (fun K hl fx hf => ?_)
  subst hl
  rw [f_X2_sortAt] at h
  have B45 : ∀  (x3 : Int32), f_X2_sortAt_b45 st x3 = some r → WA g K 3 0 0 45 [(2, .int x3)] [] (tx_ws g ad st) := by
    intro   x3 h
    rw [f_X2_sortAt_b45] at h
    refine wa_iload_n fx 0 dX2_sortAt_45 rfl ?_
    refine wa_bipush fx (59 : Int32) dX2_sortAt_46 (by decide) ?_
    refine wa_icmp_ne fx 55 dX2_sortAt_48 (by decide) h (fun h => ?_) (fun h => ?_)
    · refine wa_iconst fx (3 : Int32) dX2_sortAt_51 (by decide) ?_
      refine wa_goto fx 56 dX2_sortAt_52 (by decide) ?_
      exact fn_i (tx_ws g ad) fx hf (Option.some.inj h) rfl dX2_sortAt_56
    · refine wa_iconst fx (4 : Int32) dX2_sortAt_55 (by decide) ?_
      exact fn_i (tx_ws g ad) fx hf (Option.some.inj h) rfl dX2_sortAt_56
  have B31 : ∀  (x2 : Int32), f_X2_sortAt_b31 st x2 = some r → WA g K 3 0 0 31 [(2, .int x2)] [] (tx_ws g ad st) := by
    intro   x2 h
    rw [f_X2_sortAt_b31] at h
    refine wa_iload_n fx 0 dX2_sortAt_31 rfl ?_
    refine wa_bipush fx (48 : Int32) dX2_sortAt_32 (by decide) ?_
    refine wa_icmp_lt fx 45 dX2_sortAt_34 (by decide) h (fun h => ?_) (fun h => ?_)
    · refine wa_sub [0] rfl ?_
      exact B45 x2 h
    · refine wa_iload_n fx 0 dX2_sortAt_37 rfl ?_
      refine wa_bipush fx (57 : Int32) dX2_sortAt_38 (by decide) ?_
      refine wa_icmp_gt fx 45 dX2_sortAt_40 (by decide) h (fun h => ?_) (fun h => ?_)
      · refine wa_sub [0] rfl ?_
        exact B45 x2 h
      · refine wa_iconst fx (2 : Int32) dX2_sortAt_43 (by decide) ?_
        exact fn_i (tx_ws g ad) fx hf (Option.some.inj h) rfl dX2_sortAt_44
  refine wa_iload_n fx 1 dX2_sortAt_0 rfl ?_
  refine wa_aload_n fx 0 dX2_sortAt_1 rfl ?_
  refine wa_get (v := .int (st.2.2 0)) fx wm_X2 0 rfl rfl 1 (by decide) q_25_4 rfl rfl dX2_sortAt_2 ?_
  refine wa_icmp_lt fx 10 dX2_sortAt_5 (by decide) h (fun h => ?_) (fun h => ?_)
  · refine wa_aload_n fx 0 dX2_sortAt_10 rfl ?_
    refine wa_get (v := .ref (ad 1)) fx wm_X2 0 rfl rfl 0 (by decide) q_3_4 rfl rfl dX2_sortAt_11 ?_
    refine wa_iload_n fx 1 dX2_sortAt_14 rfl ?_
    refine wa_iald (f := st.1 0) fx 1 rfl dX2_sortAt_15 h (fun h => ?_)
    refine wa_istore_nN fx (fun x1 => [(2, .int x1), (0, .ref (ad 0)), (1, .int a1)]) dX2_sortAt_16 rfl (by decide) (fun _ => rfl) h (fun x1 h => ?_)
    refine wa_iload_n fx 0 dX2_sortAt_17 rfl ?_
    refine wa_bipush fx (97 : Int32) dX2_sortAt_18 (by decide) ?_
    refine wa_icmp_lt fx 31 dX2_sortAt_20 (by decide) h (fun h => ?_) (fun h => ?_)
    · refine wa_sub [0] rfl ?_
      exact B31 x1 h
    · refine wa_iload_n fx 0 dX2_sortAt_23 rfl ?_
      refine wa_bipush fx (122 : Int32) dX2_sortAt_24 (by decide) ?_
      refine wa_icmp_gt fx 31 dX2_sortAt_26 (by decide) h (fun h => ?_) (fun h => ?_)
      · refine wa_sub [0] rfl ?_
        exact B31 x1 h
      · refine wa_iconst fx (1 : Int32) dX2_sortAt_29 (by decide) ?_
        exact fn_i (tx_ws g ad) fx hf (Option.some.inj h) rfl dX2_sortAt_30
  · refine wa_iconst fx (0 : Int32) dX2_sortAt_8 (by decide) ?_
    exact fn_i (tx_ws g ad) fx hf (Option.some.inj h) rfl dX2_sortAt_9
def f_X2_step_b79 (w8 : StT) : Option ((StT)) := nm (setF w8 4 ((w8.2.2 4) + (1 : Int32))) fun w9 => some w9
def f_X2_step_b154 (k90 : (StT) → Option ((StT))) (w13 : StT) : Option ((StT)) := nm (setF w13 4 ((w13.2.2 4) + (1 : Int32))) fun w14 => k90  w14
def f_X2_step_l90 : Nat → (StT) → Option ((StT))
  | 0, _ => none
  | n + 1, w11 => if (w11.2.2 0) ≤ (w11.2.2 4) then (some w11) else (Option.bind (f_X2_sortAt w11 (w11.2.2 4)) fun z12 => if z12 = (w11.2.2 2) then (if (w11.2.2 2) = (2 : Int32) then (ck (w11.2.2 4) 120 (nm (setF w11 5 (if (1000 : Int32) < ((((10 : Int32) * (w11.2.2 5)) + (w11.1 0 (Int32.toNatClampNeg (w11.2.2 4)))) - (48 : Int32)) then (1000 : Int32) else ((((10 : Int32) * (w11.2.2 5)) + (w11.1 0 (Int32.toNatClampNeg (w11.2.2 4)))) - (48 : Int32)))) fun w15 => f_X2_step_b154 (f_X2_step_l90 n) w15)) else (f_X2_step_b154 (f_X2_step_l90 n) w11)) else (some w11))
def f_X2_step_b38 (w3 : StT) : Option ((StT)) := nm (setF w3 3 (w3.2.2 4)) fun w4 => Option.bind (f_X2_sortAt w4 (w4.2.2 3)) fun z5 => nm (setF w4 2 z5) fun w6 => nm (setF w6 5 (0 : Int32)) fun w7 => if (w7.2.2 2) = (3 : Int32) then (f_X2_step_b79 w7) else (if (w7.2.2 2) = (4 : Int32) then (f_X2_step_b79 w7) else (f_X2_step_l90 200 w7))
def f_X2_step_l0 : Nat → (StT) → Option ((StT))
  | 0, _ => none
  | n + 1, w2 => if (w2.2.2 0) ≤ (w2.2.2 4) then (f_X2_step_b38 w2) else (ck (w2.2.2 4) 120 (if (w2.1 0 (Int32.toNatClampNeg (w2.2.2 4))) = (32 : Int32) then (nm (setF w2 4 ((w2.2.2 4) + (1 : Int32))) fun w16 => (f_X2_step_l0 n)  w16) else (f_X2_step_b38 w2)))
def f_X2_step  (st : StT) : Option ((StT)) := f_X2_step_l0 200 st
set_option maxHeartbeats 4000000 in
set_option maxRecDepth 100000 in
theorem c_X2_step {g : GT} {l : Launch} {ad : Nat → Nat}   {st : StT} {r : (StT)} (h : f_X2_step st = some r) : Ct g l yX2_step (wd yX2_step cX2_step 1 none) (rmh 2) [.ref (ad 0)] (tx_ws g ad st) (tx_ws g ad r) none := by
  refine Ct.of (lv := [(0, .ref (ad 0))]) (by decide) (Nat.le_of_ble_eq_true rfl) rfl (fun K hl fx hf => ?_)
  subst hl
  rw [f_X2_step] at h
  have B79 : ∀  (w8 : StT), f_X2_step_b79 w8 = some r → WA g K 1 0 0 79 [(0, .ref (ad 0))] [] (tx_ws g ad w8) := by
    intro   w8 h
    rw [f_X2_step_b79] at h
    refine wa_aload_n fx 0 dX2_step_79 rfl ?_
    refine wa_dup fx dX2_step_80 rfl ?_
    refine wa_get (v := .int (w8.2.2 4)) fx wm_X2 0 rfl rfl 5 (by decide) q_26_6 rfl rfl dX2_step_81 ?_
    refine wa_iconst fx (1 : Int32) dX2_step_84 (by decide) ?_
    refine wa_iadd fx dX2_step_85 ?_
    refine wa_put (tx_ws g ad) fx wm_X2 tyX2 tyX2_ok nmX2 0 rfl rfl 5 (by decide) q_26_6 rfl rfl rfl rfl (Nat.le_of_ble_eq_true rfl) dX2_step_86 h rfl (fun w9 h => ?_)
    exact fn_v (tx_ws g ad) fx hf (Option.some.inj h) dX2_step_89
  have B154 : ∀ (k90 : (StT) → Option ((StT))) (Hk90 : ∀ (w10 : StT), k90 w10 = some r → WA g K 1 0 0 90 [(0, .ref (ad 0))] [] (tx_ws g ad w10)) (w13 : StT), f_X2_step_b154 k90 w13 = some r → WA g K 1 0 0 154 [(0, .ref (ad 0))] [] (tx_ws g ad w13) := by
    intro  k90 Hk90 w13 h
    rw [f_X2_step_b154] at h
    refine wa_aload_n fx 0 dX2_step_154 rfl ?_
    refine wa_dup fx dX2_step_155 rfl ?_
    refine wa_get (v := .int (w13.2.2 4)) fx wm_X2 0 rfl rfl 5 (by decide) q_26_6 rfl rfl dX2_step_156 ?_
    refine wa_iconst fx (1 : Int32) dX2_step_159 (by decide) ?_
    refine wa_iadd fx dX2_step_160 ?_
    refine wa_put (tx_ws g ad) fx wm_X2 tyX2 tyX2_ok nmX2 0 rfl rfl 5 (by decide) q_26_6 rfl rfl rfl rfl (Nat.le_of_ble_eq_true rfl) dX2_step_161 h rfl (fun w14 h => ?_)
    refine wa_goto fx 90 dX2_step_164 (by decide) ?_
    refine wa_sub [0] rfl ?_
    exact Hk90  w14 h
  have B90 : ∀  (n : Nat) (w11 : StT), f_X2_step_l90 n w11 = some r → WA g K 1 0 0 90 [(0, .ref (ad 0))] [] (tx_ws g ad w11) := by
    intro   n
    induction n with
    | zero => intro w11 h; exact absurd h (by rw [f_X2_step_l90]; exact nofun)
    | succ n ih =>
      intro w11 h
      rw [f_X2_step_l90] at h
      refine wa_aload_n fx 0 dX2_step_90 rfl ?_
      refine wa_get (v := .int (w11.2.2 4)) fx wm_X2 0 rfl rfl 5 (by decide) q_26_6 rfl rfl dX2_step_91 ?_
      refine wa_aload_n fx 0 dX2_step_94 rfl ?_
      refine wa_get (v := .int (w11.2.2 0)) fx wm_X2 0 rfl rfl 1 (by decide) q_25_4 rfl rfl dX2_step_95 ?_
      refine wa_icmp_ge fx 167 dX2_step_98 (by decide) h (fun h => ?_) (fun h => ?_)
      · exact fn_v (tx_ws g ad) fx hf (Option.some.inj h) dX2_step_167
      · refine wa_aload_n fx 0 dX2_step_101 rfl ?_
        refine wa_aload_n fx 0 dX2_step_102 rfl ?_
        refine wa_get (v := .int (w11.2.2 4)) fx wm_X2 0 rfl rfl 5 (by decide) q_26_6 rfl rfl dX2_step_103 ?_
        refine wa_V (b := ad 0) (rmc := (rmh 1)) (As := [.int (w11.2.2 4)]) (st := []) (wc := (tx_ws g ad w11)) (wr := ([] : va_W)) (wcz := fun _ => (tx_ws g ad w11)) (w2 := fun _ => (tx_ws g ad w11)) (o := fun z12 => some (.int z12)) (s2 := fun z12 => [.int z12]) (ci := 2) (q0 := 0) fx mm_X2_sortAt q_26_17 dX2_step_106 h (fun _ hz => c_X2_sortAt hz) rfl rfl (rm_ok (by decide) (by decide)) ⟨Nat.zero_le _, Nat.zero_le _⟩ rfl (List.Perm.refl _) (fun _ => (List.Perm.refl _)) rfl (Nat.le_of_ble_eq_true rfl) (fun _ => rfl) (fun z12 h => ?_)
        refine wa_aload_n fx 0 dX2_step_109 rfl ?_
        refine wa_get (v := .int (w11.2.2 2)) fx wm_X2 0 rfl rfl 3 (by decide) q_26_7 rfl rfl dX2_step_110 ?_
        refine wa_icmp_ne fx 167 dX2_step_113 (by decide) h (fun h => ?_) (fun h => ?_)
        · refine wa_aload_n fx 0 dX2_step_116 rfl ?_
          refine wa_get (v := .int (w11.2.2 2)) fx wm_X2 0 rfl rfl 3 (by decide) q_26_7 rfl rfl dX2_step_117 ?_
          refine wa_iconst fx (2 : Int32) dX2_step_120 (by decide) ?_
          refine wa_icmp_ne fx 154 dX2_step_121 (by decide) h (fun h => ?_) (fun h => ?_)
          · refine wa_aload_n fx 0 dX2_step_124 rfl ?_
            refine wa_bipush fx (10 : Int32) dX2_step_125 (by decide) ?_
            refine wa_aload_n fx 0 dX2_step_127 rfl ?_
            refine wa_get (v := .int (w11.2.2 5)) fx wm_X2 0 rfl rfl 6 (by decide) q_26_13 rfl rfl dX2_step_128 ?_
            refine wa_imul fx dX2_step_131 ?_
            refine wa_aload_n fx 0 dX2_step_132 rfl ?_
            refine wa_get (v := .ref (ad 1)) fx wm_X2 0 rfl rfl 0 (by decide) q_3_4 rfl rfl dX2_step_133 ?_
            refine wa_aload_n fx 0 dX2_step_136 rfl ?_
            refine wa_get (v := .int (w11.2.2 4)) fx wm_X2 0 rfl rfl 5 (by decide) q_26_6 rfl rfl dX2_step_137 ?_
            refine wa_iald (f := w11.1 0) fx 1 rfl dX2_step_140 h (fun h => ?_)
            refine wa_iadd fx dX2_step_141 ?_
            refine wa_bipush fx (48 : Int32) dX2_step_142 (by decide) ?_
            refine wa_isub fx dX2_step_144 ?_
            refine wa_sipush fx (1000 : Int32) dX2_step_145 (by decide) ?_
            refine wa_mmin fx q_26_14 dX2_step_148 (Nat.le_of_ble_eq_true rfl) ⟨Nat.le_refl _, Nat.le_refl _⟩ ?_
            refine wa_put (tx_ws g ad) fx wm_X2 tyX2 tyX2_ok nmX2 0 rfl rfl 6 (by decide) q_26_13 rfl rfl rfl rfl (Nat.le_of_ble_eq_true rfl) dX2_step_151 h rfl (fun w15 h => ?_)
            refine wa_sub [0] rfl ?_
            exact B154 (f_X2_step_l90 n) ih w15 h
          · refine wa_sub [0] rfl ?_
            exact B154 (f_X2_step_l90 n) ih w11 h
        · exact fn_v (tx_ws g ad) fx hf (Option.some.inj h) dX2_step_167
  have B38 : ∀  (w3 : StT), f_X2_step_b38 w3 = some r → WA g K 1 0 0 38 [(0, .ref (ad 0))] [] (tx_ws g ad w3) := by
    intro   w3 h
    rw [f_X2_step_b38] at h
    refine wa_aload_n fx 0 dX2_step_38 rfl ?_
    refine wa_aload_n fx 0 dX2_step_39 rfl ?_
    refine wa_get (v := .int (w3.2.2 4)) fx wm_X2 0 rfl rfl 5 (by decide) q_26_6 rfl rfl dX2_step_40 ?_
    refine wa_put (tx_ws g ad) fx wm_X2 tyX2 tyX2_ok nmX2 0 rfl rfl 4 (by decide) q_26_12 rfl rfl rfl rfl (Nat.le_of_ble_eq_true rfl) dX2_step_43 h rfl (fun w4 h => ?_)
    refine wa_aload_n fx 0 dX2_step_46 rfl ?_
    refine wa_aload_n fx 0 dX2_step_47 rfl ?_
    refine wa_aload_n fx 0 dX2_step_48 rfl ?_
    refine wa_get (v := .int (w4.2.2 3)) fx wm_X2 0 rfl rfl 4 (by decide) q_26_12 rfl rfl dX2_step_49 ?_
    refine wa_V (b := ad 0) (rmc := (rmh 1)) (As := [.int (w4.2.2 3)]) (st := [.ref (ad 0)]) (wc := (tx_ws g ad w4)) (wr := ([] : va_W)) (wcz := fun _ => (tx_ws g ad w4)) (w2 := fun _ => (tx_ws g ad w4)) (o := fun z5 => some (.int z5)) (s2 := fun z5 => [.int z5, .ref (ad 0)]) (ci := 2) (q0 := 0) fx mm_X2_sortAt q_26_17 dX2_step_52 h (fun _ hz => c_X2_sortAt hz) rfl rfl (rm_ok (by decide) (by decide)) ⟨Nat.zero_le _, Nat.zero_le _⟩ rfl (List.Perm.refl _) (fun _ => (List.Perm.refl _)) rfl (Nat.le_of_ble_eq_true rfl) (fun _ => rfl) (fun z5 h => ?_)
    refine wa_put (tx_ws g ad) fx wm_X2 tyX2 tyX2_ok nmX2 0 rfl rfl 3 (by decide) q_26_7 rfl rfl rfl rfl (Nat.le_of_ble_eq_true rfl) dX2_step_55 h rfl (fun w6 h => ?_)
    refine wa_aload_n fx 0 dX2_step_58 rfl ?_
    refine wa_iconst fx (0 : Int32) dX2_step_59 (by decide) ?_
    refine wa_put (tx_ws g ad) fx wm_X2 tyX2 tyX2_ok nmX2 0 rfl rfl 6 (by decide) q_26_13 rfl rfl rfl rfl (Nat.le_of_ble_eq_true rfl) dX2_step_60 h rfl (fun w7 h => ?_)
    refine wa_aload_n fx 0 dX2_step_63 rfl ?_
    refine wa_get (v := .int (w7.2.2 2)) fx wm_X2 0 rfl rfl 3 (by decide) q_26_7 rfl rfl dX2_step_64 ?_
    refine wa_iconst fx (3 : Int32) dX2_step_67 (by decide) ?_
    refine wa_icmp_eq fx 79 dX2_step_68 (by decide) h (fun h => ?_) (fun h => ?_)
    · refine wa_sub [0] rfl ?_
      exact B79 w7 h
    · refine wa_aload_n fx 0 dX2_step_71 rfl ?_
      refine wa_get (v := .int (w7.2.2 2)) fx wm_X2 0 rfl rfl 3 (by decide) q_26_7 rfl rfl dX2_step_72 ?_
      refine wa_iconst fx (4 : Int32) dX2_step_75 (by decide) ?_
      refine wa_icmp_ne fx 90 dX2_step_76 (by decide) h (fun h => ?_) (fun h => ?_)
      · refine wa_sub [0] rfl ?_
        exact B79 w7 h
      · refine wa_sub [0] rfl ?_
        exact B90 200 w7 h
  have B0 : ∀  (n : Nat) (w2 : StT), f_X2_step_l0 n w2 = some r → WA g K 1 0 0 0 [(0, .ref (ad 0))] [] (tx_ws g ad w2) := by
    intro   n
    induction n with
    | zero => intro w2 h; exact absurd h (by rw [f_X2_step_l0]; exact nofun)
    | succ n ih =>
      intro w2 h
      rw [f_X2_step_l0] at h
      refine wa_aload_n fx 0 dX2_step_0 rfl ?_
      refine wa_get (v := .int (w2.2.2 4)) fx wm_X2 0 rfl rfl 5 (by decide) q_26_6 rfl rfl dX2_step_1 ?_
      refine wa_aload_n fx 0 dX2_step_4 rfl ?_
      refine wa_get (v := .int (w2.2.2 0)) fx wm_X2 0 rfl rfl 1 (by decide) q_25_4 rfl rfl dX2_step_5 ?_
      refine wa_icmp_ge fx 38 dX2_step_8 (by decide) h (fun h => ?_) (fun h => ?_)
      · refine wa_sub [0] rfl ?_
        exact B38 w2 h
      · refine wa_aload_n fx 0 dX2_step_11 rfl ?_
        refine wa_get (v := .ref (ad 1)) fx wm_X2 0 rfl rfl 0 (by decide) q_3_4 rfl rfl dX2_step_12 ?_
        refine wa_aload_n fx 0 dX2_step_15 rfl ?_
        refine wa_get (v := .int (w2.2.2 4)) fx wm_X2 0 rfl rfl 5 (by decide) q_26_6 rfl rfl dX2_step_16 ?_
        refine wa_iald (f := w2.1 0) fx 1 rfl dX2_step_19 h (fun h => ?_)
        refine wa_bipush fx (32 : Int32) dX2_step_20 (by decide) ?_
        refine wa_icmp_ne fx 38 dX2_step_22 (by decide) h (fun h => ?_) (fun h => ?_)
        · refine wa_aload_n fx 0 dX2_step_25 rfl ?_
          refine wa_dup fx dX2_step_26 rfl ?_
          refine wa_get (v := .int (w2.2.2 4)) fx wm_X2 0 rfl rfl 5 (by decide) q_26_6 rfl rfl dX2_step_27 ?_
          refine wa_iconst fx (1 : Int32) dX2_step_30 (by decide) ?_
          refine wa_iadd fx dX2_step_31 ?_
          refine wa_put (tx_ws g ad) fx wm_X2 tyX2 tyX2_ok nmX2 0 rfl rfl 5 (by decide) q_26_6 rfl rfl rfl rfl (Nat.le_of_ble_eq_true rfl) dX2_step_32 h rfl (fun w16 h => ?_)
          refine wa_goto fx 0 dX2_step_35 (by decide) ?_
          refine wa_sub [0] rfl ?_
          exact ih  w16 h
        · refine wa_sub [0] rfl ?_
          exact B38 w2 h
  refine wa_sub [0] rfl ?_
  exact B0 200 st h
def f_X2_nameOf  (a0 : Int32) : Option (Nat) := if a0 = (1 : Int32) then (some 1) else (if a0 = (2 : Int32) then (some 2) else (if a0 = (3 : Int32) then (some 3) else (if a0 = (4 : Int32) then (some 4) else (if a0 = (5 : Int32) then (some 5) else (some 0)))))
set_option maxHeartbeats 4000000 in
set_option maxRecDepth 100000 in
theorem c_X2_nameOf {g : GT} {l : Launch}   {a0 : Int32} {r : Nat} (h : f_X2_nameOf a0 = some r) : Ct g l yX2_nameOf (wd yX2_nameOf cX2_nameOf 1 (some (.object "java/lang/String"))) (rmh 1) [.int a0] (no_ws ()) (no_ws ()) (some (.ref (g.2.2.2.2.2.1 r))) := by
  refine Ct.of (lv := [(0, .int a0)]) (by decide) (Nat.le_of_ble_eq_true rfl) rfl (fun K hl fx hf => ?_)
  subst hl
  rw [f_X2_nameOf] at h
  refine wa_iload_n fx 0 dX2_nameOf_0 rfl ?_
  by_cases c0 : a0 = (1 : Int32)
  · have h := (if_pos c0).symm.trans h
    refine wa_tabI fx 36 (1 : Int) dX2_nameOf_1 (by rw [c0] <;> rfl) (by decide) (by decide) (by rfl) (by decide) ?_
    refine wa_ldcs fx 1 (by decide) rfl dX2_nameOf_36 ?_
    exact fn_s (no_ws) fx hf (Option.some.inj h) rfl dX2_nameOf_38
  · have h := (if_neg c0).symm.trans h
    by_cases c1 : a0 = (2 : Int32)
    · have h := (if_pos c1).symm.trans h
      refine wa_tabI fx 39 (2 : Int) dX2_nameOf_1 (by rw [c1] <;> rfl) (by decide) (by decide) (by rfl) (by decide) ?_
      refine wa_ldcs fx 2 (by decide) rfl dX2_nameOf_39 ?_
      exact fn_s (no_ws) fx hf (Option.some.inj h) rfl dX2_nameOf_41
    · have h := (if_neg c1).symm.trans h
      by_cases c2 : a0 = (3 : Int32)
      · have h := (if_pos c2).symm.trans h
        refine wa_tabI fx 42 (3 : Int) dX2_nameOf_1 (by rw [c2] <;> rfl) (by decide) (by decide) (by rfl) (by decide) ?_
        refine wa_ldcs fx 3 (by decide) rfl dX2_nameOf_42 ?_
        exact fn_s (no_ws) fx hf (Option.some.inj h) rfl dX2_nameOf_44
      · have h := (if_neg c2).symm.trans h
        by_cases c3 : a0 = (4 : Int32)
        · have h := (if_pos c3).symm.trans h
          refine wa_tabI fx 45 (4 : Int) dX2_nameOf_1 (by rw [c3] <;> rfl) (by decide) (by decide) (by rfl) (by decide) ?_
          refine wa_ldcs fx 4 (by decide) rfl dX2_nameOf_45 ?_
          exact fn_s (no_ws) fx hf (Option.some.inj h) rfl dX2_nameOf_47
        · have h := (if_neg c3).symm.trans h
          by_cases c4 : a0 = (5 : Int32)
          · have h := (if_pos c4).symm.trans h
            refine wa_tabI fx 48 (5 : Int) dX2_nameOf_1 (by rw [c4] <;> rfl) (by decide) (by decide) (by rfl) (by decide) ?_
            refine wa_ldcs fx 5 (by decide) rfl dX2_nameOf_48 ?_
            exact fn_s (no_ws) fx hf (Option.some.inj h) rfl dX2_nameOf_50
          · have h := (if_neg c4).symm.trans h
            refine wa_tabD fx 51 dX2_nameOf_1 (by decide) [(1 : Int32), (2 : Int32), (3 : Int32), (4 : Int32), (5 : Int32)] (by decide) (List.forall_mem_cons.mpr ⟨c0, (List.forall_mem_cons.mpr ⟨c1, (List.forall_mem_cons.mpr ⟨c2, (List.forall_mem_cons.mpr ⟨c3, (List.forall_mem_cons.mpr ⟨c4, (fun _ hm => absurd hm List.not_mem_nil)⟩)⟩)⟩)⟩)⟩) ?_
            refine wa_ldcs fx 0 (by decide) rfl dX2_nameOf_51 ?_
            exact fn_s (no_ws) fx hf (Option.some.inj h) rfl dX2_nameOf_53
def f_X2_isWord_l28 (i : Nat) (st : StT) : Nat → (Int32) → Option (Int32)
  | 0, _ => none
  | n + 1, x2 => if (Int32.ofNat (sx_n.getD i 0)) ≤ x2 then (some (1 : Int32)) else (ck ((st.2.2 3) + x2) 120 (ck x2 (sx_n.getD i 0) (if (st.1 0 (Int32.toNatClampNeg ((st.2.2 3) + x2))) = (sx_c i (Int32.toNatClampNeg x2)) then (nm (x2 + (1 : Int32)) fun x3 => (f_X2_isWord_l28 i st n) x3) else (some (0 : Int32)))))
def f_X2_isWord (i : Nat) (st : StT)  : Option (Int32) := cks i (if (st.2.2 2) = (1 : Int32) then (if ((st.2.2 4) - (st.2.2 3)) = (Int32.ofNat (sx_n.getD i 0)) then (f_X2_isWord_l28 i st 200 (0 : Int32)) else (some (0 : Int32))) else (some (0 : Int32)))
set_option maxHeartbeats 4000000 in
set_option maxRecDepth 100000 in
theorem c_X2_isWord {g : GT} {l : Launch} {ad : Nat → Nat} {i : Nat}  {st : StT}  {r : Int32} (h : f_X2_isWord i st = some r) : Ct g l yX2_isWord (wd yX2_isWord cX2_isWord 3 (some .boolean)) (rmh 6) [.ref (ad 0), .ref (g.2.2.2.2.2.1 i)] (tx_ws g ad st) (tx_ws g ad st) (some (.int r)) := by
  refine Ct.of (lv := [(0, .ref (ad 0)), (1, .ref (g.2.2.2.2.2.1 i))]) (by decide) (Nat.le_of_ble_eq_true rfl) rfl (fun K hl fx hf => ?_)
  subst hl
  rw [f_X2_isWord] at h
  obtain ⟨hi, h⟩ := of_cks h
  have B28 : ∀  (n : Nat) (x2 : Int32), f_X2_isWord_l28 i st n x2 = some r → WA g K 3 0 0 28 [(0, .ref (ad 0)), (1, .ref (g.2.2.2.2.2.1 i)), (2, .int x2)] [] (tx_ws g ad st) := by
    intro   n
    induction n with
    | zero => intro x2 h; exact absurd h (by rw [f_X2_isWord_l28]; exact nofun)
    | succ n ih =>
      intro x2 h
      rw [f_X2_isWord_l28] at h
      refine wa_iload_n fx 2 dX2_isWord_28 rfl ?_
      refine wa_aload_n fx 1 dX2_isWord_29 rfl ?_
      refine wa_slen fx hi q_27_12 dX2_isWord_30 (Nat.le_of_ble_eq_true rfl) ?_
      refine wa_icmp_ge fx 63 dX2_isWord_33 (by decide) h (fun h => ?_) (fun h => ?_)
      · refine wa_iconst fx (1 : Int32) dX2_isWord_63 (by decide) ?_
        exact fn_z (tx_ws g ad) fx hf (by decide) (Option.some.inj h) rfl dX2_isWord_64
      · refine wa_aload_n fx 0 dX2_isWord_36 rfl ?_
        refine wa_get (v := .ref (ad 1)) fx wm_X2 0 rfl rfl 0 (by decide) q_3_4 rfl rfl dX2_isWord_37 ?_
        refine wa_aload_n fx 0 dX2_isWord_40 rfl ?_
        refine wa_get (v := .int (st.2.2 3)) fx wm_X2 0 rfl rfl 4 (by decide) q_26_12 rfl rfl dX2_isWord_41 ?_
        refine wa_iload_n fx 2 dX2_isWord_44 rfl ?_
        refine wa_iadd fx dX2_isWord_45 ?_
        refine wa_iald (f := st.1 0) fx 1 rfl dX2_isWord_46 h (fun h => ?_)
        refine wa_aload_n fx 1 dX2_isWord_47 rfl ?_
        refine wa_iload_n fx 2 dX2_isWord_48 rfl ?_
        refine wa_schar fx hi q_28_0 dX2_isWord_49 (Nat.le_of_ble_eq_true rfl) h (fun h => ?_)
        refine wa_icmp_eq fx 57 dX2_isWord_52 (by decide) h (fun h => ?_) (fun h => ?_)
        · refine wa_iinc fx 2 (fun x3 => [(2, .int x3), (0, .ref (ad 0)), (1, .ref (g.2.2.2.2.2.1 i))]) dX2_isWord_57 rfl (by rfl) (by decide) (fun _ => rfl) h (fun x3 h => ?_)
          refine wa_goto fx 28 dX2_isWord_60 (by decide) ?_
          refine wa_sub [1, 2, 0] rfl ?_
          exact ih x3 h
        · refine wa_iconst fx (0 : Int32) dX2_isWord_55 (by decide) ?_
          exact fn_z (tx_ws g ad) fx hf (by decide) (Option.some.inj h) rfl dX2_isWord_56
  refine wa_aload_n fx 0 dX2_isWord_0 rfl ?_
  refine wa_get (v := .int (st.2.2 2)) fx wm_X2 0 rfl rfl 3 (by decide) q_26_7 rfl rfl dX2_isWord_1 ?_
  refine wa_iconst fx (1 : Int32) dX2_isWord_4 (by decide) ?_
  refine wa_icmp_ne fx 24 dX2_isWord_5 (by decide) h (fun h => ?_) (fun h => ?_)
  · refine wa_aload_n fx 0 dX2_isWord_8 rfl ?_
    refine wa_get (v := .int (st.2.2 4)) fx wm_X2 0 rfl rfl 5 (by decide) q_26_6 rfl rfl dX2_isWord_9 ?_
    refine wa_aload_n fx 0 dX2_isWord_12 rfl ?_
    refine wa_get (v := .int (st.2.2 3)) fx wm_X2 0 rfl rfl 4 (by decide) q_26_12 rfl rfl dX2_isWord_13 ?_
    refine wa_isub fx dX2_isWord_16 ?_
    refine wa_aload_n fx 1 dX2_isWord_17 rfl ?_
    refine wa_slen fx hi q_27_12 dX2_isWord_18 (Nat.le_of_ble_eq_true rfl) ?_
    refine wa_icmp_eq fx 26 dX2_isWord_21 (by decide) h (fun h => ?_) (fun h => ?_)
    · refine wa_iconst fx (0 : Int32) dX2_isWord_26 (by decide) ?_
      refine wa_istore_n fx [(2, .int (0 : Int32)), (0, .ref (ad 0)), (1, .ref (g.2.2.2.2.2.1 i))] dX2_isWord_27 rfl (by decide) rfl ?_
      refine wa_sub [1, 2, 0] rfl ?_
      exact B28 200 (0 : Int32) h
    · refine wa_iconst fx (0 : Int32) dX2_isWord_24 (by decide) ?_
      exact fn_z (tx_ws g ad) fx hf (by decide) (Option.some.inj h) rfl dX2_isWord_25
  · refine wa_iconst fx (0 : Int32) dX2_isWord_24 (by decide) ?_
    exact fn_z (tx_ws g ad) fx hf (by decide) (Option.some.inj h) rfl dX2_isWord_25
def f_X2_kindNamed_l2 (st : StT) : Nat → (Int32) → Option (Int32)
  | 0, _ => none
  | n + 1, x2 => if (6 : Int32) ≤ x2 then (some (-1 : Int32)) else (Option.bind (f_X2_nameOf x2) fun z3 => Option.bind (f_X2_isWord z3 st) fun z4 => if z4 = 0 then (nm (x2 + (1 : Int32)) fun x5 => (f_X2_kindNamed_l2 st n) x5) else (some x2))
def f_X2_kindNamed (st : StT)  : Option (Int32) := f_X2_kindNamed_l2 st 200 (0 : Int32)
set_option maxHeartbeats 4000000 in
set_option maxRecDepth 100000 in
theorem c_X2_kindNamed {g : GT} {l : Launch} {ad : Nat → Nat}   {st : StT}  {r : Int32} (h : f_X2_kindNamed st = some r) : Ct g l yX2_kindNamed (wd yX2_kindNamed cX2_kindNamed 2 (some .int)) (rmh 7) [.ref (ad 0)] (tx_ws g ad st) (tx_ws g ad st) (some (.int r)) := by
  refine Ct.of (lv := [(0, .ref (ad 0))]) (by decide) (Nat.le_of_ble_eq_true rfl) rfl (fun K hl fx hf => ?_)
  subst hl
  rw [f_X2_kindNamed] at h
  have B2 : ∀  (n : Nat) (x2 : Int32), f_X2_kindNamed_l2 st n x2 = some r → WA g K 2 0 0 2 [(0, .ref (ad 0)), (1, .int x2)] [] (tx_ws g ad st) := by
    intro   n
    induction n with
    | zero => intro x2 h; exact absurd h (by rw [f_X2_kindNamed_l2]; exact nofun)
    | succ n ih =>
      intro x2 h
      rw [f_X2_kindNamed_l2] at h
      refine wa_iload_n fx 1 dX2_kindNamed_2 rfl ?_
      refine wa_bipush fx (6 : Int32) dX2_kindNamed_3 (by decide) ?_
      refine wa_icmp_ge fx 27 dX2_kindNamed_5 (by decide) h (fun h => ?_) (fun h => ?_)
      · refine wa_iconst fx (-1 : Int32) dX2_kindNamed_27 (by decide) ?_
        exact fn_i (tx_ws g ad) fx hf (Option.some.inj h) rfl dX2_kindNamed_28
      · refine wa_aload_n fx 0 dX2_kindNamed_8 rfl ?_
        refine wa_iload_n fx 1 dX2_kindNamed_9 rfl ?_
        refine wa_S (rmc := (rmh 1)) (As := [.int x2]) (st := [.ref (ad 0)]) (wc := (no_ws ())) (wr := (tx_ws g ad st)) (wcz := fun _ => (no_ws ())) (w2 := fun _ => (tx_ws g ad st)) (o := fun z3 => some (.ref (g.2.2.2.2.2.1 z3))) (s2 := fun z3 => [.ref (g.2.2.2.2.2.1 z3), .ref (ad 0)]) fx mm_X2_nameOf q_27_5 dX2_kindNamed_10 h (fun _ hz => c_X2_nameOf hz) (rm_ok (by decide) (by decide)) ⟨Nat.zero_le _, Nat.zero_le _⟩ rfl (List.Perm.of_eq (List.append_nil _).symm) (fun _ => (List.Perm.of_eq (List.append_nil _).symm)) rfl (Nat.le_of_ble_eq_true rfl) (fun _ => rfl) (fun z3 h => ?_)
        refine wa_V (b := ad 0) (rmc := (rmh 6)) (As := [.ref (g.2.2.2.2.2.1 z3)]) (st := []) (wc := (tx_ws g ad st)) (wr := ([] : va_W)) (wcz := fun _ => (tx_ws g ad st)) (w2 := fun _ => (tx_ws g ad st)) (o := fun z4 => some (.int z4)) (s2 := fun z4 => [.int z4]) (ci := 2) (q0 := 0) fx mm_X2_isWord q_27_8 dX2_kindNamed_13 h (fun _ hz => c_X2_isWord hz) rfl rfl (rm_ok (by decide) (by decide)) ⟨Nat.zero_le _, Nat.zero_le _⟩ rfl (List.Perm.refl _) (fun _ => (List.Perm.refl _)) rfl (Nat.le_of_ble_eq_true rfl) (fun _ => rfl) (fun z4 h => ?_)
        refine wa_if_eq fx 21 dX2_kindNamed_16 (by decide) h (fun h => ?_) (fun h => ?_)
        · refine wa_iinc fx 1 (fun x5 => [(1, .int x5), (0, .ref (ad 0))]) dX2_kindNamed_21 rfl (by rfl) (by decide) (fun _ => rfl) h (fun x5 h => ?_)
          refine wa_goto fx 2 dX2_kindNamed_24 (by decide) ?_
          refine wa_sub [1, 0] rfl ?_
          exact ih x5 h
        · refine wa_iload_n fx 1 dX2_kindNamed_19 rfl ?_
          exact fn_i (tx_ws g ad) fx hf (Option.some.inj h) rfl dX2_kindNamed_20
  refine wa_iconst fx (0 : Int32) dX2_kindNamed_0 (by decide) ?_
  refine wa_istore_n fx [(1, .int (0 : Int32)), (0, .ref (ad 0))] dX2_kindNamed_1 rfl (by decide) rfl ?_
  refine wa_sub [1, 0] rfl ?_
  exact B2 200 (0 : Int32) h
def f_X2_isNumber (st : StT) (a1 : Int32) : Option (Int32) := if (st.2.2 2) = (2 : Int32) then (if a1 < (st.2.2 5) then (some (0 : Int32)) else (some (1 : Int32))) else (some (0 : Int32))
set_option maxHeartbeats 4000000 in
set_option maxRecDepth 100000 in
theorem c_X2_isNumber {g : GT} {l : Launch} {ad : Nat → Nat}   {st : StT} {a1 : Int32} {r : Int32} (h : f_X2_isNumber st a1 = some r) : Ct g l yX2_isNumber (wd yX2_isNumber cX2_isNumber 2 (some .boolean)) (rmh 1) [.ref (ad 0), .int a1] (tx_ws g ad st) (tx_ws g ad st) (some (.int r)) := by
  refine Ct.of (lv := [(0, .ref (ad 0)), (1, .int a1)]) (by decide) (Nat.le_of_ble_eq_true rfl) rfl (fun K hl fx hf => ?_)
  subst hl
  rw [f_X2_isNumber] at h
  refine wa_aload_n fx 0 dX2_isNumber_0 rfl ?_
  refine wa_get (v := .int (st.2.2 2)) fx wm_X2 0 rfl rfl 3 (by decide) q_26_7 rfl rfl dX2_isNumber_1 ?_
  refine wa_iconst fx (2 : Int32) dX2_isNumber_4 (by decide) ?_
  refine wa_icmp_ne fx 20 dX2_isNumber_5 (by decide) h (fun h => ?_) (fun h => ?_)
  · refine wa_aload_n fx 0 dX2_isNumber_8 rfl ?_
    refine wa_get (v := .int (st.2.2 5)) fx wm_X2 0 rfl rfl 6 (by decide) q_26_13 rfl rfl dX2_isNumber_9 ?_
    refine wa_iload_n fx 1 dX2_isNumber_12 rfl ?_
    refine wa_icmp_gt fx 20 dX2_isNumber_13 (by decide) h (fun h => ?_) (fun h => ?_)
    · refine wa_iconst fx (0 : Int32) dX2_isNumber_20 (by decide) ?_
      exact fn_z (tx_ws g ad) fx hf (by decide) (Option.some.inj h) rfl dX2_isNumber_21
    · refine wa_iconst fx (1 : Int32) dX2_isNumber_16 (by decide) ?_
      refine wa_goto fx 21 dX2_isNumber_17 (by decide) ?_
      exact fn_z (tx_ws g ad) fx hf (by decide) (Option.some.inj h) rfl dX2_isNumber_21
  · refine wa_iconst fx (0 : Int32) dX2_isNumber_20 (by decide) ?_
    exact fn_z (tx_ws g ad) fx hf (by decide) (Option.some.inj h) rfl dX2_isNumber_21
def f_X2_takesPerhaps_6_4  (st : StT × StT) (a3 : Int32) (a4 : Int32) : Option (Int32 × (StT × StT)) := Option.bind (f_X2_isWord 6 st.1) fun z1 => if z1 = 0 then (some ((1 : Int32), st)) else (Option.bind (f_X2_step st.1) fun z2 => nm (z2, st.2) fun w3 => Option.bind (f_X2_isNumber w3.1 a4) fun z4 => if z4 = 0 then (some ((0 : Int32), w3)) else (ck a3 8 (nm (w3.1, (setA w3.2 4 (upd (w3.2.1 4) (Int32.toNatClampNeg a3) (w3.1.2.2 5)))) fun w5 => Option.bind (f_X2_step w5.1) fun z6 => nm (z6, w5.2) fun w7 => some ((1 : Int32), w7))))
set_option maxHeartbeats 4000000 in
set_option maxRecDepth 100000 in
theorem c_X2_takesPerhaps_6_4 {g : GT} {l : Launch} {ad bd : Nat → Nat}   {st : StT × StT} {a3 : Int32} {a4 : Int32} {r : Int32 × (StT × StT)} (h : f_X2_takesPerhaps_6_4 st a3 a4 = some r) : Ct g l yX2_takesPerhaps (wd yX2_takesPerhaps cX2_takesPerhaps 5 (some .boolean)) (rmh 7) [.ref (ad 0), .ref (g.2.2.2.2.2.1 6), .ref (bd 5), .int a3, .int a4] (tr_ws g ad bd st) (tr_ws g ad bd r.2) (some (.int r.1)) := by
  refine Ct.of (lv := [(0, .ref (ad 0)), (1, .ref (g.2.2.2.2.2.1 6)), (2, .ref (bd 5)), (3, .int a3), (4, .int a4)]) (by decide) (Nat.le_of_ble_eq_true rfl) rfl (fun K hl fx hf => ?_)
  subst hl
  rw [f_X2_takesPerhaps_6_4] at h
  refine wa_aload_n fx 0 dX2_takesPerhaps_0 rfl ?_
  refine wa_aload_n fx 1 dX2_takesPerhaps_1 rfl ?_
  refine wa_V (b := ad 0) (rmc := (rmh 6)) (As := [.ref (g.2.2.2.2.2.1 6)]) (st := []) (wc := (tx_ws g ad st.1)) (wr := (rm_ws g bd st.2)) (wcz := fun _ => (tx_ws g ad st.1)) (w2 := fun _ => (tr_ws g ad bd st)) (o := fun z1 => some (.int z1)) (s2 := fun z1 => [.int z1]) (ci := 2) (q0 := 0) fx mm_X2_isWord q_27_8 dX2_takesPerhaps_2 h (fun _ hz => c_X2_isWord hz) rfl rfl (rm_ok (by decide) (by decide)) ⟨Nat.zero_le _, Nat.zero_le _⟩ rfl List.perm_append_comm (fun _ => List.perm_append_comm) rfl (Nat.le_of_ble_eq_true rfl) (fun _ => rfl) (fun z1 h => ?_)
  refine wa_if_ne fx 10 dX2_takesPerhaps_5 (by decide) h (fun h => ?_) (fun h => ?_)
  · refine wa_iconst fx (1 : Int32) dX2_takesPerhaps_8 (by decide) ?_
    exact fn_z (tr_ws g ad bd) fx hf (by decide) (sn1 h) (sn2 h) dX2_takesPerhaps_9
  · refine wa_aload_n fx 0 dX2_takesPerhaps_10 rfl ?_
    refine wa_V (b := ad 0) (rmc := (rmh 2)) (As := []) (st := []) (wc := (tx_ws g ad st.1)) (wr := (rm_ws g bd st.2)) (wcz := fun z2 => tx_ws g ad z2) (w2 := fun z2 => tr_ws g ad bd (z2, st.2)) (o := fun _ => none) (s2 := fun z2 => []) (ci := 2) (q0 := 0) fx mm_X2_step q_26_8 dX2_takesPerhaps_11 h (fun _ hz => c_X2_step hz) rfl rfl (rm_ok (by decide) (by decide)) ⟨Nat.zero_le _, Nat.zero_le _⟩ rfl List.perm_append_comm (fun _ => List.perm_append_comm) rfl (Nat.le_of_ble_eq_true rfl) (fun _ => rfl) (fun z2 h => ?_)
    refine nm_w (tr_ws g ad bd) h (fun w3 h => ?_)
    refine wa_aload_n fx 0 dX2_takesPerhaps_14 rfl ?_
    refine wa_iload fx 4 dX2_takesPerhaps_15 rfl ?_
    refine wa_V (b := ad 0) (rmc := (rmh 1)) (As := [.int a4]) (st := []) (wc := (tx_ws g ad w3.1)) (wr := (rm_ws g bd w3.2)) (wcz := fun _ => (tx_ws g ad w3.1)) (w2 := fun _ => (tr_ws g ad bd w3)) (o := fun z4 => some (.int z4)) (s2 := fun z4 => [.int z4]) (ci := 2) (q0 := 0) fx mm_X2_isNumber q_30_2 dX2_takesPerhaps_17 h (fun _ hz => c_X2_isNumber hz) rfl rfl (rm_ok (by decide) (by decide)) ⟨Nat.zero_le _, Nat.zero_le _⟩ rfl List.perm_append_comm (fun _ => List.perm_append_comm) rfl (Nat.le_of_ble_eq_true rfl) (fun _ => rfl) (fun z4 h => ?_)
    refine wa_if_ne fx 25 dX2_takesPerhaps_20 (by decide) h (fun h => ?_) (fun h => ?_)
    · refine wa_iconst fx (0 : Int32) dX2_takesPerhaps_23 (by decide) ?_
      exact fn_z (tr_ws g ad bd) fx hf (by decide) (sn1 h) (sn2 h) dX2_takesPerhaps_24
    · refine wa_aload_n fx 2 dX2_takesPerhaps_25 rfl ?_
      refine wa_iload_n fx 3 dX2_takesPerhaps_26 rfl ?_
      refine wa_aload_n fx 0 dX2_takesPerhaps_27 rfl ?_
      refine wa_get (v := .int (w3.1.2.2 5)) fx wm_X2 0 rfl rfl 6 (by decide) q_26_13 rfl rfl dX2_takesPerhaps_28 ?_
      refine wa_iast (tr_ws g ad bd) (f := w3.2.1 4) fx 7 rfl dX2_takesPerhaps_31 h rfl (fun w5 h => ?_)
      refine wa_aload_n fx 0 dX2_takesPerhaps_32 rfl ?_
      refine wa_V (b := ad 0) (rmc := (rmh 2)) (As := []) (st := []) (wc := (tx_ws g ad w5.1)) (wr := (rm_ws g bd w5.2)) (wcz := fun z6 => tx_ws g ad z6) (w2 := fun z6 => tr_ws g ad bd (z6, w5.2)) (o := fun _ => none) (s2 := fun z6 => []) (ci := 2) (q0 := 0) fx mm_X2_step q_26_8 dX2_takesPerhaps_33 h (fun _ hz => c_X2_step hz) rfl rfl (rm_ok (by decide) (by decide)) ⟨Nat.zero_le _, Nat.zero_le _⟩ rfl List.perm_append_comm (fun _ => List.perm_append_comm) rfl (Nat.le_of_ble_eq_true rfl) (fun _ => rfl) (fun z6 h => ?_)
      refine nm_w (tr_ws g ad bd) h (fun w7 h => ?_)
      refine wa_iconst fx (1 : Int32) dX2_takesPerhaps_36 (by decide) ?_
      exact fn_z (tr_ws g ad bd) fx hf (by decide) (sn1 h) (sn2 h) dX2_takesPerhaps_37
def f_X2_takesPerhaps_7_5  (st : StT × StT) (a3 : Int32) (a4 : Int32) : Option (Int32 × (StT × StT)) := Option.bind (f_X2_isWord 7 st.1) fun z1 => if z1 = 0 then (some ((1 : Int32), st)) else (Option.bind (f_X2_step st.1) fun z2 => nm (z2, st.2) fun w3 => Option.bind (f_X2_isNumber w3.1 a4) fun z4 => if z4 = 0 then (some ((0 : Int32), w3)) else (ck a3 8 (nm (w3.1, (setA w3.2 5 (upd (w3.2.1 5) (Int32.toNatClampNeg a3) (w3.1.2.2 5)))) fun w5 => Option.bind (f_X2_step w5.1) fun z6 => nm (z6, w5.2) fun w7 => some ((1 : Int32), w7))))
set_option maxHeartbeats 4000000 in
set_option maxRecDepth 100000 in
theorem c_X2_takesPerhaps_7_5 {g : GT} {l : Launch} {ad bd : Nat → Nat}   {st : StT × StT} {a3 : Int32} {a4 : Int32} {r : Int32 × (StT × StT)} (h : f_X2_takesPerhaps_7_5 st a3 a4 = some r) : Ct g l yX2_takesPerhaps (wd yX2_takesPerhaps cX2_takesPerhaps 5 (some .boolean)) (rmh 7) [.ref (ad 0), .ref (g.2.2.2.2.2.1 7), .ref (bd 6), .int a3, .int a4] (tr_ws g ad bd st) (tr_ws g ad bd r.2) (some (.int r.1)) := by
  refine Ct.of (lv := [(0, .ref (ad 0)), (1, .ref (g.2.2.2.2.2.1 7)), (2, .ref (bd 6)), (3, .int a3), (4, .int a4)]) (by decide) (Nat.le_of_ble_eq_true rfl) rfl (fun K hl fx hf => ?_)
  subst hl
  rw [f_X2_takesPerhaps_7_5] at h
  refine wa_aload_n fx 0 dX2_takesPerhaps_0 rfl ?_
  refine wa_aload_n fx 1 dX2_takesPerhaps_1 rfl ?_
  refine wa_V (b := ad 0) (rmc := (rmh 6)) (As := [.ref (g.2.2.2.2.2.1 7)]) (st := []) (wc := (tx_ws g ad st.1)) (wr := (rm_ws g bd st.2)) (wcz := fun _ => (tx_ws g ad st.1)) (w2 := fun _ => (tr_ws g ad bd st)) (o := fun z1 => some (.int z1)) (s2 := fun z1 => [.int z1]) (ci := 2) (q0 := 0) fx mm_X2_isWord q_27_8 dX2_takesPerhaps_2 h (fun _ hz => c_X2_isWord hz) rfl rfl (rm_ok (by decide) (by decide)) ⟨Nat.zero_le _, Nat.zero_le _⟩ rfl List.perm_append_comm (fun _ => List.perm_append_comm) rfl (Nat.le_of_ble_eq_true rfl) (fun _ => rfl) (fun z1 h => ?_)
  refine wa_if_ne fx 10 dX2_takesPerhaps_5 (by decide) h (fun h => ?_) (fun h => ?_)
  · refine wa_iconst fx (1 : Int32) dX2_takesPerhaps_8 (by decide) ?_
    exact fn_z (tr_ws g ad bd) fx hf (by decide) (sn1 h) (sn2 h) dX2_takesPerhaps_9
  · refine wa_aload_n fx 0 dX2_takesPerhaps_10 rfl ?_
    refine wa_V (b := ad 0) (rmc := (rmh 2)) (As := []) (st := []) (wc := (tx_ws g ad st.1)) (wr := (rm_ws g bd st.2)) (wcz := fun z2 => tx_ws g ad z2) (w2 := fun z2 => tr_ws g ad bd (z2, st.2)) (o := fun _ => none) (s2 := fun z2 => []) (ci := 2) (q0 := 0) fx mm_X2_step q_26_8 dX2_takesPerhaps_11 h (fun _ hz => c_X2_step hz) rfl rfl (rm_ok (by decide) (by decide)) ⟨Nat.zero_le _, Nat.zero_le _⟩ rfl List.perm_append_comm (fun _ => List.perm_append_comm) rfl (Nat.le_of_ble_eq_true rfl) (fun _ => rfl) (fun z2 h => ?_)
    refine nm_w (tr_ws g ad bd) h (fun w3 h => ?_)
    refine wa_aload_n fx 0 dX2_takesPerhaps_14 rfl ?_
    refine wa_iload fx 4 dX2_takesPerhaps_15 rfl ?_
    refine wa_V (b := ad 0) (rmc := (rmh 1)) (As := [.int a4]) (st := []) (wc := (tx_ws g ad w3.1)) (wr := (rm_ws g bd w3.2)) (wcz := fun _ => (tx_ws g ad w3.1)) (w2 := fun _ => (tr_ws g ad bd w3)) (o := fun z4 => some (.int z4)) (s2 := fun z4 => [.int z4]) (ci := 2) (q0 := 0) fx mm_X2_isNumber q_30_2 dX2_takesPerhaps_17 h (fun _ hz => c_X2_isNumber hz) rfl rfl (rm_ok (by decide) (by decide)) ⟨Nat.zero_le _, Nat.zero_le _⟩ rfl List.perm_append_comm (fun _ => List.perm_append_comm) rfl (Nat.le_of_ble_eq_true rfl) (fun _ => rfl) (fun z4 h => ?_)
    refine wa_if_ne fx 25 dX2_takesPerhaps_20 (by decide) h (fun h => ?_) (fun h => ?_)
    · refine wa_iconst fx (0 : Int32) dX2_takesPerhaps_23 (by decide) ?_
      exact fn_z (tr_ws g ad bd) fx hf (by decide) (sn1 h) (sn2 h) dX2_takesPerhaps_24
    · refine wa_aload_n fx 2 dX2_takesPerhaps_25 rfl ?_
      refine wa_iload_n fx 3 dX2_takesPerhaps_26 rfl ?_
      refine wa_aload_n fx 0 dX2_takesPerhaps_27 rfl ?_
      refine wa_get (v := .int (w3.1.2.2 5)) fx wm_X2 0 rfl rfl 6 (by decide) q_26_13 rfl rfl dX2_takesPerhaps_28 ?_
      refine wa_iast (tr_ws g ad bd) (f := w3.2.1 5) fx 8 rfl dX2_takesPerhaps_31 h rfl (fun w5 h => ?_)
      refine wa_aload_n fx 0 dX2_takesPerhaps_32 rfl ?_
      refine wa_V (b := ad 0) (rmc := (rmh 2)) (As := []) (st := []) (wc := (tx_ws g ad w5.1)) (wr := (rm_ws g bd w5.2)) (wcz := fun z6 => tx_ws g ad z6) (w2 := fun z6 => tr_ws g ad bd (z6, w5.2)) (o := fun _ => none) (s2 := fun z6 => []) (ci := 2) (q0 := 0) fx mm_X2_step q_26_8 dX2_takesPerhaps_33 h (fun _ hz => c_X2_step hz) rfl rfl (rm_ok (by decide) (by decide)) ⟨Nat.zero_le _, Nat.zero_le _⟩ rfl List.perm_append_comm (fun _ => List.perm_append_comm) rfl (Nat.le_of_ble_eq_true rfl) (fun _ => rfl) (fun z6 h => ?_)
      refine nm_w (tr_ws g ad bd) h (fun w7 h => ?_)
      refine wa_iconst fx (1 : Int32) dX2_takesPerhaps_36 (by decide) ?_
      exact fn_z (tr_ws g ad bd) fx hf (by decide) (sn1 h) (sn2 h) dX2_takesPerhaps_37
def f_X2_takesPerhaps_10_0  (st : StT × StT) (a3 : Int32) (a4 : Int32) : Option (Int32 × (StT × StT)) := Option.bind (f_X2_isWord 10 st.1) fun z1 => if z1 = 0 then (some ((1 : Int32), st)) else (Option.bind (f_X2_step st.1) fun z2 => nm (z2, st.2) fun w3 => Option.bind (f_X2_isNumber w3.1 a4) fun z4 => if z4 = 0 then (some ((0 : Int32), w3)) else (ck a3 8 (nm (w3.1, (setA w3.2 0 (upd (w3.2.1 0) (Int32.toNatClampNeg a3) (w3.1.2.2 5)))) fun w5 => Option.bind (f_X2_step w5.1) fun z6 => nm (z6, w5.2) fun w7 => some ((1 : Int32), w7))))
set_option maxHeartbeats 4000000 in
set_option maxRecDepth 100000 in
theorem c_X2_takesPerhaps_10_0 {g : GT} {l : Launch} {ad bd : Nat → Nat}   {st : StT × StT} {a3 : Int32} {a4 : Int32} {r : Int32 × (StT × StT)} (h : f_X2_takesPerhaps_10_0 st a3 a4 = some r) : Ct g l yX2_takesPerhaps (wd yX2_takesPerhaps cX2_takesPerhaps 5 (some .boolean)) (rmh 7) [.ref (ad 0), .ref (g.2.2.2.2.2.1 10), .ref (bd 1), .int a3, .int a4] (tr_ws g ad bd st) (tr_ws g ad bd r.2) (some (.int r.1)) := by
  refine Ct.of (lv := [(0, .ref (ad 0)), (1, .ref (g.2.2.2.2.2.1 10)), (2, .ref (bd 1)), (3, .int a3), (4, .int a4)]) (by decide) (Nat.le_of_ble_eq_true rfl) rfl (fun K hl fx hf => ?_)
  subst hl
  rw [f_X2_takesPerhaps_10_0] at h
  refine wa_aload_n fx 0 dX2_takesPerhaps_0 rfl ?_
  refine wa_aload_n fx 1 dX2_takesPerhaps_1 rfl ?_
  refine wa_V (b := ad 0) (rmc := (rmh 6)) (As := [.ref (g.2.2.2.2.2.1 10)]) (st := []) (wc := (tx_ws g ad st.1)) (wr := (rm_ws g bd st.2)) (wcz := fun _ => (tx_ws g ad st.1)) (w2 := fun _ => (tr_ws g ad bd st)) (o := fun z1 => some (.int z1)) (s2 := fun z1 => [.int z1]) (ci := 2) (q0 := 0) fx mm_X2_isWord q_27_8 dX2_takesPerhaps_2 h (fun _ hz => c_X2_isWord hz) rfl rfl (rm_ok (by decide) (by decide)) ⟨Nat.zero_le _, Nat.zero_le _⟩ rfl List.perm_append_comm (fun _ => List.perm_append_comm) rfl (Nat.le_of_ble_eq_true rfl) (fun _ => rfl) (fun z1 h => ?_)
  refine wa_if_ne fx 10 dX2_takesPerhaps_5 (by decide) h (fun h => ?_) (fun h => ?_)
  · refine wa_iconst fx (1 : Int32) dX2_takesPerhaps_8 (by decide) ?_
    exact fn_z (tr_ws g ad bd) fx hf (by decide) (sn1 h) (sn2 h) dX2_takesPerhaps_9
  · refine wa_aload_n fx 0 dX2_takesPerhaps_10 rfl ?_
    refine wa_V (b := ad 0) (rmc := (rmh 2)) (As := []) (st := []) (wc := (tx_ws g ad st.1)) (wr := (rm_ws g bd st.2)) (wcz := fun z2 => tx_ws g ad z2) (w2 := fun z2 => tr_ws g ad bd (z2, st.2)) (o := fun _ => none) (s2 := fun z2 => []) (ci := 2) (q0 := 0) fx mm_X2_step q_26_8 dX2_takesPerhaps_11 h (fun _ hz => c_X2_step hz) rfl rfl (rm_ok (by decide) (by decide)) ⟨Nat.zero_le _, Nat.zero_le _⟩ rfl List.perm_append_comm (fun _ => List.perm_append_comm) rfl (Nat.le_of_ble_eq_true rfl) (fun _ => rfl) (fun z2 h => ?_)
    refine nm_w (tr_ws g ad bd) h (fun w3 h => ?_)
    refine wa_aload_n fx 0 dX2_takesPerhaps_14 rfl ?_
    refine wa_iload fx 4 dX2_takesPerhaps_15 rfl ?_
    refine wa_V (b := ad 0) (rmc := (rmh 1)) (As := [.int a4]) (st := []) (wc := (tx_ws g ad w3.1)) (wr := (rm_ws g bd w3.2)) (wcz := fun _ => (tx_ws g ad w3.1)) (w2 := fun _ => (tr_ws g ad bd w3)) (o := fun z4 => some (.int z4)) (s2 := fun z4 => [.int z4]) (ci := 2) (q0 := 0) fx mm_X2_isNumber q_30_2 dX2_takesPerhaps_17 h (fun _ hz => c_X2_isNumber hz) rfl rfl (rm_ok (by decide) (by decide)) ⟨Nat.zero_le _, Nat.zero_le _⟩ rfl List.perm_append_comm (fun _ => List.perm_append_comm) rfl (Nat.le_of_ble_eq_true rfl) (fun _ => rfl) (fun z4 h => ?_)
    refine wa_if_ne fx 25 dX2_takesPerhaps_20 (by decide) h (fun h => ?_) (fun h => ?_)
    · refine wa_iconst fx (0 : Int32) dX2_takesPerhaps_23 (by decide) ?_
      exact fn_z (tr_ws g ad bd) fx hf (by decide) (sn1 h) (sn2 h) dX2_takesPerhaps_24
    · refine wa_aload_n fx 2 dX2_takesPerhaps_25 rfl ?_
      refine wa_iload_n fx 3 dX2_takesPerhaps_26 rfl ?_
      refine wa_aload_n fx 0 dX2_takesPerhaps_27 rfl ?_
      refine wa_get (v := .int (w3.1.2.2 5)) fx wm_X2 0 rfl rfl 6 (by decide) q_26_13 rfl rfl dX2_takesPerhaps_28 ?_
      refine wa_iast (tr_ws g ad bd) (f := w3.2.1 0) fx 3 rfl dX2_takesPerhaps_31 h rfl (fun w5 h => ?_)
      refine wa_aload_n fx 0 dX2_takesPerhaps_32 rfl ?_
      refine wa_V (b := ad 0) (rmc := (rmh 2)) (As := []) (st := []) (wc := (tx_ws g ad w5.1)) (wr := (rm_ws g bd w5.2)) (wcz := fun z6 => tx_ws g ad z6) (w2 := fun z6 => tr_ws g ad bd (z6, w5.2)) (o := fun _ => none) (s2 := fun z6 => []) (ci := 2) (q0 := 0) fx mm_X2_step q_26_8 dX2_takesPerhaps_33 h (fun _ hz => c_X2_step hz) rfl rfl (rm_ok (by decide) (by decide)) ⟨Nat.zero_le _, Nat.zero_le _⟩ rfl List.perm_append_comm (fun _ => List.perm_append_comm) rfl (Nat.le_of_ble_eq_true rfl) (fun _ => rfl) (fun z6 h => ?_)
      refine nm_w (tr_ws g ad bd) h (fun w7 h => ?_)
      refine wa_iconst fx (1 : Int32) dX2_takesPerhaps_36 (by decide) ?_
      exact fn_z (tr_ws g ad bd) fx hf (by decide) (sn1 h) (sn2 h) dX2_takesPerhaps_37
def f_X2_takesPerhaps_11_1  (st : StT × StT) (a3 : Int32) (a4 : Int32) : Option (Int32 × (StT × StT)) := Option.bind (f_X2_isWord 11 st.1) fun z1 => if z1 = 0 then (some ((1 : Int32), st)) else (Option.bind (f_X2_step st.1) fun z2 => nm (z2, st.2) fun w3 => Option.bind (f_X2_isNumber w3.1 a4) fun z4 => if z4 = 0 then (some ((0 : Int32), w3)) else (ck a3 8 (nm (w3.1, (setA w3.2 1 (upd (w3.2.1 1) (Int32.toNatClampNeg a3) (w3.1.2.2 5)))) fun w5 => Option.bind (f_X2_step w5.1) fun z6 => nm (z6, w5.2) fun w7 => some ((1 : Int32), w7))))
set_option maxHeartbeats 4000000 in
set_option maxRecDepth 100000 in
theorem c_X2_takesPerhaps_11_1 {g : GT} {l : Launch} {ad bd : Nat → Nat}   {st : StT × StT} {a3 : Int32} {a4 : Int32} {r : Int32 × (StT × StT)} (h : f_X2_takesPerhaps_11_1 st a3 a4 = some r) : Ct g l yX2_takesPerhaps (wd yX2_takesPerhaps cX2_takesPerhaps 5 (some .boolean)) (rmh 7) [.ref (ad 0), .ref (g.2.2.2.2.2.1 11), .ref (bd 2), .int a3, .int a4] (tr_ws g ad bd st) (tr_ws g ad bd r.2) (some (.int r.1)) := by
  refine Ct.of (lv := [(0, .ref (ad 0)), (1, .ref (g.2.2.2.2.2.1 11)), (2, .ref (bd 2)), (3, .int a3), (4, .int a4)]) (by decide) (Nat.le_of_ble_eq_true rfl) rfl (fun K hl fx hf => ?_)
  subst hl
  rw [f_X2_takesPerhaps_11_1] at h
  refine wa_aload_n fx 0 dX2_takesPerhaps_0 rfl ?_
  refine wa_aload_n fx 1 dX2_takesPerhaps_1 rfl ?_
  refine wa_V (b := ad 0) (rmc := (rmh 6)) (As := [.ref (g.2.2.2.2.2.1 11)]) (st := []) (wc := (tx_ws g ad st.1)) (wr := (rm_ws g bd st.2)) (wcz := fun _ => (tx_ws g ad st.1)) (w2 := fun _ => (tr_ws g ad bd st)) (o := fun z1 => some (.int z1)) (s2 := fun z1 => [.int z1]) (ci := 2) (q0 := 0) fx mm_X2_isWord q_27_8 dX2_takesPerhaps_2 h (fun _ hz => c_X2_isWord hz) rfl rfl (rm_ok (by decide) (by decide)) ⟨Nat.zero_le _, Nat.zero_le _⟩ rfl List.perm_append_comm (fun _ => List.perm_append_comm) rfl (Nat.le_of_ble_eq_true rfl) (fun _ => rfl) (fun z1 h => ?_)
  refine wa_if_ne fx 10 dX2_takesPerhaps_5 (by decide) h (fun h => ?_) (fun h => ?_)
  · refine wa_iconst fx (1 : Int32) dX2_takesPerhaps_8 (by decide) ?_
    exact fn_z (tr_ws g ad bd) fx hf (by decide) (sn1 h) (sn2 h) dX2_takesPerhaps_9
  · refine wa_aload_n fx 0 dX2_takesPerhaps_10 rfl ?_
    refine wa_V (b := ad 0) (rmc := (rmh 2)) (As := []) (st := []) (wc := (tx_ws g ad st.1)) (wr := (rm_ws g bd st.2)) (wcz := fun z2 => tx_ws g ad z2) (w2 := fun z2 => tr_ws g ad bd (z2, st.2)) (o := fun _ => none) (s2 := fun z2 => []) (ci := 2) (q0 := 0) fx mm_X2_step q_26_8 dX2_takesPerhaps_11 h (fun _ hz => c_X2_step hz) rfl rfl (rm_ok (by decide) (by decide)) ⟨Nat.zero_le _, Nat.zero_le _⟩ rfl List.perm_append_comm (fun _ => List.perm_append_comm) rfl (Nat.le_of_ble_eq_true rfl) (fun _ => rfl) (fun z2 h => ?_)
    refine nm_w (tr_ws g ad bd) h (fun w3 h => ?_)
    refine wa_aload_n fx 0 dX2_takesPerhaps_14 rfl ?_
    refine wa_iload fx 4 dX2_takesPerhaps_15 rfl ?_
    refine wa_V (b := ad 0) (rmc := (rmh 1)) (As := [.int a4]) (st := []) (wc := (tx_ws g ad w3.1)) (wr := (rm_ws g bd w3.2)) (wcz := fun _ => (tx_ws g ad w3.1)) (w2 := fun _ => (tr_ws g ad bd w3)) (o := fun z4 => some (.int z4)) (s2 := fun z4 => [.int z4]) (ci := 2) (q0 := 0) fx mm_X2_isNumber q_30_2 dX2_takesPerhaps_17 h (fun _ hz => c_X2_isNumber hz) rfl rfl (rm_ok (by decide) (by decide)) ⟨Nat.zero_le _, Nat.zero_le _⟩ rfl List.perm_append_comm (fun _ => List.perm_append_comm) rfl (Nat.le_of_ble_eq_true rfl) (fun _ => rfl) (fun z4 h => ?_)
    refine wa_if_ne fx 25 dX2_takesPerhaps_20 (by decide) h (fun h => ?_) (fun h => ?_)
    · refine wa_iconst fx (0 : Int32) dX2_takesPerhaps_23 (by decide) ?_
      exact fn_z (tr_ws g ad bd) fx hf (by decide) (sn1 h) (sn2 h) dX2_takesPerhaps_24
    · refine wa_aload_n fx 2 dX2_takesPerhaps_25 rfl ?_
      refine wa_iload_n fx 3 dX2_takesPerhaps_26 rfl ?_
      refine wa_aload_n fx 0 dX2_takesPerhaps_27 rfl ?_
      refine wa_get (v := .int (w3.1.2.2 5)) fx wm_X2 0 rfl rfl 6 (by decide) q_26_13 rfl rfl dX2_takesPerhaps_28 ?_
      refine wa_iast (tr_ws g ad bd) (f := w3.2.1 1) fx 4 rfl dX2_takesPerhaps_31 h rfl (fun w5 h => ?_)
      refine wa_aload_n fx 0 dX2_takesPerhaps_32 rfl ?_
      refine wa_V (b := ad 0) (rmc := (rmh 2)) (As := []) (st := []) (wc := (tx_ws g ad w5.1)) (wr := (rm_ws g bd w5.2)) (wcz := fun z6 => tx_ws g ad z6) (w2 := fun z6 => tr_ws g ad bd (z6, w5.2)) (o := fun _ => none) (s2 := fun z6 => []) (ci := 2) (q0 := 0) fx mm_X2_step q_26_8 dX2_takesPerhaps_33 h (fun _ hz => c_X2_step hz) rfl rfl (rm_ok (by decide) (by decide)) ⟨Nat.zero_le _, Nat.zero_le _⟩ rfl List.perm_append_comm (fun _ => List.perm_append_comm) rfl (Nat.le_of_ble_eq_true rfl) (fun _ => rfl) (fun z6 h => ?_)
      refine nm_w (tr_ws g ad bd) h (fun w7 h => ?_)
      refine wa_iconst fx (1 : Int32) dX2_takesPerhaps_36 (by decide) ?_
      exact fn_z (tr_ws g ad bd) fx hf (by decide) (sn1 h) (sn2 h) dX2_takesPerhaps_37
def f_X2_takesPerson  (st : StT × StT) (a2 : Int32) : Option (Int32 × (StT × StT)) := if (st.2.2.2 0) < (8 : Int32) then (Option.bind (f_X0_enter st.2 a2) fun z1 => nm (st.1, z1.2) fun w2 => nm z1.1 fun x3 => Option.bind (f_X2_step w2.1) fun z4 => nm (z4, w2.2) fun w5 => Option.bind (f_X2_takesPerhaps_6_4 w5 x3 (99 : Int32)) fun z6 => if z6.1 = 0 then (some ((0 : Int32), z6.2)) else (Option.bind (f_X2_takesPerhaps_7_5 z6.2 x3 (7 : Int32)) fun z7 => if z7.1 = 0 then (some ((0 : Int32), z7.2)) else (Option.bind (f_X2_isWord 8 z7.2.1) fun z8 => if z8 = 0 then (some ((1 : Int32), z7.2)) else (Option.bind (f_X2_step z7.2.1) fun z9 => nm (z9, z7.2.2) fun w10 => Option.bind (f_X2_isNumber w10.1 (7 : Int32)) fun z11 => if z11 = 0 then (some ((0 : Int32), w10)) else (ck (w10.1.2.2 5) 8 (if (w10.2.1 2 (Int32.toNatClampNeg (w10.1.2.2 5))) = (-1 : Int32) then (Option.bind (f_X0_seat w10.2 x3 (w10.1.2.2 5)) fun z12 => nm (w10.1, z12) fun w13 => Option.bind (f_X2_step w13.1) fun z14 => nm (z14, w13.2) fun w15 => some ((1 : Int32), w15)) else (some ((0 : Int32), w10)))))))) else (some ((0 : Int32), st))
set_option maxHeartbeats 4000000 in
set_option maxRecDepth 100000 in
theorem c_X2_takesPerson {g : GT} {l : Launch} {ad bd : Nat → Nat}   {st : StT × StT} {a2 : Int32} {r : Int32 × (StT × StT)} (h : f_X2_takesPerson st a2 = some r) : Ct g l yX2_takesPerson (wd yX2_takesPerson cX2_takesPerson 4 (some .boolean)) (rmh 8) [.ref (ad 0), .ref (bd 0), .int a2] (tr_ws g ad bd st) (tr_ws g ad bd r.2) (some (.int r.1)) := by
  refine Ct.of (lv := [(0, .ref (ad 0)), (1, .ref (bd 0)), (2, .int a2)]) (by decide) (Nat.le_of_ble_eq_true rfl) rfl (fun K hl fx hf => ?_)
  subst hl
  rw [f_X2_takesPerson] at h
  refine wa_aload_n fx 1 dX2_takesPerson_0 rfl ?_
  refine wa_get (v := .int (st.2.2.2 0)) fx wm_X0 2 rfl rfl 9 (by decide) q_29_17 rfl rfl dX2_takesPerson_1 ?_
  refine wa_bipush fx (8 : Int32) dX2_takesPerson_4 (by decide) ?_
  refine wa_icmp_lt fx 11 dX2_takesPerson_6 (by decide) h (fun h => ?_) (fun h => ?_)
  · refine wa_aload_n fx 1 dX2_takesPerson_11 rfl ?_
    refine wa_iload_n fx 2 dX2_takesPerson_12 rfl ?_
    refine wa_V (b := bd 0) (rmc := (rmh 1)) (As := [.int a2]) (st := []) (wc := (rm_ws g bd st.2)) (wr := (tx_ws g ad st.1)) (wcz := fun z1 => rm_ws g bd z1.2) (w2 := fun z1 => tr_ws g ad bd (st.1, z1.2)) (o := fun z1 => some (.int z1.1)) (s2 := fun z1 => [.int z1.1]) (ci := 0) (q0 := 0) fx mm_X0_enter q_29_21 dX2_takesPerson_13 h (fun _ hz => c_X0_enter hz) rfl rfl (rm_ok (by decide) (by decide)) ⟨Nat.zero_le _, Nat.zero_le _⟩ rfl (List.Perm.refl _) (fun _ => List.Perm.refl _) rfl (Nat.le_of_ble_eq_true rfl) (fun _ => rfl) (fun z1 h => ?_)
    refine nm_w (tr_ws g ad bd) h (fun w2 h => ?_)
    refine wa_istore_nN fx (fun x3 => [(3, .int x3), (0, .ref (ad 0)), (1, .ref (bd 0)), (2, .int a2)]) dX2_takesPerson_16 rfl (by decide) (fun _ => rfl) h (fun x3 h => ?_)
    refine wa_aload_n fx 1 dX2_takesPerson_17 rfl ?_
    refine wa_V (b := ad 0) (rmc := (rmh 2)) (As := []) (st := []) (wc := (tx_ws g ad w2.1)) (wr := (rm_ws g bd w2.2)) (wcz := fun z4 => tx_ws g ad z4) (w2 := fun z4 => tr_ws g ad bd (z4, w2.2)) (o := fun _ => none) (s2 := fun z4 => []) (ci := 2) (q0 := 0) fx mm_X2_step q_26_8 dX2_takesPerson_18 h (fun _ hz => c_X2_step hz) rfl rfl (rm_ok (by decide) (by decide)) ⟨Nat.zero_le _, Nat.zero_le _⟩ rfl List.perm_append_comm (fun _ => List.perm_append_comm) rfl (Nat.le_of_ble_eq_true rfl) (fun _ => rfl) (fun z4 h => ?_)
    refine nm_w (tr_ws g ad bd) h (fun w5 h => ?_)
    refine wa_aload_n fx 1 dX2_takesPerson_21 rfl ?_
    refine wa_ldcs fx 6 (by decide) rfl dX2_takesPerson_22 ?_
    refine wa_aload_n fx 2 dX2_takesPerson_24 rfl ?_
    refine wa_get (v := .ref (bd 5)) fx wm_X0 2 rfl rfl 4 (by decide) q_29_18 rfl rfl dX2_takesPerson_25 ?_
    refine wa_iload_n fx 0 dX2_takesPerson_28 rfl ?_
    refine wa_bipush fx (99 : Int32) dX2_takesPerson_29 (by decide) ?_
    refine wa_V (b := ad 0) (rmc := (rmh 7)) (As := [.ref (g.2.2.2.2.2.1 6), .ref (bd 5), .int x3, .int (99 : Int32)]) (st := []) (wc := (tr_ws g ad bd w5)) (wr := ([] : va_W)) (wcz := fun z6 => tr_ws g ad bd z6.2) (w2 := fun z6 => tr_ws g ad bd z6.2) (o := fun z6 => some (.int z6.1)) (s2 := fun z6 => [.int z6.1]) (ci := 2) (q0 := 0) fx mm_X2_takesPerhaps q_29_22 dX2_takesPerson_31 h (fun _ hz => c_X2_takesPerhaps_6_4 hz) rfl rfl (rm_ok (by decide) (by decide)) ⟨Nat.zero_le _, Nat.zero_le _⟩ rfl (List.Perm.refl _) (fun _ => List.Perm.refl _) rfl (Nat.le_of_ble_eq_true rfl) (fun _ => rfl) (fun z6 h => ?_)
    refine wa_if_ne fx 39 dX2_takesPerson_34 (by decide) h (fun h => ?_) (fun h => ?_)
    · refine wa_iconst fx (0 : Int32) dX2_takesPerson_37 (by decide) ?_
      exact fn_z (tr_ws g ad bd) fx hf (by decide) (sn1 h) (sn2 h) dX2_takesPerson_38
    · refine wa_aload_n fx 1 dX2_takesPerson_39 rfl ?_
      refine wa_ldcs fx 7 (by decide) rfl dX2_takesPerson_40 ?_
      refine wa_aload_n fx 2 dX2_takesPerson_42 rfl ?_
      refine wa_get (v := .ref (bd 6)) fx wm_X0 2 rfl rfl 5 (by decide) q_29_19 rfl rfl dX2_takesPerson_43 ?_
      refine wa_iload_n fx 0 dX2_takesPerson_46 rfl ?_
      refine wa_bipush fx (7 : Int32) dX2_takesPerson_47 (by decide) ?_
      refine wa_V (b := ad 0) (rmc := (rmh 7)) (As := [.ref (g.2.2.2.2.2.1 7), .ref (bd 6), .int x3, .int (7 : Int32)]) (st := []) (wc := (tr_ws g ad bd z6.2)) (wr := ([] : va_W)) (wcz := fun z7 => tr_ws g ad bd z7.2) (w2 := fun z7 => tr_ws g ad bd z7.2) (o := fun z7 => some (.int z7.1)) (s2 := fun z7 => [.int z7.1]) (ci := 2) (q0 := 0) fx mm_X2_takesPerhaps q_29_22 dX2_takesPerson_49 h (fun _ hz => c_X2_takesPerhaps_7_5 hz) rfl rfl (rm_ok (by decide) (by decide)) ⟨Nat.zero_le _, Nat.zero_le _⟩ rfl (List.Perm.refl _) (fun _ => List.Perm.refl _) rfl (Nat.le_of_ble_eq_true rfl) (fun _ => rfl) (fun z7 h => ?_)
      refine wa_if_ne fx 57 dX2_takesPerson_52 (by decide) h (fun h => ?_) (fun h => ?_)
      · refine wa_iconst fx (0 : Int32) dX2_takesPerson_55 (by decide) ?_
        exact fn_z (tr_ws g ad bd) fx hf (by decide) (sn1 h) (sn2 h) dX2_takesPerson_56
      · refine wa_aload_n fx 1 dX2_takesPerson_57 rfl ?_
        refine wa_ldcs fx 8 (by decide) rfl dX2_takesPerson_58 ?_
        refine wa_V (b := ad 0) (rmc := (rmh 6)) (As := [.ref (g.2.2.2.2.2.1 8)]) (st := []) (wc := (tx_ws g ad z7.2.1)) (wr := (rm_ws g bd z7.2.2)) (wcz := fun _ => (tx_ws g ad z7.2.1)) (w2 := fun _ => (tr_ws g ad bd z7.2)) (o := fun z8 => some (.int z8)) (s2 := fun z8 => [.int z8]) (ci := 2) (q0 := 0) fx mm_X2_isWord q_27_8 dX2_takesPerson_60 h (fun _ hz => c_X2_isWord hz) rfl rfl (rm_ok (by decide) (by decide)) ⟨Nat.zero_le _, Nat.zero_le _⟩ rfl List.perm_append_comm (fun _ => List.perm_append_comm) rfl (Nat.le_of_ble_eq_true rfl) (fun _ => rfl) (fun z8 h => ?_)
        refine wa_if_eq fx 107 dX2_takesPerson_63 (by decide) h (fun h => ?_) (fun h => ?_)
        · refine wa_iconst fx (1 : Int32) dX2_takesPerson_107 (by decide) ?_
          exact fn_z (tr_ws g ad bd) fx hf (by decide) (sn1 h) (sn2 h) dX2_takesPerson_108
        · refine wa_aload_n fx 1 dX2_takesPerson_66 rfl ?_
          refine wa_V (b := ad 0) (rmc := (rmh 2)) (As := []) (st := []) (wc := (tx_ws g ad z7.2.1)) (wr := (rm_ws g bd z7.2.2)) (wcz := fun z9 => tx_ws g ad z9) (w2 := fun z9 => tr_ws g ad bd (z9, z7.2.2)) (o := fun _ => none) (s2 := fun z9 => []) (ci := 2) (q0 := 0) fx mm_X2_step q_26_8 dX2_takesPerson_67 h (fun _ hz => c_X2_step hz) rfl rfl (rm_ok (by decide) (by decide)) ⟨Nat.zero_le _, Nat.zero_le _⟩ rfl List.perm_append_comm (fun _ => List.perm_append_comm) rfl (Nat.le_of_ble_eq_true rfl) (fun _ => rfl) (fun z9 h => ?_)
          refine nm_w (tr_ws g ad bd) h (fun w10 h => ?_)
          refine wa_aload_n fx 1 dX2_takesPerson_70 rfl ?_
          refine wa_bipush fx (7 : Int32) dX2_takesPerson_71 (by decide) ?_
          refine wa_V (b := ad 0) (rmc := (rmh 1)) (As := [.int (7 : Int32)]) (st := []) (wc := (tx_ws g ad w10.1)) (wr := (rm_ws g bd w10.2)) (wcz := fun _ => (tx_ws g ad w10.1)) (w2 := fun _ => (tr_ws g ad bd w10)) (o := fun z11 => some (.int z11)) (s2 := fun z11 => [.int z11]) (ci := 2) (q0 := 0) fx mm_X2_isNumber q_30_2 dX2_takesPerson_73 h (fun _ hz => c_X2_isNumber hz) rfl rfl (rm_ok (by decide) (by decide)) ⟨Nat.zero_le _, Nat.zero_le _⟩ rfl List.perm_append_comm (fun _ => List.perm_append_comm) rfl (Nat.le_of_ble_eq_true rfl) (fun _ => rfl) (fun z11 h => ?_)
          refine wa_if_eq fx 92 dX2_takesPerson_76 (by decide) h (fun h => ?_) (fun h => ?_)
          · refine wa_iconst fx (0 : Int32) dX2_takesPerson_92 (by decide) ?_
            exact fn_z (tr_ws g ad bd) fx hf (by decide) (sn1 h) (sn2 h) dX2_takesPerson_93
          · refine wa_aload_n fx 2 dX2_takesPerson_79 rfl ?_
            refine wa_get (v := .ref (bd 3)) fx wm_X0 2 rfl rfl 2 (by decide) q_29_20 rfl rfl dX2_takesPerson_80 ?_
            refine wa_aload_n fx 1 dX2_takesPerson_83 rfl ?_
            refine wa_get (v := .int (w10.1.2.2 5)) fx wm_X2 0 rfl rfl 6 (by decide) q_26_13 rfl rfl dX2_takesPerson_84 ?_
            refine wa_iald (f := w10.2.1 2) fx 5 rfl dX2_takesPerson_87 h (fun h => ?_)
            refine wa_iconst fx (-1 : Int32) dX2_takesPerson_88 (by decide) ?_
            refine wa_icmp_eq fx 94 dX2_takesPerson_89 (by decide) h (fun h => ?_) (fun h => ?_)
            · refine wa_aload_n fx 2 dX2_takesPerson_94 rfl ?_
              refine wa_iload_n fx 0 dX2_takesPerson_95 rfl ?_
              refine wa_aload_n fx 1 dX2_takesPerson_96 rfl ?_
              refine wa_get (v := .int (w10.1.2.2 5)) fx wm_X2 0 rfl rfl 6 (by decide) q_26_13 rfl rfl dX2_takesPerson_97 ?_
              refine wa_V (b := bd 0) (rmc := (rmh 1)) (As := [.int x3, .int (w10.1.2.2 5)]) (st := []) (wc := (rm_ws g bd w10.2)) (wr := (tx_ws g ad w10.1)) (wcz := fun z12 => rm_ws g bd z12) (w2 := fun z12 => tr_ws g ad bd (w10.1, z12)) (o := fun _ => none) (s2 := fun z12 => []) (ci := 0) (q0 := 0) fx mm_X0_seat q_30_6 dX2_takesPerson_100 h (fun _ hz => c_X0_seat hz) rfl rfl (rm_ok (by decide) (by decide)) ⟨Nat.zero_le _, Nat.zero_le _⟩ rfl (List.Perm.refl _) (fun _ => List.Perm.refl _) rfl (Nat.le_of_ble_eq_true rfl) (fun _ => rfl) (fun z12 h => ?_)
              refine nm_w (tr_ws g ad bd) h (fun w13 h => ?_)
              refine wa_aload_n fx 1 dX2_takesPerson_103 rfl ?_
              refine wa_V (b := ad 0) (rmc := (rmh 2)) (As := []) (st := []) (wc := (tx_ws g ad w13.1)) (wr := (rm_ws g bd w13.2)) (wcz := fun z14 => tx_ws g ad z14) (w2 := fun z14 => tr_ws g ad bd (z14, w13.2)) (o := fun _ => none) (s2 := fun z14 => []) (ci := 2) (q0 := 0) fx mm_X2_step q_26_8 dX2_takesPerson_104 h (fun _ hz => c_X2_step hz) rfl rfl (rm_ok (by decide) (by decide)) ⟨Nat.zero_le _, Nat.zero_le _⟩ rfl List.perm_append_comm (fun _ => List.perm_append_comm) rfl (Nat.le_of_ble_eq_true rfl) (fun _ => rfl) (fun z14 h => ?_)
              refine nm_w (tr_ws g ad bd) h (fun w15 h => ?_)
              refine wa_iconst fx (1 : Int32) dX2_takesPerson_107 (by decide) ?_
              exact fn_z (tr_ws g ad bd) fx hf (by decide) (sn1 h) (sn2 h) dX2_takesPerson_108
            · refine wa_iconst fx (0 : Int32) dX2_takesPerson_92 (by decide) ?_
              exact fn_z (tr_ws g ad bd) fx hf (by decide) (sn1 h) (sn2 h) dX2_takesPerson_93
  · refine wa_iconst fx (0 : Int32) dX2_takesPerson_9 (by decide) ?_
    exact fn_z (tr_ws g ad bd) fx hf (by decide) (sn1 h) (sn2 h) dX2_takesPerson_10
def f_X2_takesChair  (st : StT × StT) : Option (Int32 × (StT × StT)) := Option.bind (f_X2_step st.1) fun z1 => nm (z1, st.2) fun w2 => Option.bind (f_X2_isNumber w2.1 (7 : Int32)) fun z3 => if z3 = 0 then (some ((0 : Int32), w2)) else (nm (w2.1.2.2 5) fun x4 => Option.bind (f_X2_step w2.1) fun z5 => nm (z5, w2.2) fun w6 => Option.bind (f_X2_takesPerhaps_10_0 w6 x4 (20 : Int32)) fun z7 => if z7.1 = 0 then (some ((0 : Int32), z7.2)) else (Option.bind (f_X2_takesPerhaps_11_1 z7.2 x4 (9 : Int32)) fun z8 => if z8.1 = 0 then (some ((0 : Int32), z8.2)) else (some ((1 : Int32), z8.2))))
set_option maxHeartbeats 4000000 in
set_option maxRecDepth 100000 in
theorem c_X2_takesChair {g : GT} {l : Launch} {ad bd : Nat → Nat}   {st : StT × StT} {r : Int32 × (StT × StT)} (h : f_X2_takesChair st = some r) : Ct g l yX2_takesChair (wd yX2_takesChair cX2_takesChair 3 (some .boolean)) (rmh 8) [.ref (ad 0), .ref (bd 0)] (tr_ws g ad bd st) (tr_ws g ad bd r.2) (some (.int r.1)) := by
  refine Ct.of (lv := [(0, .ref (ad 0)), (1, .ref (bd 0))]) (by decide) (Nat.le_of_ble_eq_true rfl) rfl (fun K hl fx hf => ?_)
  subst hl
  rw [f_X2_takesChair] at h
  refine wa_aload_n fx 0 dX2_takesChair_0 rfl ?_
  refine wa_V (b := ad 0) (rmc := (rmh 2)) (As := []) (st := []) (wc := (tx_ws g ad st.1)) (wr := (rm_ws g bd st.2)) (wcz := fun z1 => tx_ws g ad z1) (w2 := fun z1 => tr_ws g ad bd (z1, st.2)) (o := fun _ => none) (s2 := fun z1 => []) (ci := 2) (q0 := 0) fx mm_X2_step q_26_8 dX2_takesChair_1 h (fun _ hz => c_X2_step hz) rfl rfl (rm_ok (by decide) (by decide)) ⟨Nat.zero_le _, Nat.zero_le _⟩ rfl List.perm_append_comm (fun _ => List.perm_append_comm) rfl (Nat.le_of_ble_eq_true rfl) (fun _ => rfl) (fun z1 h => ?_)
  refine nm_w (tr_ws g ad bd) h (fun w2 h => ?_)
  refine wa_aload_n fx 0 dX2_takesChair_4 rfl ?_
  refine wa_bipush fx (7 : Int32) dX2_takesChair_5 (by decide) ?_
  refine wa_V (b := ad 0) (rmc := (rmh 1)) (As := [.int (7 : Int32)]) (st := []) (wc := (tx_ws g ad w2.1)) (wr := (rm_ws g bd w2.2)) (wcz := fun _ => (tx_ws g ad w2.1)) (w2 := fun _ => (tr_ws g ad bd w2)) (o := fun z3 => some (.int z3)) (s2 := fun z3 => [.int z3]) (ci := 2) (q0 := 0) fx mm_X2_isNumber q_30_2 dX2_takesChair_7 h (fun _ hz => c_X2_isNumber hz) rfl rfl (rm_ok (by decide) (by decide)) ⟨Nat.zero_le _, Nat.zero_le _⟩ rfl List.perm_append_comm (fun _ => List.perm_append_comm) rfl (Nat.le_of_ble_eq_true rfl) (fun _ => rfl) (fun z3 h => ?_)
  refine wa_if_ne fx 15 dX2_takesChair_10 (by decide) h (fun h => ?_) (fun h => ?_)
  · refine wa_iconst fx (0 : Int32) dX2_takesChair_13 (by decide) ?_
    exact fn_z (tr_ws g ad bd) fx hf (by decide) (sn1 h) (sn2 h) dX2_takesChair_14
  · refine wa_aload_n fx 0 dX2_takesChair_15 rfl ?_
    refine wa_get (v := .int (w2.1.2.2 5)) fx wm_X2 0 rfl rfl 6 (by decide) q_26_13 rfl rfl dX2_takesChair_16 ?_
    refine wa_istore_nN fx (fun x4 => [(2, .int x4), (0, .ref (ad 0)), (1, .ref (bd 0))]) dX2_takesChair_19 rfl (by decide) (fun _ => rfl) h (fun x4 h => ?_)
    refine wa_aload_n fx 1 dX2_takesChair_20 rfl ?_
    refine wa_V (b := ad 0) (rmc := (rmh 2)) (As := []) (st := []) (wc := (tx_ws g ad w2.1)) (wr := (rm_ws g bd w2.2)) (wcz := fun z5 => tx_ws g ad z5) (w2 := fun z5 => tr_ws g ad bd (z5, w2.2)) (o := fun _ => none) (s2 := fun z5 => []) (ci := 2) (q0 := 0) fx mm_X2_step q_26_8 dX2_takesChair_21 h (fun _ hz => c_X2_step hz) rfl rfl (rm_ok (by decide) (by decide)) ⟨Nat.zero_le _, Nat.zero_le _⟩ rfl List.perm_append_comm (fun _ => List.perm_append_comm) rfl (Nat.le_of_ble_eq_true rfl) (fun _ => rfl) (fun z5 h => ?_)
    refine nm_w (tr_ws g ad bd) h (fun w6 h => ?_)
    refine wa_aload_n fx 1 dX2_takesChair_24 rfl ?_
    refine wa_ldcs fx 10 (by decide) rfl dX2_takesChair_25 ?_
    refine wa_aload_n fx 2 dX2_takesChair_27 rfl ?_
    refine wa_get (v := .ref (bd 1)) fx wm_X0 2 rfl rfl 0 (by decide) q_30_11 rfl rfl dX2_takesChair_28 ?_
    refine wa_iload_n fx 0 dX2_takesChair_31 rfl ?_
    refine wa_bipush fx (20 : Int32) dX2_takesChair_32 (by decide) ?_
    refine wa_V (b := ad 0) (rmc := (rmh 7)) (As := [.ref (g.2.2.2.2.2.1 10), .ref (bd 1), .int x4, .int (20 : Int32)]) (st := []) (wc := (tr_ws g ad bd w6)) (wr := ([] : va_W)) (wcz := fun z7 => tr_ws g ad bd z7.2) (w2 := fun z7 => tr_ws g ad bd z7.2) (o := fun z7 => some (.int z7.1)) (s2 := fun z7 => [.int z7.1]) (ci := 2) (q0 := 0) fx mm_X2_takesPerhaps q_29_22 dX2_takesChair_34 h (fun _ hz => c_X2_takesPerhaps_10_0 hz) rfl rfl (rm_ok (by decide) (by decide)) ⟨Nat.zero_le _, Nat.zero_le _⟩ rfl (List.Perm.refl _) (fun _ => List.Perm.refl _) rfl (Nat.le_of_ble_eq_true rfl) (fun _ => rfl) (fun z7 h => ?_)
    refine wa_if_eq fx 60 dX2_takesChair_37 (by decide) h (fun h => ?_) (fun h => ?_)
    · refine wa_iconst fx (0 : Int32) dX2_takesChair_60 (by decide) ?_
      exact fn_z (tr_ws g ad bd) fx hf (by decide) (sn1 h) (sn2 h) dX2_takesChair_61
    · refine wa_aload_n fx 1 dX2_takesChair_40 rfl ?_
      refine wa_ldcs fx 11 (by decide) rfl dX2_takesChair_41 ?_
      refine wa_aload_n fx 2 dX2_takesChair_43 rfl ?_
      refine wa_get (v := .ref (bd 2)) fx wm_X0 2 rfl rfl 1 (by decide) q_30_12 rfl rfl dX2_takesChair_44 ?_
      refine wa_iload_n fx 0 dX2_takesChair_47 rfl ?_
      refine wa_bipush fx (9 : Int32) dX2_takesChair_48 (by decide) ?_
      refine wa_V (b := ad 0) (rmc := (rmh 7)) (As := [.ref (g.2.2.2.2.2.1 11), .ref (bd 2), .int x4, .int (9 : Int32)]) (st := []) (wc := (tr_ws g ad bd z7.2)) (wr := ([] : va_W)) (wcz := fun z8 => tr_ws g ad bd z8.2) (w2 := fun z8 => tr_ws g ad bd z8.2) (o := fun z8 => some (.int z8.1)) (s2 := fun z8 => [.int z8.1]) (ci := 2) (q0 := 0) fx mm_X2_takesPerhaps q_29_22 dX2_takesChair_50 h (fun _ hz => c_X2_takesPerhaps_11_1 hz) rfl rfl (rm_ok (by decide) (by decide)) ⟨Nat.zero_le _, Nat.zero_le _⟩ rfl (List.Perm.refl _) (fun _ => List.Perm.refl _) rfl (Nat.le_of_ble_eq_true rfl) (fun _ => rfl) (fun z8 h => ?_)
      refine wa_if_eq fx 60 dX2_takesChair_53 (by decide) h (fun h => ?_) (fun h => ?_)
      · refine wa_iconst fx (0 : Int32) dX2_takesChair_60 (by decide) ?_
        exact fn_z (tr_ws g ad bd) fx hf (by decide) (sn1 h) (sn2 h) dX2_takesChair_61
      · refine wa_iconst fx (1 : Int32) dX2_takesChair_56 (by decide) ?_
        refine wa_goto fx 61 dX2_takesChair_57 (by decide) ?_
        exact fn_z (tr_ws g ad bd) fx hf (by decide) (sn1 h) (sn2 h) dX2_takesChair_61
def f_X2_takesTwo  (st : StT × StT) (a2 : Int32) : Option (Int32 × (StT × StT)) := Option.bind (f_X2_step st.1) fun z1 => nm (z1, st.2) fun w2 => Option.bind (f_X2_isNumber w2.1 ((w2.2.2.2 0) - (1 : Int32))) fun z3 => if z3 = 0 then (some ((0 : Int32), w2)) else (nm (w2.1.2.2 5) fun x4 => Option.bind (f_X2_step w2.1) fun z5 => nm (z5, w2.2) fun w6 => Option.bind (f_X2_isNumber w6.1 ((w6.2.2.2 0) - (1 : Int32))) fun z7 => if z7 = 0 then (some ((0 : Int32), w6)) else (if (w6.1.2.2 5) = x4 then (some ((0 : Int32), w6)) else (Option.bind (f_X0_putAtOdds w6.2 x4 (w6.1.2.2 5) a2) fun z8 => nm (w6.1, z8) fun w9 => Option.bind (f_X2_step w9.1) fun z10 => nm (z10, w9.2) fun w11 => some ((1 : Int32), w11))))
set_option maxHeartbeats 4000000 in
set_option maxRecDepth 100000 in
theorem c_X2_takesTwo {g : GT} {l : Launch} {ad bd : Nat → Nat}   {st : StT × StT} {a2 : Int32} {r : Int32 × (StT × StT)} (h : f_X2_takesTwo st a2 = some r) : Ct g l yX2_takesTwo (wd yX2_takesTwo cX2_takesTwo 4 (some .boolean)) (rmh 3) [.ref (ad 0), .ref (bd 0), .int a2] (tr_ws g ad bd st) (tr_ws g ad bd r.2) (some (.int r.1)) := by
  refine Ct.of (lv := [(0, .ref (ad 0)), (1, .ref (bd 0)), (2, .int a2)]) (by decide) (Nat.le_of_ble_eq_true rfl) rfl (fun K hl fx hf => ?_)
  subst hl
  rw [f_X2_takesTwo] at h
  refine wa_aload_n fx 0 dX2_takesTwo_0 rfl ?_
  refine wa_V (b := ad 0) (rmc := (rmh 2)) (As := []) (st := []) (wc := (tx_ws g ad st.1)) (wr := (rm_ws g bd st.2)) (wcz := fun z1 => tx_ws g ad z1) (w2 := fun z1 => tr_ws g ad bd (z1, st.2)) (o := fun _ => none) (s2 := fun z1 => []) (ci := 2) (q0 := 0) fx mm_X2_step q_26_8 dX2_takesTwo_1 h (fun _ hz => c_X2_step hz) rfl rfl (rm_ok (by decide) (by decide)) ⟨Nat.zero_le _, Nat.zero_le _⟩ rfl List.perm_append_comm (fun _ => List.perm_append_comm) rfl (Nat.le_of_ble_eq_true rfl) (fun _ => rfl) (fun z1 h => ?_)
  refine nm_w (tr_ws g ad bd) h (fun w2 h => ?_)
  refine wa_aload_n fx 0 dX2_takesTwo_4 rfl ?_
  refine wa_aload_n fx 1 dX2_takesTwo_5 rfl ?_
  refine wa_get (v := .int (w2.2.2.2 0)) fx wm_X0 2 rfl rfl 9 (by decide) q_29_17 rfl rfl dX2_takesTwo_6 ?_
  refine wa_iconst fx (1 : Int32) dX2_takesTwo_9 (by decide) ?_
  refine wa_isub fx dX2_takesTwo_10 ?_
  refine wa_V (b := ad 0) (rmc := (rmh 1)) (As := [.int ((w2.2.2.2 0) - (1 : Int32))]) (st := []) (wc := (tx_ws g ad w2.1)) (wr := (rm_ws g bd w2.2)) (wcz := fun _ => (tx_ws g ad w2.1)) (w2 := fun _ => (tr_ws g ad bd w2)) (o := fun z3 => some (.int z3)) (s2 := fun z3 => [.int z3]) (ci := 2) (q0 := 0) fx mm_X2_isNumber q_30_2 dX2_takesTwo_11 h (fun _ hz => c_X2_isNumber hz) rfl rfl (rm_ok (by decide) (by decide)) ⟨Nat.zero_le _, Nat.zero_le _⟩ rfl List.perm_append_comm (fun _ => List.perm_append_comm) rfl (Nat.le_of_ble_eq_true rfl) (fun _ => rfl) (fun z3 h => ?_)
  refine wa_if_ne fx 19 dX2_takesTwo_14 (by decide) h (fun h => ?_) (fun h => ?_)
  · refine wa_iconst fx (0 : Int32) dX2_takesTwo_17 (by decide) ?_
    exact fn_z (tr_ws g ad bd) fx hf (by decide) (sn1 h) (sn2 h) dX2_takesTwo_18
  · refine wa_aload_n fx 0 dX2_takesTwo_19 rfl ?_
    refine wa_get (v := .int (w2.1.2.2 5)) fx wm_X2 0 rfl rfl 6 (by decide) q_26_13 rfl rfl dX2_takesTwo_20 ?_
    refine wa_istore_nN fx (fun x4 => [(3, .int x4), (0, .ref (ad 0)), (1, .ref (bd 0)), (2, .int a2)]) dX2_takesTwo_23 rfl (by decide) (fun _ => rfl) h (fun x4 h => ?_)
    refine wa_aload_n fx 1 dX2_takesTwo_24 rfl ?_
    refine wa_V (b := ad 0) (rmc := (rmh 2)) (As := []) (st := []) (wc := (tx_ws g ad w2.1)) (wr := (rm_ws g bd w2.2)) (wcz := fun z5 => tx_ws g ad z5) (w2 := fun z5 => tr_ws g ad bd (z5, w2.2)) (o := fun _ => none) (s2 := fun z5 => []) (ci := 2) (q0 := 0) fx mm_X2_step q_26_8 dX2_takesTwo_25 h (fun _ hz => c_X2_step hz) rfl rfl (rm_ok (by decide) (by decide)) ⟨Nat.zero_le _, Nat.zero_le _⟩ rfl List.perm_append_comm (fun _ => List.perm_append_comm) rfl (Nat.le_of_ble_eq_true rfl) (fun _ => rfl) (fun z5 h => ?_)
    refine nm_w (tr_ws g ad bd) h (fun w6 h => ?_)
    refine wa_aload_n fx 1 dX2_takesTwo_28 rfl ?_
    refine wa_aload_n fx 2 dX2_takesTwo_29 rfl ?_
    refine wa_get (v := .int (w6.2.2.2 0)) fx wm_X0 2 rfl rfl 9 (by decide) q_29_17 rfl rfl dX2_takesTwo_30 ?_
    refine wa_iconst fx (1 : Int32) dX2_takesTwo_33 (by decide) ?_
    refine wa_isub fx dX2_takesTwo_34 ?_
    refine wa_V (b := ad 0) (rmc := (rmh 1)) (As := [.int ((w6.2.2.2 0) - (1 : Int32))]) (st := []) (wc := (tx_ws g ad w6.1)) (wr := (rm_ws g bd w6.2)) (wcz := fun _ => (tx_ws g ad w6.1)) (w2 := fun _ => (tr_ws g ad bd w6)) (o := fun z7 => some (.int z7)) (s2 := fun z7 => [.int z7]) (ci := 2) (q0 := 0) fx mm_X2_isNumber q_30_2 dX2_takesTwo_35 h (fun _ hz => c_X2_isNumber hz) rfl rfl (rm_ok (by decide) (by decide)) ⟨Nat.zero_le _, Nat.zero_le _⟩ rfl List.perm_append_comm (fun _ => List.perm_append_comm) rfl (Nat.le_of_ble_eq_true rfl) (fun _ => rfl) (fun z7 h => ?_)
    refine wa_if_eq fx 49 dX2_takesTwo_38 (by decide) h (fun h => ?_) (fun h => ?_)
    · refine wa_iconst fx (0 : Int32) dX2_takesTwo_49 (by decide) ?_
      exact fn_z (tr_ws g ad bd) fx hf (by decide) (sn1 h) (sn2 h) dX2_takesTwo_50
    · refine wa_aload_n fx 1 dX2_takesTwo_41 rfl ?_
      refine wa_get (v := .int (w6.1.2.2 5)) fx wm_X2 0 rfl rfl 6 (by decide) q_26_13 rfl rfl dX2_takesTwo_42 ?_
      refine wa_iload_n fx 0 dX2_takesTwo_45 rfl ?_
      refine wa_icmp_ne fx 51 dX2_takesTwo_46 (by decide) h (fun h => ?_) (fun h => ?_)
      · refine wa_iconst fx (0 : Int32) dX2_takesTwo_49 (by decide) ?_
        exact fn_z (tr_ws g ad bd) fx hf (by decide) (sn1 h) (sn2 h) dX2_takesTwo_50
      · refine wa_aload_n fx 2 dX2_takesTwo_51 rfl ?_
        refine wa_iload_n fx 0 dX2_takesTwo_52 rfl ?_
        refine wa_aload_n fx 1 dX2_takesTwo_53 rfl ?_
        refine wa_get (v := .int (w6.1.2.2 5)) fx wm_X2 0 rfl rfl 6 (by decide) q_26_13 rfl rfl dX2_takesTwo_54 ?_
        refine wa_iload_n fx 3 dX2_takesTwo_57 rfl ?_
        refine wa_V (b := bd 0) (rmc := (rmh 1)) (As := [.int x4, .int (w6.1.2.2 5), .int a2]) (st := []) (wc := (rm_ws g bd w6.2)) (wr := (tx_ws g ad w6.1)) (wcz := fun z8 => rm_ws g bd z8) (w2 := fun z8 => tr_ws g ad bd (w6.1, z8)) (o := fun _ => none) (s2 := fun z8 => []) (ci := 0) (q0 := 0) fx mm_X0_putAtOdds q_30_17 dX2_takesTwo_58 h (fun _ hz => c_X0_putAtOdds hz) rfl rfl (rm_ok (by decide) (by decide)) ⟨Nat.zero_le _, Nat.zero_le _⟩ rfl (List.Perm.refl _) (fun _ => List.Perm.refl _) rfl (Nat.le_of_ble_eq_true rfl) (fun _ => rfl) (fun z8 h => ?_)
        refine nm_w (tr_ws g ad bd) h (fun w9 h => ?_)
        refine wa_aload_n fx 1 dX2_takesTwo_61 rfl ?_
        refine wa_V (b := ad 0) (rmc := (rmh 2)) (As := []) (st := []) (wc := (tx_ws g ad w9.1)) (wr := (rm_ws g bd w9.2)) (wcz := fun z10 => tx_ws g ad z10) (w2 := fun z10 => tr_ws g ad bd (z10, w9.2)) (o := fun _ => none) (s2 := fun z10 => []) (ci := 2) (q0 := 0) fx mm_X2_step q_26_8 dX2_takesTwo_62 h (fun _ hz => c_X2_step hz) rfl rfl (rm_ok (by decide) (by decide)) ⟨Nat.zero_le _, Nat.zero_le _⟩ rfl List.perm_append_comm (fun _ => List.perm_append_comm) rfl (Nat.le_of_ble_eq_true rfl) (fun _ => rfl) (fun z10 h => ?_)
        refine nm_w (tr_ws g ad bd) h (fun w11 h => ?_)
        refine wa_iconst fx (1 : Int32) dX2_takesTwo_65 (by decide) ?_
        exact fn_z (tr_ws g ad bd) fx hf (by decide) (sn1 h) (sn2 h) dX2_takesTwo_66
def f_X2_takesItem  (st : StT × StT) : Option (Int32 × (StT × StT)) := Option.bind (f_X2_kindNamed st.1) fun z1 => Option.bind (f_X3_isKind z1) fun z2 => if z2 = 0 then (Option.bind (f_X2_isWord 9 st.1) fun z3 => if z3 = 0 then (Option.bind (f_X2_isWord 12 st.1) fun z4 => if z4 = 0 then (Option.bind (f_X2_isWord 13 st.1) fun z5 => if z5 = 0 then (some ((0 : Int32), st)) else (Option.bind (f_X2_takesTwo st (0 : Int32)) fun z6 => if z6.1 = 0 then (some ((0 : Int32), z6.2)) else (some ((1 : Int32), z6.2)))) else (Option.bind (f_X2_takesTwo st (1 : Int32)) fun z7 => ckb z7.1 (some (z7.1, z7.2)))) else (Option.bind (f_X2_takesChair st) fun z8 => ckb z8.1 (some (z8.1, z8.2)))) else (Option.bind (f_X2_takesPerson st z1) fun z9 => ckb z9.1 (some (z9.1, z9.2)))
set_option maxHeartbeats 4000000 in
set_option maxRecDepth 100000 in
theorem c_X2_takesItem {g : GT} {l : Launch} {ad bd : Nat → Nat}   {st : StT × StT} {r : Int32 × (StT × StT)} (h : f_X2_takesItem st = some r) : Ct g l yX2_takesItem (wd yX2_takesItem cX2_takesItem 3 (some .boolean)) (rmh 9) [.ref (ad 0), .ref (bd 0)] (tr_ws g ad bd st) (tr_ws g ad bd r.2) (some (.int r.1)) := by
  refine Ct.of (lv := [(0, .ref (ad 0)), (1, .ref (bd 0))]) (by decide) (Nat.le_of_ble_eq_true rfl) rfl (fun K hl fx hf => ?_)
  subst hl
  rw [f_X2_takesItem] at h
  refine wa_aload_n fx 0 dX2_takesItem_0 rfl ?_
  refine wa_V (b := ad 0) (rmc := (rmh 7)) (As := []) (st := []) (wc := (tx_ws g ad st.1)) (wr := (rm_ws g bd st.2)) (wcz := fun _ => (tx_ws g ad st.1)) (w2 := fun _ => (tr_ws g ad bd st)) (o := fun z1 => some (.int z1)) (s2 := fun z1 => [.int z1]) (ci := 2) (q0 := 0) fx mm_X2_kindNamed q_27_1 dX2_takesItem_1 h (fun _ hz => c_X2_kindNamed hz) rfl rfl (rm_ok (by decide) (by decide)) ⟨Nat.zero_le _, Nat.zero_le _⟩ rfl List.perm_append_comm (fun _ => List.perm_append_comm) rfl (Nat.le_of_ble_eq_true rfl) (fun _ => rfl) (fun z1 h => ?_)
  refine wa_istore_n fx [(2, .int z1), (0, .ref (ad 0)), (1, .ref (bd 0))] dX2_takesItem_4 rfl (by decide) rfl ?_
  refine wa_iload_n fx 0 dX2_takesItem_5 rfl ?_
  refine wa_SN (rmc := (rmh 2)) (As := [.int z1]) (st := []) (wc := (no_ws ())) (wr := (tr_ws g ad bd st)) (wcz := fun _ => (no_ws ())) (w2 := fun _ => (tr_ws g ad bd st)) (o := fun z2 => some (.int z2)) (s2 := fun z2 => [.int z2]) fx mm_X3_isKind fx.2.2.2.2.2.2.2.2.2.1.2.2.1.2.2 dX2_takesItem_6 h (fun _ hz => c_X3_isKind hz) (rm_ok (by decide) (by decide)) ⟨Nat.zero_le _, Nat.zero_le _⟩ rfl (List.Perm.of_eq (List.append_nil _).symm) (fun _ => (List.Perm.of_eq (List.append_nil _).symm)) rfl (Nat.le_of_ble_eq_true rfl) (fun _ => rfl) (fun z2 h => ?_)
  refine wa_if_eq fx 19 dX2_takesItem_9 (by decide) h (fun h => ?_) (fun h => ?_)
  · refine wa_aload_n fx 1 dX2_takesItem_19 rfl ?_
    refine wa_ldcs fx 9 (by decide) rfl dX2_takesItem_20 ?_
    refine wa_V (b := ad 0) (rmc := (rmh 6)) (As := [.ref (g.2.2.2.2.2.1 9)]) (st := []) (wc := (tx_ws g ad st.1)) (wr := (rm_ws g bd st.2)) (wcz := fun _ => (tx_ws g ad st.1)) (w2 := fun _ => (tr_ws g ad bd st)) (o := fun z3 => some (.int z3)) (s2 := fun z3 => [.int z3]) (ci := 2) (q0 := 0) fx mm_X2_isWord q_27_8 dX2_takesItem_22 h (fun _ hz => c_X2_isWord hz) rfl rfl (rm_ok (by decide) (by decide)) ⟨Nat.zero_le _, Nat.zero_le _⟩ rfl List.perm_append_comm (fun _ => List.perm_append_comm) rfl (Nat.le_of_ble_eq_true rfl) (fun _ => rfl) (fun z3 h => ?_)
    refine wa_if_eq fx 34 dX2_takesItem_25 (by decide) h (fun h => ?_) (fun h => ?_)
    · refine wa_aload_n fx 1 dX2_takesItem_34 rfl ?_
      refine wa_ldcs fx 12 (by decide) rfl dX2_takesItem_35 ?_
      refine wa_V (b := ad 0) (rmc := (rmh 6)) (As := [.ref (g.2.2.2.2.2.1 12)]) (st := []) (wc := (tx_ws g ad st.1)) (wr := (rm_ws g bd st.2)) (wcz := fun _ => (tx_ws g ad st.1)) (w2 := fun _ => (tr_ws g ad bd st)) (o := fun z4 => some (.int z4)) (s2 := fun z4 => [.int z4]) (ci := 2) (q0 := 0) fx mm_X2_isWord q_27_8 dX2_takesItem_37 h (fun _ hz => c_X2_isWord hz) rfl rfl (rm_ok (by decide) (by decide)) ⟨Nat.zero_le _, Nat.zero_le _⟩ rfl List.perm_append_comm (fun _ => List.perm_append_comm) rfl (Nat.le_of_ble_eq_true rfl) (fun _ => rfl) (fun z4 h => ?_)
      refine wa_if_eq fx 50 dX2_takesItem_40 (by decide) h (fun h => ?_) (fun h => ?_)
      · refine wa_aload_n fx 1 dX2_takesItem_50 rfl ?_
        refine wa_ldcs fx 13 (by decide) rfl dX2_takesItem_51 ?_
        refine wa_V (b := ad 0) (rmc := (rmh 6)) (As := [.ref (g.2.2.2.2.2.1 13)]) (st := []) (wc := (tx_ws g ad st.1)) (wr := (rm_ws g bd st.2)) (wcz := fun _ => (tx_ws g ad st.1)) (w2 := fun _ => (tr_ws g ad bd st)) (o := fun z5 => some (.int z5)) (s2 := fun z5 => [.int z5]) (ci := 2) (q0 := 0) fx mm_X2_isWord q_27_8 dX2_takesItem_53 h (fun _ hz => c_X2_isWord hz) rfl rfl (rm_ok (by decide) (by decide)) ⟨Nat.zero_le _, Nat.zero_le _⟩ rfl List.perm_append_comm (fun _ => List.perm_append_comm) rfl (Nat.le_of_ble_eq_true rfl) (fun _ => rfl) (fun z5 h => ?_)
        refine wa_if_eq fx 72 dX2_takesItem_56 (by decide) h (fun h => ?_) (fun h => ?_)
        · refine wa_iconst fx (0 : Int32) dX2_takesItem_72 (by decide) ?_
          exact fn_z (tr_ws g ad bd) fx hf (by decide) (sn1 h) (sn2 h) dX2_takesItem_73
        · refine wa_aload_n fx 1 dX2_takesItem_59 rfl ?_
          refine wa_aload_n fx 2 dX2_takesItem_60 rfl ?_
          refine wa_iconst fx (0 : Int32) dX2_takesItem_61 (by decide) ?_
          refine wa_V (b := ad 0) (rmc := (rmh 3)) (As := [.ref (bd 0), .int (0 : Int32)]) (st := []) (wc := (tr_ws g ad bd st)) (wr := ([] : va_W)) (wcz := fun z6 => tr_ws g ad bd z6.2) (w2 := fun z6 => tr_ws g ad bd z6.2) (o := fun z6 => some (.int z6.1)) (s2 := fun z6 => [.int z6.1]) (ci := 2) (q0 := 0) fx mm_X2_takesTwo q_30_13 dX2_takesItem_62 h (fun _ hz => c_X2_takesTwo hz) rfl rfl (rm_ok (by decide) (by decide)) ⟨Nat.zero_le _, Nat.zero_le _⟩ rfl (List.Perm.refl _) (fun _ => List.Perm.refl _) rfl (Nat.le_of_ble_eq_true rfl) (fun _ => rfl) (fun z6 h => ?_)
          refine wa_if_eq fx 72 dX2_takesItem_65 (by decide) h (fun h => ?_) (fun h => ?_)
          · refine wa_iconst fx (0 : Int32) dX2_takesItem_72 (by decide) ?_
            exact fn_z (tr_ws g ad bd) fx hf (by decide) (sn1 h) (sn2 h) dX2_takesItem_73
          · refine wa_iconst fx (1 : Int32) dX2_takesItem_68 (by decide) ?_
            refine wa_goto fx 73 dX2_takesItem_69 (by decide) ?_
            exact fn_z (tr_ws g ad bd) fx hf (by decide) (sn1 h) (sn2 h) dX2_takesItem_73
      · refine wa_aload_n fx 1 dX2_takesItem_43 rfl ?_
        refine wa_aload_n fx 2 dX2_takesItem_44 rfl ?_
        refine wa_iconst fx (1 : Int32) dX2_takesItem_45 (by decide) ?_
        refine wa_V (b := ad 0) (rmc := (rmh 3)) (As := [.ref (bd 0), .int (1 : Int32)]) (st := []) (wc := (tr_ws g ad bd st)) (wr := ([] : va_W)) (wcz := fun z7 => tr_ws g ad bd z7.2) (w2 := fun z7 => tr_ws g ad bd z7.2) (o := fun z7 => some (.int z7.1)) (s2 := fun z7 => [.int z7.1]) (ci := 2) (q0 := 0) fx mm_X2_takesTwo q_30_13 dX2_takesItem_46 h (fun _ hz => c_X2_takesTwo hz) rfl rfl (rm_ok (by decide) (by decide)) ⟨Nat.zero_le _, Nat.zero_le _⟩ rfl (List.Perm.refl _) (fun _ => List.Perm.refl _) rfl (Nat.le_of_ble_eq_true rfl) (fun _ => rfl) (fun z7 h => ?_)
        obtain ⟨hb, h⟩ := of_ckb h
        exact fn_z (tr_ws g ad bd) fx hf (nb_of hb) (sn1 h) (sn2 h) dX2_takesItem_49
    · refine wa_aload_n fx 1 dX2_takesItem_28 rfl ?_
      refine wa_aload_n fx 2 dX2_takesItem_29 rfl ?_
      refine wa_V (b := ad 0) (rmc := (rmh 8)) (As := [.ref (bd 0)]) (st := []) (wc := (tr_ws g ad bd st)) (wr := ([] : va_W)) (wcz := fun z8 => tr_ws g ad bd z8.2) (w2 := fun z8 => tr_ws g ad bd z8.2) (o := fun z8 => some (.int z8.1)) (s2 := fun z8 => [.int z8.1]) (ci := 2) (q0 := 0) fx mm_X2_takesChair q_30_7 dX2_takesItem_30 h (fun _ hz => c_X2_takesChair hz) rfl rfl (rm_ok (by decide) (by decide)) ⟨Nat.zero_le _, Nat.zero_le _⟩ rfl (List.Perm.refl _) (fun _ => List.Perm.refl _) rfl (Nat.le_of_ble_eq_true rfl) (fun _ => rfl) (fun z8 h => ?_)
      obtain ⟨hb, h⟩ := of_ckb h
      exact fn_z (tr_ws g ad bd) fx hf (nb_of hb) (sn1 h) (sn2 h) dX2_takesItem_33
  · refine wa_aload_n fx 1 dX2_takesItem_12 rfl ?_
    refine wa_aload_n fx 2 dX2_takesItem_13 rfl ?_
    refine wa_iload_n fx 0 dX2_takesItem_14 rfl ?_
    refine wa_V (b := ad 0) (rmc := (rmh 8)) (As := [.ref (bd 0), .int z1]) (st := []) (wc := (tr_ws g ad bd st)) (wr := ([] : va_W)) (wcz := fun z9 => tr_ws g ad bd z9.2) (w2 := fun z9 => tr_ws g ad bd z9.2) (o := fun z9 => some (.int z9.1)) (s2 := fun z9 => [.int z9.1]) (ci := 2) (q0 := 0) fx mm_X2_takesPerson q_29_13 dX2_takesItem_15 h (fun _ hz => c_X2_takesPerson hz) rfl rfl (rm_ok (by decide) (by decide)) ⟨Nat.zero_le _, Nat.zero_le _⟩ rfl (List.Perm.refl _) (fun _ => List.Perm.refl _) rfl (Nat.le_of_ble_eq_true rfl) (fun _ => rfl) (fun z9 h => ?_)
    obtain ⟨hb, h⟩ := of_ckb h
    exact fn_z (tr_ws g ad bd) fx hf (nb_of hb) (sn1 h) (sn2 h) dX2_takesItem_18
def f_X2_comesTo_l12 : Nat → (Int32) → (StT × StT) → Option (Int32 × (StT × StT))
  | 0, _, _ => none
  | n + 1, x5, w6 => if (120 : Int32) < x5 then (some ((0 : Int32), w6)) else (Option.bind (f_X2_step w6.1) fun z7 => nm (z7, w6.2) fun w8 => Option.bind (f_X2_takesItem w8) fun z9 => if z9.1 = 0 then (some ((0 : Int32), z9.2)) else (nm ((setF z9.2.1 1 ((z9.2.1.2.2 1) + (1 : Int32))), z9.2.2) fun w10 => if (w10.1.2.2 2) = (3 : Int32) then (nm (x5 + (1 : Int32)) fun x11 => (f_X2_comesTo_l12 n) x11 w10) else (if (w10.1.2.2 2) = 0 then (some ((1 : Int32), w10)) else (some ((0 : Int32), w10)))))
def f_X2_comesTo  (st : StT × StT) : Option (Int32 × (StT × StT)) := nm ((setF st.1 1 (0 : Int32)), st.2) fun w1 => nm ((setF w1.1 4 (0 : Int32)), w1.2) fun w2 => f_X2_comesTo_l12 200 (0 : Int32) w2
set_option maxHeartbeats 4000000 in
set_option maxRecDepth 100000 in
theorem c_X2_comesTo {g : GT} {l : Launch} {ad bd : Nat → Nat}   {st : StT × StT} {r : Int32 × (StT × StT)} (h : f_X2_comesTo st = some r) : Ct g l yX2_comesTo (wd yX2_comesTo cX2_comesTo 3 (some .boolean)) (rmh 10) [.ref (ad 0), .ref (bd 0)] (tr_ws g ad bd st) (tr_ws g ad bd r.2) (some (.int r.1)) := by
  refine Ct.of (lv := [(0, .ref (ad 0)), (1, .ref (bd 0))]) (by decide) (Nat.le_of_ble_eq_true rfl) rfl (fun K hl fx hf => ?_)
  subst hl
  rw [f_X2_comesTo] at h
  have B12 : ∀  (n : Nat) (x5 : Int32) (w6 : StT × StT), f_X2_comesTo_l12 n x5 w6 = some r → WA g K 3 0 0 12 [(0, .ref (ad 0)), (1, .ref (bd 0)), (2, .int x5)] [] (tr_ws g ad bd w6) := by
    intro   n
    induction n with
    | zero => intro x5 w6 h; exact absurd h (by rw [f_X2_comesTo_l12]; exact nofun)
    | succ n ih =>
      intro x5 w6 h
      rw [f_X2_comesTo_l12] at h
      refine wa_iload_n fx 2 dX2_comesTo_12 rfl ?_
      refine wa_bipush fx (120 : Int32) dX2_comesTo_13 (by decide) ?_
      refine wa_icmp_gt fx 69 dX2_comesTo_15 (by decide) h (fun h => ?_) (fun h => ?_)
      · refine wa_iconst fx (0 : Int32) dX2_comesTo_69 (by decide) ?_
        exact fn_z (tr_ws g ad bd) fx hf (by decide) (sn1 h) (sn2 h) dX2_comesTo_70
      · refine wa_aload_n fx 0 dX2_comesTo_18 rfl ?_
        refine wa_V (b := ad 0) (rmc := (rmh 2)) (As := []) (st := []) (wc := (tx_ws g ad w6.1)) (wr := (rm_ws g bd w6.2)) (wcz := fun z7 => tx_ws g ad z7) (w2 := fun z7 => tr_ws g ad bd (z7, w6.2)) (o := fun _ => none) (s2 := fun z7 => []) (ci := 2) (q0 := 0) fx mm_X2_step q_26_8 dX2_comesTo_19 h (fun _ hz => c_X2_step hz) rfl rfl (rm_ok (by decide) (by decide)) ⟨Nat.zero_le _, Nat.zero_le _⟩ rfl List.perm_append_comm (fun _ => List.perm_append_comm) rfl (Nat.le_of_ble_eq_true rfl) (fun _ => rfl) (fun z7 h => ?_)
        refine nm_w (tr_ws g ad bd) h (fun w8 h => ?_)
        refine wa_aload_n fx 0 dX2_comesTo_22 rfl ?_
        refine wa_aload_n fx 1 dX2_comesTo_23 rfl ?_
        refine wa_V (b := ad 0) (rmc := (rmh 9)) (As := [.ref (bd 0)]) (st := []) (wc := (tr_ws g ad bd w8)) (wr := ([] : va_W)) (wcz := fun z9 => tr_ws g ad bd z9.2) (w2 := fun z9 => tr_ws g ad bd z9.2) (o := fun z9 => some (.int z9.1)) (s2 := fun z9 => [.int z9.1]) (ci := 2) (q0 := 0) fx mm_X2_takesItem q_26_21 dX2_comesTo_24 h (fun _ hz => c_X2_takesItem hz) rfl rfl (rm_ok (by decide) (by decide)) ⟨Nat.zero_le _, Nat.zero_le _⟩ rfl (List.Perm.refl _) (fun _ => List.Perm.refl _) rfl (Nat.le_of_ble_eq_true rfl) (fun _ => rfl) (fun z9 h => ?_)
        refine wa_if_ne fx 32 dX2_comesTo_27 (by decide) h (fun h => ?_) (fun h => ?_)
        · refine wa_iconst fx (0 : Int32) dX2_comesTo_30 (by decide) ?_
          exact fn_z (tr_ws g ad bd) fx hf (by decide) (sn1 h) (sn2 h) dX2_comesTo_31
        · refine wa_aload_n fx 0 dX2_comesTo_32 rfl ?_
          refine wa_dup fx dX2_comesTo_33 rfl ?_
          refine wa_get (v := .int (z9.2.1.2.2 1)) fx wm_X2 0 rfl rfl 2 (by decide) q_26_5 rfl rfl dX2_comesTo_34 ?_
          refine wa_iconst fx (1 : Int32) dX2_comesTo_37 (by decide) ?_
          refine wa_iadd fx dX2_comesTo_38 ?_
          refine wa_put (tr_ws g ad bd) fx wm_X2 tyX2 tyX2_ok nmX2 0 rfl rfl 2 (by decide) q_26_5 rfl rfl rfl rfl (Nat.le_of_ble_eq_true rfl) dX2_comesTo_39 h rfl (fun w10 h => ?_)
          refine wa_aload_n fx 0 dX2_comesTo_42 rfl ?_
          refine wa_get (v := .int (w10.1.2.2 2)) fx wm_X2 0 rfl rfl 3 (by decide) q_26_7 rfl rfl dX2_comesTo_43 ?_
          refine wa_iconst fx (3 : Int32) dX2_comesTo_46 (by decide) ?_
          refine wa_icmp_eq fx 63 dX2_comesTo_47 (by decide) h (fun h => ?_) (fun h => ?_)
          · refine wa_iinc fx 2 (fun x11 => [(2, .int x11), (0, .ref (ad 0)), (1, .ref (bd 0))]) dX2_comesTo_63 rfl (by rfl) (by decide) (fun _ => rfl) h (fun x11 h => ?_)
            refine wa_goto fx 12 dX2_comesTo_66 (by decide) ?_
            refine wa_sub [1, 2, 0] rfl ?_
            exact ih x11 w10 h
          · refine wa_aload_n fx 0 dX2_comesTo_50 rfl ?_
            refine wa_get (v := .int (w10.1.2.2 2)) fx wm_X2 0 rfl rfl 3 (by decide) q_26_7 rfl rfl dX2_comesTo_51 ?_
            refine wa_if_ne fx 61 dX2_comesTo_54 (by decide) h (fun h => ?_) (fun h => ?_)
            · refine wa_iconst fx (1 : Int32) dX2_comesTo_57 (by decide) ?_
              refine wa_goto fx 62 dX2_comesTo_58 (by decide) ?_
              exact fn_z (tr_ws g ad bd) fx hf (by decide) (sn1 h) (sn2 h) dX2_comesTo_62
            · refine wa_iconst fx (0 : Int32) dX2_comesTo_61 (by decide) ?_
              exact fn_z (tr_ws g ad bd) fx hf (by decide) (sn1 h) (sn2 h) dX2_comesTo_62
  refine wa_aload_n fx 0 dX2_comesTo_0 rfl ?_
  refine wa_iconst fx (0 : Int32) dX2_comesTo_1 (by decide) ?_
  refine wa_put (tr_ws g ad bd) fx wm_X2 tyX2 tyX2_ok nmX2 0 rfl rfl 2 (by decide) q_26_5 rfl rfl rfl rfl (Nat.le_of_ble_eq_true rfl) dX2_comesTo_2 h rfl (fun w1 h => ?_)
  refine wa_aload_n fx 0 dX2_comesTo_5 rfl ?_
  refine wa_iconst fx (0 : Int32) dX2_comesTo_6 (by decide) ?_
  refine wa_put (tr_ws g ad bd) fx wm_X2 tyX2 tyX2_ok nmX2 0 rfl rfl 5 (by decide) q_26_6 rfl rfl rfl rfl (Nat.le_of_ble_eq_true rfl) dX2_comesTo_7 h rfl (fun w2 h => ?_)
  refine wa_iconst fx (0 : Int32) dX2_comesTo_10 (by decide) ?_
  refine wa_istore_n fx [(2, .int (0 : Int32)), (0, .ref (ad 0)), (1, .ref (bd 0))] dX2_comesTo_11 rfl (by decide) rfl ?_
  refine wa_sub [1, 2, 0] rfl ?_
  exact B12 200 (0 : Int32) w2 h
