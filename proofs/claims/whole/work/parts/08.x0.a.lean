def f_X0_become  (st : StT × StT) : Option ((StT × StT)) := cpk (0 : Int32) (0 : Int32) (8 : Int32) 8 8 (nm ((setA st.1 0 (va_cpy (st.2.1 0) (st.1.1 0) (Int32.toNatClampNeg (0 : Int32)) (Int32.toNatClampNeg (0 : Int32)) (Int32.toNatClampNeg (8 : Int32)))), st.2) fun w1 => cpk (0 : Int32) (0 : Int32) (8 : Int32) 8 8 (nm ((setA w1.1 1 (va_cpy (w1.2.1 1) (w1.1.1 1) (Int32.toNatClampNeg (0 : Int32)) (Int32.toNatClampNeg (0 : Int32)) (Int32.toNatClampNeg (8 : Int32)))), w1.2) fun w2 => cpk (0 : Int32) (0 : Int32) (8 : Int32) 8 8 (nm ((setA w2.1 2 (va_cpy (w2.2.1 2) (w2.1.1 2) (Int32.toNatClampNeg (0 : Int32)) (Int32.toNatClampNeg (0 : Int32)) (Int32.toNatClampNeg (8 : Int32)))), w2.2) fun w3 => cpk (0 : Int32) (0 : Int32) (8 : Int32) 8 8 (nm ((setA w3.1 3 (va_cpy (w3.2.1 3) (w3.1.1 3) (Int32.toNatClampNeg (0 : Int32)) (Int32.toNatClampNeg (0 : Int32)) (Int32.toNatClampNeg (8 : Int32)))), w3.2) fun w4 => cpk (0 : Int32) (0 : Int32) (8 : Int32) 8 8 (nm ((setA w4.1 4 (va_cpy (w4.2.1 4) (w4.1.1 4) (Int32.toNatClampNeg (0 : Int32)) (Int32.toNatClampNeg (0 : Int32)) (Int32.toNatClampNeg (8 : Int32)))), w4.2) fun w5 => cpk (0 : Int32) (0 : Int32) (8 : Int32) 8 8 (nm ((setA w5.1 5 (va_cpy (w5.2.1 5) (w5.1.1 5) (Int32.toNatClampNeg (0 : Int32)) (Int32.toNatClampNeg (0 : Int32)) (Int32.toNatClampNeg (8 : Int32)))), w5.2) fun w6 => cpk (0 : Int32) (0 : Int32) (8 : Int32) 8 8 (nm ((setA w6.1 6 (va_cpy (w6.2.1 6) (w6.1.1 6) (Int32.toNatClampNeg (0 : Int32)) (Int32.toNatClampNeg (0 : Int32)) (Int32.toNatClampNeg (8 : Int32)))), w6.2) fun w7 => cpk (0 : Int32) (0 : Int32) (8 : Int32) 8 8 (nm ((setA w7.1 7 (va_cpy (w7.2.1 7) (w7.1.1 7) (Int32.toNatClampNeg (0 : Int32)) (Int32.toNatClampNeg (0 : Int32)) (Int32.toNatClampNeg (8 : Int32)))), w7.2) fun w8 => cpk (0 : Int32) (0 : Int32) (8 : Int32) 8 8 (nm ((setA w8.1 8 (va_cpy (w8.2.1 8) (w8.1.1 8) (Int32.toNatClampNeg (0 : Int32)) (Int32.toNatClampNeg (0 : Int32)) (Int32.toNatClampNeg (8 : Int32)))), w8.2) fun w9 => nm ((setF w9.1 0 (w9.2.2.2 0)), w9.2) fun w10 => nm ((setF w10.1 1 (w10.2.2.2 1)), w10.2) fun w11 => some w11)))))))))
set_option maxHeartbeats 4000000 in
set_option maxRecDepth 100000 in
theorem c_X0_become {g : GT} {l : Launch} {ad bd : Nat → Nat}   {st : StT × StT} {r : (StT × StT)} (h : f_X0_become st = some r) : Ct g l yX0_become (wd yX0_become cX0_become 2 none) (rmh 2) [.ref (ad 0), .ref (bd 0)] (bb_ws g ad bd st) (bb_ws g ad bd r) none := by
  refine Ct.of (lv := [(0, .ref (ad 0)), (1, .ref (bd 0))]) (by decide) (Nat.le_of_ble_eq_true rfl) rfl (fun K hl fx hf => ?_)
  subst hl
  rw [f_X0_become] at h
  refine wa_aload_n fx 1 dX0_become_0 rfl ?_
  refine wa_get (v := .ref (bd 1)) fx wm_X0 10 rfl rfl 0 (by decide) q_2_11 rfl rfl dX0_become_1 ?_
  refine wa_iconst fx (0 : Int32) dX0_become_4 (by decide) ?_
  refine wa_aload_n fx 0 dX0_become_5 rfl ?_
  refine wa_get (v := .ref (ad 1)) fx wm_X0 0 rfl rfl 0 (by decide) q_2_11 rfl rfl dX0_become_6 ?_
  refine wa_iconst fx (0 : Int32) dX0_become_9 (by decide) ?_
  refine wa_bipush fx (8 : Int32) dX0_become_10 (by decide) ?_
  refine wa_copyi (bb_ws g ad bd) (f := st.2.1 0) (f2 := st.1.1 0) fx q_19_0 11 1 rfl rfl dX0_become_12 (Nat.le_of_ble_eq_true rfl) h rfl (fun w1 h => ?_)
  refine wa_aload_n fx 1 dX0_become_15 rfl ?_
  refine wa_get (v := .ref (bd 2)) fx wm_X0 10 rfl rfl 1 (by decide) q_2_12 rfl rfl dX0_become_16 ?_
  refine wa_iconst fx (0 : Int32) dX0_become_19 (by decide) ?_
  refine wa_aload_n fx 0 dX0_become_20 rfl ?_
  refine wa_get (v := .ref (ad 2)) fx wm_X0 0 rfl rfl 1 (by decide) q_2_12 rfl rfl dX0_become_21 ?_
  refine wa_iconst fx (0 : Int32) dX0_become_24 (by decide) ?_
  refine wa_bipush fx (8 : Int32) dX0_become_25 (by decide) ?_
  refine wa_copyi (bb_ws g ad bd) (f := w1.2.1 1) (f2 := w1.1.1 1) fx q_19_0 12 2 rfl rfl dX0_become_27 (Nat.le_of_ble_eq_true rfl) h rfl (fun w2 h => ?_)
  refine wa_aload_n fx 1 dX0_become_30 rfl ?_
  refine wa_get (v := .ref (bd 3)) fx wm_X0 10 rfl rfl 2 (by decide) q_2_13 rfl rfl dX0_become_31 ?_
  refine wa_iconst fx (0 : Int32) dX0_become_34 (by decide) ?_
  refine wa_aload_n fx 0 dX0_become_35 rfl ?_
  refine wa_get (v := .ref (ad 3)) fx wm_X0 0 rfl rfl 2 (by decide) q_2_13 rfl rfl dX0_become_36 ?_
  refine wa_iconst fx (0 : Int32) dX0_become_39 (by decide) ?_
  refine wa_bipush fx (8 : Int32) dX0_become_40 (by decide) ?_
  refine wa_copyi (bb_ws g ad bd) (f := w2.2.1 2) (f2 := w2.1.1 2) fx q_19_0 13 3 rfl rfl dX0_become_42 (Nat.le_of_ble_eq_true rfl) h rfl (fun w3 h => ?_)
  refine wa_aload_n fx 1 dX0_become_45 rfl ?_
  refine wa_get (v := .ref (bd 4)) fx wm_X0 10 rfl rfl 3 (by decide) q_2_14 rfl rfl dX0_become_46 ?_
  refine wa_iconst fx (0 : Int32) dX0_become_49 (by decide) ?_
  refine wa_aload_n fx 0 dX0_become_50 rfl ?_
  refine wa_get (v := .ref (ad 4)) fx wm_X0 0 rfl rfl 3 (by decide) q_2_14 rfl rfl dX0_become_51 ?_
  refine wa_iconst fx (0 : Int32) dX0_become_54 (by decide) ?_
  refine wa_bipush fx (8 : Int32) dX0_become_55 (by decide) ?_
  refine wa_copyi (bb_ws g ad bd) (f := w3.2.1 3) (f2 := w3.1.1 3) fx q_19_0 14 4 rfl rfl dX0_become_57 (Nat.le_of_ble_eq_true rfl) h rfl (fun w4 h => ?_)
  refine wa_aload_n fx 1 dX0_become_60 rfl ?_
  refine wa_get (v := .ref (bd 5)) fx wm_X0 10 rfl rfl 4 (by decide) q_2_15 rfl rfl dX0_become_61 ?_
  refine wa_iconst fx (0 : Int32) dX0_become_64 (by decide) ?_
  refine wa_aload_n fx 0 dX0_become_65 rfl ?_
  refine wa_get (v := .ref (ad 5)) fx wm_X0 0 rfl rfl 4 (by decide) q_2_15 rfl rfl dX0_become_66 ?_
  refine wa_iconst fx (0 : Int32) dX0_become_69 (by decide) ?_
  refine wa_bipush fx (8 : Int32) dX0_become_70 (by decide) ?_
  refine wa_copyi (bb_ws g ad bd) (f := w4.2.1 4) (f2 := w4.1.1 4) fx q_19_0 15 5 rfl rfl dX0_become_72 (Nat.le_of_ble_eq_true rfl) h rfl (fun w5 h => ?_)
  refine wa_aload_n fx 1 dX0_become_75 rfl ?_
  refine wa_get (v := .ref (bd 6)) fx wm_X0 10 rfl rfl 5 (by decide) q_2_16 rfl rfl dX0_become_76 ?_
  refine wa_iconst fx (0 : Int32) dX0_become_79 (by decide) ?_
  refine wa_aload_n fx 0 dX0_become_80 rfl ?_
  refine wa_get (v := .ref (ad 6)) fx wm_X0 0 rfl rfl 5 (by decide) q_2_16 rfl rfl dX0_become_81 ?_
  refine wa_iconst fx (0 : Int32) dX0_become_84 (by decide) ?_
  refine wa_bipush fx (8 : Int32) dX0_become_85 (by decide) ?_
  refine wa_copyi (bb_ws g ad bd) (f := w5.2.1 5) (f2 := w5.1.1 5) fx q_19_0 16 6 rfl rfl dX0_become_87 (Nat.le_of_ble_eq_true rfl) h rfl (fun w6 h => ?_)
  refine wa_aload_n fx 1 dX0_become_90 rfl ?_
  refine wa_get (v := .ref (bd 7)) fx wm_X0 10 rfl rfl 6 (by decide) q_2_17 rfl rfl dX0_become_91 ?_
  refine wa_iconst fx (0 : Int32) dX0_become_94 (by decide) ?_
  refine wa_aload_n fx 0 dX0_become_95 rfl ?_
  refine wa_get (v := .ref (ad 7)) fx wm_X0 0 rfl rfl 6 (by decide) q_2_17 rfl rfl dX0_become_96 ?_
  refine wa_iconst fx (0 : Int32) dX0_become_99 (by decide) ?_
  refine wa_bipush fx (8 : Int32) dX0_become_100 (by decide) ?_
  refine wa_copyi (bb_ws g ad bd) (f := w6.2.1 6) (f2 := w6.1.1 6) fx q_19_0 17 7 rfl rfl dX0_become_102 (Nat.le_of_ble_eq_true rfl) h rfl (fun w7 h => ?_)
  refine wa_aload_n fx 1 dX0_become_105 rfl ?_
  refine wa_get (v := .ref (bd 8)) fx wm_X0 10 rfl rfl 7 (by decide) q_2_18 rfl rfl dX0_become_106 ?_
  refine wa_iconst fx (0 : Int32) dX0_become_109 (by decide) ?_
  refine wa_aload_n fx 0 dX0_become_110 rfl ?_
  refine wa_get (v := .ref (ad 8)) fx wm_X0 0 rfl rfl 7 (by decide) q_2_18 rfl rfl dX0_become_111 ?_
  refine wa_iconst fx (0 : Int32) dX0_become_114 (by decide) ?_
  refine wa_bipush fx (8 : Int32) dX0_become_115 (by decide) ?_
  refine wa_copyi (bb_ws g ad bd) (f := w7.2.1 7) (f2 := w7.1.1 7) fx q_19_0 18 8 rfl rfl dX0_become_117 (Nat.le_of_ble_eq_true rfl) h rfl (fun w8 h => ?_)
  refine wa_aload_n fx 1 dX0_become_120 rfl ?_
  refine wa_get (v := .ref (bd 9)) fx wm_X0 10 rfl rfl 8 (by decide) q_2_19 rfl rfl dX0_become_121 ?_
  refine wa_iconst fx (0 : Int32) dX0_become_124 (by decide) ?_
  refine wa_aload_n fx 0 dX0_become_125 rfl ?_
  refine wa_get (v := .ref (ad 9)) fx wm_X0 0 rfl rfl 8 (by decide) q_2_19 rfl rfl dX0_become_126 ?_
  refine wa_iconst fx (0 : Int32) dX0_become_129 (by decide) ?_
  refine wa_bipush fx (8 : Int32) dX0_become_130 (by decide) ?_
  refine wa_copyi (bb_ws g ad bd) (f := w8.2.1 8) (f2 := w8.1.1 8) fx q_19_0 19 9 rfl rfl dX0_become_132 (Nat.le_of_ble_eq_true rfl) h rfl (fun w9 h => ?_)
  refine wa_aload_n fx 0 dX0_become_135 rfl ?_
  refine wa_aload_n fx 1 dX0_become_136 rfl ?_
  refine wa_get (v := .int (w9.2.2.2 0)) fx wm_X0 10 rfl rfl 9 (by decide) q_7_5 rfl rfl dX0_become_137 ?_
  refine wa_put (bb_ws g ad bd) fx wm_X0 tyX0 tyX0_ok nmX0 0 rfl rfl 9 (by decide) q_7_5 rfl rfl rfl rfl (Nat.le_of_ble_eq_true rfl) dX0_become_140 h rfl (fun w10 h => ?_)
  refine wa_aload_n fx 0 dX0_become_143 rfl ?_
  refine wa_aload_n fx 1 dX0_become_144 rfl ?_
  refine wa_get (v := .int (w10.2.2.2 1)) fx wm_X0 10 rfl rfl 10 (by decide) q_14_1 rfl rfl dX0_become_145 ?_
  refine wa_put (bb_ws g ad bd) fx wm_X0 tyX0 tyX0_ok nmX0 0 rfl rfl 10 (by decide) q_14_1 rfl rfl rfl rfl (Nat.le_of_ble_eq_true rfl) dX0_become_148 h rfl (fun w11 h => ?_)
  exact fn_v (bb_ws g ad bd) fx hf (Option.some.inj h) dX0_become_151
def f_X0_enter  (st : StT) (a1 : Int32) : Option (Int32 × (StT)) := nm (st.2.2 0) fun x1 => nm (setF st 0 ((st.2.2 0) + (1 : Int32))) fun w2 => ck x1 8 (nm (setA w2 3 (upd (w2.1 3) (Int32.toNatClampNeg x1) a1)) fun w3 => some (x1, w3))
set_option maxHeartbeats 4000000 in
set_option maxRecDepth 100000 in
theorem c_X0_enter {g : GT} {l : Launch} {ad : Nat → Nat}   {st : StT} {a1 : Int32} {r : Int32 × (StT)} (h : f_X0_enter st a1 = some r) : Ct g l yX0_enter (wd yX0_enter cX0_enter 3 (some .int)) (rmh 1) [.ref (ad 0), .int a1] (rm_ws g ad st) (rm_ws g ad r.2) (some (.int r.1)) := by
  refine Ct.of (lv := [(0, .ref (ad 0)), (1, .int a1)]) (by decide) (Nat.le_of_ble_eq_true rfl) rfl (fun K hl fx hf => ?_)
  subst hl
  rw [f_X0_enter] at h
  refine wa_aload_n fx 0 dX0_enter_0 rfl ?_
  refine wa_get (v := .int (st.2.2 0)) fx wm_X0 0 rfl rfl 9 (by decide) q_7_5 rfl rfl dX0_enter_1 ?_
  refine wa_istore_nN fx (fun x1 => [(2, .int x1), (0, .ref (ad 0)), (1, .int a1)]) dX0_enter_4 rfl (by decide) (fun _ => rfl) h (fun x1 h => ?_)
  refine wa_aload_n fx 1 dX0_enter_5 rfl ?_
  refine wa_dup fx dX0_enter_6 rfl ?_
  refine wa_get (v := .int (st.2.2 0)) fx wm_X0 0 rfl rfl 9 (by decide) q_7_5 rfl rfl dX0_enter_7 ?_
  refine wa_iconst fx (1 : Int32) dX0_enter_10 (by decide) ?_
  refine wa_iadd fx dX0_enter_11 ?_
  refine wa_put (rm_ws g ad) fx wm_X0 tyX0 tyX0_ok nmX0 0 rfl rfl 9 (by decide) q_7_5 rfl rfl rfl rfl (Nat.le_of_ble_eq_true rfl) dX0_enter_12 h rfl (fun w2 h => ?_)
  refine wa_aload_n fx 1 dX0_enter_15 rfl ?_
  refine wa_get (v := .ref (ad 4)) fx wm_X0 0 rfl rfl 3 (by decide) q_2_14 rfl rfl dX0_enter_16 ?_
  refine wa_iload_n fx 0 dX0_enter_19 rfl ?_
  refine wa_iload_n fx 2 dX0_enter_20 rfl ?_
  refine wa_iast (rm_ws g ad) (f := w2.1 3) fx 4 rfl dX0_enter_21 h rfl (fun w3 h => ?_)
  refine wa_iload_n fx 0 dX0_enter_22 rfl ?_
  exact fn_i (rm_ws g ad) fx hf (sn1 h) (sn2 h) dX0_enter_23
def f_X0_areAtOdds (st : StT) (a1 : Int32) (a2 : Int32) : Option (Int32) := ck a1 8 (if (((st.1 6 (Int32.toNatClampNeg a1)) >>> (a2 &&& 31)) &&& (1 : Int32)) = (1 : Int32) then (some (1 : Int32)) else (some (0 : Int32)))
set_option maxHeartbeats 4000000 in
set_option maxRecDepth 100000 in
theorem c_X0_areAtOdds {g : GT} {l : Launch} {ad : Nat → Nat}   {st : StT} {a1 : Int32} {a2 : Int32} {r : Int32} (h : f_X0_areAtOdds st a1 a2 = some r) : Ct g l yX0_areAtOdds (wd yX0_areAtOdds cX0_areAtOdds 3 (some .boolean)) (rmh 1) [.ref (ad 0), .int a1, .int a2] (rm_ws g ad st) (rm_ws g ad st) (some (.int r)) := by
  refine Ct.of (lv := [(0, .ref (ad 0)), (1, .int a1), (2, .int a2)]) (by decide) (Nat.le_of_ble_eq_true rfl) rfl (fun K hl fx hf => ?_)
  subst hl
  rw [f_X0_areAtOdds] at h
  refine wa_aload_n fx 0 dX0_areAtOdds_0 rfl ?_
  refine wa_get (v := .ref (ad 7)) fx wm_X0 0 rfl rfl 6 (by decide) q_2_17 rfl rfl dX0_areAtOdds_1 ?_
  refine wa_iload_n fx 1 dX0_areAtOdds_4 rfl ?_
  refine wa_iald (f := st.1 6) fx 7 rfl dX0_areAtOdds_5 h (fun h => ?_)
  refine wa_iload_n fx 2 dX0_areAtOdds_6 rfl ?_
  refine wa_ishr fx dX0_areAtOdds_7 ?_
  refine wa_iconst fx (1 : Int32) dX0_areAtOdds_8 (by decide) ?_
  refine wa_iand fx dX0_areAtOdds_9 ?_
  refine wa_iconst fx (1 : Int32) dX0_areAtOdds_10 (by decide) ?_
  refine wa_icmp_ne fx 18 dX0_areAtOdds_11 (by decide) h (fun h => ?_) (fun h => ?_)
  · refine wa_iconst fx (1 : Int32) dX0_areAtOdds_14 (by decide) ?_
    refine wa_goto fx 19 dX0_areAtOdds_15 (by decide) ?_
    exact fn_z (rm_ws g ad) fx hf (by decide) (Option.some.inj h) rfl dX0_areAtOdds_19
  · refine wa_iconst fx (0 : Int32) dX0_areAtOdds_18 (by decide) ?_
    exact fn_z (rm_ws g ad) fx hf (by decide) (Option.some.inj h) rfl dX0_areAtOdds_19
def f_X0_putAtOdds  (st : StT) (a1 : Int32) (a2 : Int32) (a3 : Int32) : Option ((StT)) := if a3 = 0 then (ck a1 8 (ck a1 8 (nm (setA st 6 (upd (st.1 6) (Int32.toNatClampNeg a1) ((st.1 6 (Int32.toNatClampNeg a1)) &&& (((1 : Int32) <<< (a2 &&& 31)) ^^^ (-1 : Int32))))) fun w1 => ck a2 8 (ck a2 8 (nm (setA w1 6 (upd (w1.1 6) (Int32.toNatClampNeg a2) ((w1.1 6 (Int32.toNatClampNeg a2)) &&& (((1 : Int32) <<< (a1 &&& 31)) ^^^ (-1 : Int32))))) fun w2 => some w2))))) else (ck a1 8 (ck a1 8 (nm (setA st 6 (upd (st.1 6) (Int32.toNatClampNeg a1) ((st.1 6 (Int32.toNatClampNeg a1)) ||| ((1 : Int32) <<< (a2 &&& 31))))) fun w3 => ck a2 8 (ck a2 8 (nm (setA w3 6 (upd (w3.1 6) (Int32.toNatClampNeg a2) ((w3.1 6 (Int32.toNatClampNeg a2)) ||| ((1 : Int32) <<< (a1 &&& 31))))) fun w4 => some w4)))))
set_option maxHeartbeats 4000000 in
set_option maxRecDepth 100000 in
theorem c_X0_putAtOdds {g : GT} {l : Launch} {ad : Nat → Nat}   {st : StT} {a1 : Int32} {a2 : Int32} {a3 : Int32} {r : (StT)} (h : f_X0_putAtOdds st a1 a2 a3 = some r) : Ct g l yX0_putAtOdds (wd yX0_putAtOdds cX0_putAtOdds 4 none) (rmh 1) [.ref (ad 0), .int a1, .int a2, .int a3] (rm_ws g ad st) (rm_ws g ad r) none := by
  refine Ct.of (lv := [(0, .ref (ad 0)), (1, .int a1), (2, .int a2), (3, .int a3)]) (by decide) (Nat.le_of_ble_eq_true rfl) rfl (fun K hl fx hf => ?_)
  subst hl
  rw [f_X0_putAtOdds] at h
  refine wa_iload_n fx 3 dX0_putAtOdds_0 rfl ?_
  refine wa_if_eq fx 31 dX0_putAtOdds_1 (by decide) h (fun h => ?_) (fun h => ?_)
  · refine wa_aload_n fx 0 dX0_putAtOdds_31 rfl ?_
    refine wa_get (v := .ref (ad 7)) fx wm_X0 0 rfl rfl 6 (by decide) q_2_17 rfl rfl dX0_putAtOdds_32 ?_
    refine wa_iload_n fx 1 dX0_putAtOdds_35 rfl ?_
    refine wa_dup2 fx dX0_putAtOdds_36 rfl rfl ?_
    refine wa_iald (f := st.1 6) fx 7 rfl dX0_putAtOdds_37 h (fun h => ?_)
    refine wa_iconst fx (1 : Int32) dX0_putAtOdds_38 (by decide) ?_
    refine wa_iload_n fx 2 dX0_putAtOdds_39 rfl ?_
    refine wa_ishl fx dX0_putAtOdds_40 ?_
    refine wa_iconst fx (-1 : Int32) dX0_putAtOdds_41 (by decide) ?_
    refine wa_ixor fx dX0_putAtOdds_42 ?_
    refine wa_iand fx dX0_putAtOdds_43 ?_
    refine wa_iast (rm_ws g ad) (f := st.1 6) fx 7 rfl dX0_putAtOdds_44 h rfl (fun w1 h => ?_)
    refine wa_aload_n fx 0 dX0_putAtOdds_45 rfl ?_
    refine wa_get (v := .ref (ad 7)) fx wm_X0 0 rfl rfl 6 (by decide) q_2_17 rfl rfl dX0_putAtOdds_46 ?_
    refine wa_iload_n fx 2 dX0_putAtOdds_49 rfl ?_
    refine wa_dup2 fx dX0_putAtOdds_50 rfl rfl ?_
    refine wa_iald (f := w1.1 6) fx 7 rfl dX0_putAtOdds_51 h (fun h => ?_)
    refine wa_iconst fx (1 : Int32) dX0_putAtOdds_52 (by decide) ?_
    refine wa_iload_n fx 1 dX0_putAtOdds_53 rfl ?_
    refine wa_ishl fx dX0_putAtOdds_54 ?_
    refine wa_iconst fx (-1 : Int32) dX0_putAtOdds_55 (by decide) ?_
    refine wa_ixor fx dX0_putAtOdds_56 ?_
    refine wa_iand fx dX0_putAtOdds_57 ?_
    refine wa_iast (rm_ws g ad) (f := w1.1 6) fx 7 rfl dX0_putAtOdds_58 h rfl (fun w2 h => ?_)
    exact fn_v (rm_ws g ad) fx hf (Option.some.inj h) dX0_putAtOdds_59
  · refine wa_aload_n fx 0 dX0_putAtOdds_4 rfl ?_
    refine wa_get (v := .ref (ad 7)) fx wm_X0 0 rfl rfl 6 (by decide) q_2_17 rfl rfl dX0_putAtOdds_5 ?_
    refine wa_iload_n fx 1 dX0_putAtOdds_8 rfl ?_
    refine wa_dup2 fx dX0_putAtOdds_9 rfl rfl ?_
    refine wa_iald (f := st.1 6) fx 7 rfl dX0_putAtOdds_10 h (fun h => ?_)
    refine wa_iconst fx (1 : Int32) dX0_putAtOdds_11 (by decide) ?_
    refine wa_iload_n fx 2 dX0_putAtOdds_12 rfl ?_
    refine wa_ishl fx dX0_putAtOdds_13 ?_
    refine wa_ior fx dX0_putAtOdds_14 ?_
    refine wa_iast (rm_ws g ad) (f := st.1 6) fx 7 rfl dX0_putAtOdds_15 h rfl (fun w3 h => ?_)
    refine wa_aload_n fx 0 dX0_putAtOdds_16 rfl ?_
    refine wa_get (v := .ref (ad 7)) fx wm_X0 0 rfl rfl 6 (by decide) q_2_17 rfl rfl dX0_putAtOdds_17 ?_
    refine wa_iload_n fx 2 dX0_putAtOdds_20 rfl ?_
    refine wa_dup2 fx dX0_putAtOdds_21 rfl rfl ?_
    refine wa_iald (f := w3.1 6) fx 7 rfl dX0_putAtOdds_22 h (fun h => ?_)
    refine wa_iconst fx (1 : Int32) dX0_putAtOdds_23 (by decide) ?_
    refine wa_iload_n fx 1 dX0_putAtOdds_24 rfl ?_
    refine wa_ishl fx dX0_putAtOdds_25 ?_
    refine wa_ior fx dX0_putAtOdds_26 ?_
    refine wa_iast (rm_ws g ad) (f := w3.1 6) fx 7 rfl dX0_putAtOdds_27 h rfl (fun w4 h => ?_)
    refine wa_goto fx 59 dX0_putAtOdds_28 (by decide) ?_
    exact fn_v (rm_ws g ad) fx hf (Option.some.inj h) dX0_putAtOdds_59
def f_X0_pairsAtOdds_l4 (st : StT) : Nat → (Int32) → (Int32) → Option (Int32)
  | 0, _, _ => none
  | n + 1, x3, x4 => if (st.2.2 0) ≤ x4 then (some (x3 / (2 : Int32))) else (ck x4 8 (Option.bind (f_J6_bitCount_0f7a4 (st.1 6 (Int32.toNatClampNeg x4))) fun z5 => nm (x3 + z5) fun x6 => nm (x4 + (1 : Int32)) fun x7 => (f_X0_pairsAtOdds_l4 st n) x6 x7))
def f_X0_pairsAtOdds (st : StT)  : Option (Int32) := f_X0_pairsAtOdds_l4 st 200 (0 : Int32) (0 : Int32)
set_option maxHeartbeats 4000000 in
set_option maxRecDepth 100000 in
theorem c_X0_pairsAtOdds {g : GT} {l : Launch} {ad : Nat → Nat}   {st : StT}  {r : Int32} (h : f_X0_pairsAtOdds st = some r) : Ct g l yX0_pairsAtOdds (wd yX0_pairsAtOdds cX0_pairsAtOdds 3 (some .int)) (rmh 2) [.ref (ad 0)] (rm_ws g ad st) (rm_ws g ad st) (some (.int r)) := by
  refine Ct.of (lv := [(0, .ref (ad 0))]) (by decide) (Nat.le_of_ble_eq_true rfl) rfl (fun K hl fx hf => ?_)
  subst hl
  rw [f_X0_pairsAtOdds] at h
  have B4 : ∀  (n : Nat) (x3 : Int32) (x4 : Int32), f_X0_pairsAtOdds_l4 st n x3 x4 = some r → WA g K 3 0 0 4 [(0, .ref (ad 0)), (1, .int x3), (2, .int x4)] [] (rm_ws g ad st) := by
    intro   n
    induction n with
    | zero => intro x3 x4 h; exact absurd h (by rw [f_X0_pairsAtOdds_l4]; exact nofun)
    | succ n ih =>
      intro x3 x4 h
      rw [f_X0_pairsAtOdds_l4] at h
      refine wa_iload_n fx 2 dX0_pairsAtOdds_4 rfl ?_
      refine wa_aload_n fx 0 dX0_pairsAtOdds_5 rfl ?_
      refine wa_get (v := .int (st.2.2 0)) fx wm_X0 0 rfl rfl 9 (by decide) q_7_5 rfl rfl dX0_pairsAtOdds_6 ?_
      refine wa_icmp_ge fx 30 dX0_pairsAtOdds_9 (by decide) h (fun h => ?_) (fun h => ?_)
      · refine wa_iload_n fx 1 dX0_pairsAtOdds_30 rfl ?_
        refine wa_iconst fx (2 : Int32) dX0_pairsAtOdds_31 (by decide) ?_
        refine wa_idiv fx dX0_pairsAtOdds_32 (by decide) ?_
        exact fn_i (rm_ws g ad) fx hf (Option.some.inj h) rfl dX0_pairsAtOdds_33
      · refine wa_iload_n fx 1 dX0_pairsAtOdds_12 rfl ?_
        refine wa_aload_n fx 0 dX0_pairsAtOdds_13 rfl ?_
        refine wa_get (v := .ref (ad 7)) fx wm_X0 0 rfl rfl 6 (by decide) q_2_17 rfl rfl dX0_pairsAtOdds_14 ?_
        refine wa_iload_n fx 2 dX0_pairsAtOdds_17 rfl ?_
        refine wa_iald (f := st.1 6) fx 7 rfl dX0_pairsAtOdds_18 h (fun h => ?_)
        refine wa_S (rmc := (rmh 1)) (As := [.int (st.1 6 (Int32.toNatClampNeg x4))]) (st := [.int x3]) (wc := (no_ws ())) (wr := (rm_ws g ad st)) (wcz := fun _ => (no_ws ())) (w2 := fun _ => (rm_ws g ad st)) (o := fun z5 => some (.int z5)) (s2 := fun z5 => [.int z5, .int x3]) fx mm_J6_bitCount_0f7a4 q_40_5 dX0_pairsAtOdds_19 h (fun _ hz => c_J6_bitCount_0f7a4 hz) (rm_ok (by decide) (by decide)) ⟨Nat.zero_le _, Nat.zero_le _⟩ rfl (List.Perm.of_eq (List.append_nil _).symm) (fun _ => (List.Perm.of_eq (List.append_nil _).symm)) rfl (Nat.le_of_ble_eq_true rfl) (fun _ => rfl) (fun z5 h => ?_)
        refine wa_iadd fx dX0_pairsAtOdds_22 ?_
        refine wa_istore_nN fx (fun x6 => [(1, .int x6), (0, .ref (ad 0)), (2, .int x4)]) dX0_pairsAtOdds_23 rfl (by decide) (fun _ => rfl) h (fun x6 h => ?_)
        refine wa_iinc fx 2 (fun x7 => [(2, .int x7), (1, .int x6), (0, .ref (ad 0))]) dX0_pairsAtOdds_24 rfl (by rfl) (by decide) (fun _ => rfl) h (fun x7 h => ?_)
        refine wa_goto fx 4 dX0_pairsAtOdds_27 (by decide) ?_
        refine wa_sub [2, 1, 0] rfl ?_
        exact ih x6 x7 h
  refine wa_iconst fx (0 : Int32) dX0_pairsAtOdds_0 (by decide) ?_
  refine wa_istore_n fx [(1, .int (0 : Int32)), (0, .ref (ad 0))] dX0_pairsAtOdds_1 rfl (by decide) rfl ?_
  refine wa_iconst fx (0 : Int32) dX0_pairsAtOdds_2 (by decide) ?_
  refine wa_istore_n fx [(2, .int (0 : Int32)), (1, .int (0 : Int32)), (0, .ref (ad 0))] dX0_pairsAtOdds_3 rfl (by decide) rfl ?_
  refine wa_sub [2, 1, 0] rfl ?_
  exact B4 200 (0 : Int32) (0 : Int32) h
def f_X0_seat_b21 (x1 : Int32) (x2 : Int32) (w3 : StT) : Option ((StT)) := ck x1 8 (nm (setA w3 8 (upd (w3.1 8) (Int32.toNatClampNeg x1) x2)) fun w4 => if x2 < 0 then (some w4) else (ck x2 8 (nm (setA w4 2 (upd (w4.1 2) (Int32.toNatClampNeg x2) x1)) fun w5 => some w5)))
def f_X0_seat  (st : StT) (a1 : Int32) (a2 : Int32) : Option ((StT)) := ck a1 8 (if (st.1 8 (Int32.toNatClampNeg a1)) < 0 then (f_X0_seat_b21 a1 a2 st) else (ck a1 8 (ck (st.1 8 (Int32.toNatClampNeg a1)) 8 (nm (setA st 2 (upd (st.1 2) (Int32.toNatClampNeg (st.1 8 (Int32.toNatClampNeg a1))) (-1 : Int32))) fun w6 => f_X0_seat_b21 a1 a2 w6))))
set_option maxHeartbeats 4000000 in
set_option maxRecDepth 100000 in
theorem c_X0_seat {g : GT} {l : Launch} {ad : Nat → Nat}   {st : StT} {a1 : Int32} {a2 : Int32} {r : (StT)} (h : f_X0_seat st a1 a2 = some r) : Ct g l yX0_seat (wd yX0_seat cX0_seat 3 none) (rmh 1) [.ref (ad 0), .int a1, .int a2] (rm_ws g ad st) (rm_ws g ad r) none := by
  refine Ct.of (lv := [(0, .ref (ad 0)), (1, .int a1), (2, .int a2)]) (by decide) (Nat.le_of_ble_eq_true rfl) rfl (fun K hl fx hf => ?_)
  subst hl
  rw [f_X0_seat] at h
  have B21 : ∀  (x1 : Int32) (x2 : Int32) (w3 : StT), f_X0_seat_b21 x1 x2 w3 = some r → WA g K 3 0 0 21 [(0, .ref (ad 0)), (1, .int x1), (2, .int x2)] [] (rm_ws g ad w3) := by
    intro   x1 x2 w3 h
    rw [f_X0_seat_b21] at h
    refine wa_aload_n fx 0 dX0_seat_21 rfl ?_
    refine wa_get (v := .ref (ad 9)) fx wm_X0 0 rfl rfl 8 (by decide) q_2_19 rfl rfl dX0_seat_22 ?_
    refine wa_iload_n fx 1 dX0_seat_25 rfl ?_
    refine wa_iload_n fx 2 dX0_seat_26 rfl ?_
    refine wa_iast (rm_ws g ad) (f := w3.1 8) fx 9 rfl dX0_seat_27 h rfl (fun w4 h => ?_)
    refine wa_iload_n fx 2 dX0_seat_28 rfl ?_
    refine wa_if_lt fx 39 dX0_seat_29 (by decide) h (fun h => ?_) (fun h => ?_)
    · exact fn_v (rm_ws g ad) fx hf (Option.some.inj h) dX0_seat_39
    · refine wa_aload_n fx 0 dX0_seat_32 rfl ?_
      refine wa_get (v := .ref (ad 3)) fx wm_X0 0 rfl rfl 2 (by decide) q_2_13 rfl rfl dX0_seat_33 ?_
      refine wa_iload_n fx 2 dX0_seat_36 rfl ?_
      refine wa_iload_n fx 1 dX0_seat_37 rfl ?_
      refine wa_iast (rm_ws g ad) (f := w4.1 2) fx 3 rfl dX0_seat_38 h rfl (fun w5 h => ?_)
      exact fn_v (rm_ws g ad) fx hf (Option.some.inj h) dX0_seat_39
  refine wa_aload_n fx 0 dX0_seat_0 rfl ?_
  refine wa_get (v := .ref (ad 9)) fx wm_X0 0 rfl rfl 8 (by decide) q_2_19 rfl rfl dX0_seat_1 ?_
  refine wa_iload_n fx 1 dX0_seat_4 rfl ?_
  refine wa_iald (f := st.1 8) fx 9 rfl dX0_seat_5 h (fun h => ?_)
  refine wa_if_lt fx 21 dX0_seat_6 (by decide) h (fun h => ?_) (fun h => ?_)
  · refine wa_sub [0, 1, 2] rfl ?_
    exact B21 a1 a2 st h
  · refine wa_aload_n fx 0 dX0_seat_9 rfl ?_
    refine wa_get (v := .ref (ad 3)) fx wm_X0 0 rfl rfl 2 (by decide) q_2_13 rfl rfl dX0_seat_10 ?_
    refine wa_aload_n fx 0 dX0_seat_13 rfl ?_
    refine wa_get (v := .ref (ad 9)) fx wm_X0 0 rfl rfl 8 (by decide) q_2_19 rfl rfl dX0_seat_14 ?_
    refine wa_iload_n fx 1 dX0_seat_17 rfl ?_
    refine wa_iald (f := st.1 8) fx 9 rfl dX0_seat_18 h (fun h => ?_)
    refine wa_iconst fx (-1 : Int32) dX0_seat_19 (by decide) ?_
    refine wa_iast (rm_ws g ad) (f := st.1 2) fx 3 rfl dX0_seat_20 h rfl (fun w6 h => ?_)
    refine wa_sub [0, 1, 2] rfl ?_
    exact B21 a1 a2 w6 h
def f_X0_swap_b43 (x5 : Int32) (x6 : Int32) (w7 : StT) : Option ((StT)) := if x6 < 0 then (some w7) else (ck x6 8 (nm (setA w7 2 (upd (w7.1 2) (Int32.toNatClampNeg x6) x5)) fun w8 => some w8))
def f_X0_swap  (st : StT) (a1 : Int32) (a2 : Int32) : Option ((StT)) := ck a1 8 (nm (st.1 8 (Int32.toNatClampNeg a1)) fun x1 => ck a2 8 (nm (st.1 8 (Int32.toNatClampNeg a2)) fun x2 => ck a1 8 (nm (setA st 8 (upd (st.1 8) (Int32.toNatClampNeg a1) x2)) fun w3 => ck a2 8 (nm (setA w3 8 (upd (w3.1 8) (Int32.toNatClampNeg a2) x1)) fun w4 => if x2 < 0 then (f_X0_swap_b43 a2 x1 w4) else (ck x2 8 (nm (setA w4 2 (upd (w4.1 2) (Int32.toNatClampNeg x2) a1)) fun w9 => f_X0_swap_b43 a2 x1 w9))))))
set_option maxHeartbeats 4000000 in
set_option maxRecDepth 100000 in
theorem c_X0_swap {g : GT} {l : Launch} {ad : Nat → Nat}   {st : StT} {a1 : Int32} {a2 : Int32} {r : (StT)} (h : f_X0_swap st a1 a2 = some r) : Ct g l yX0_swap (wd yX0_swap cX0_swap 5 none) (rmh 1) [.ref (ad 0), .int a1, .int a2] (rm_ws g ad st) (rm_ws g ad r) none := by
  refine Ct.of (lv := [(0, .ref (ad 0)), (1, .int a1), (2, .int a2)]) (by decide) (Nat.le_of_ble_eq_true rfl) rfl (fun K hl fx hf => ?_)
  subst hl
  rw [f_X0_swap] at h
  have B43 : ∀  (x5 : Int32) (x6 : Int32) (w7 : StT), f_X0_swap_b43 x5 x6 w7 = some r → WA g K 5 0 0 43 [(0, .ref (ad 0)), (2, .int x5), (3, .int x6)] [] (rm_ws g ad w7) := by
    intro   x5 x6 w7 h
    rw [f_X0_swap_b43] at h
    refine wa_iload_n fx 2 dX0_swap_43 rfl ?_
    refine wa_if_lt fx 54 dX0_swap_44 (by decide) h (fun h => ?_) (fun h => ?_)
    · exact fn_v (rm_ws g ad) fx hf (Option.some.inj h) dX0_swap_54
    · refine wa_aload_n fx 0 dX0_swap_47 rfl ?_
      refine wa_get (v := .ref (ad 3)) fx wm_X0 0 rfl rfl 2 (by decide) q_2_13 rfl rfl dX0_swap_48 ?_
      refine wa_iload_n fx 2 dX0_swap_51 rfl ?_
      refine wa_iload_n fx 1 dX0_swap_52 rfl ?_
      refine wa_iast (rm_ws g ad) (f := w7.1 2) fx 3 rfl dX0_swap_53 h rfl (fun w8 h => ?_)
      exact fn_v (rm_ws g ad) fx hf (Option.some.inj h) dX0_swap_54
  refine wa_aload_n fx 0 dX0_swap_0 rfl ?_
  refine wa_get (v := .ref (ad 9)) fx wm_X0 0 rfl rfl 8 (by decide) q_2_19 rfl rfl dX0_swap_1 ?_
  refine wa_iload_n fx 1 dX0_swap_4 rfl ?_
  refine wa_iald (f := st.1 8) fx 9 rfl dX0_swap_5 h (fun h => ?_)
  refine wa_istore_nN fx (fun x1 => [(3, .int x1), (0, .ref (ad 0)), (1, .int a1), (2, .int a2)]) dX0_swap_6 rfl (by decide) (fun _ => rfl) h (fun x1 h => ?_)
  refine wa_aload_n fx 1 dX0_swap_7 rfl ?_
  refine wa_get (v := .ref (ad 9)) fx wm_X0 0 rfl rfl 8 (by decide) q_2_19 rfl rfl dX0_swap_8 ?_
  refine wa_iload_n fx 3 dX0_swap_11 rfl ?_
  refine wa_iald (f := st.1 8) fx 9 rfl dX0_swap_12 h (fun h => ?_)
  refine wa_istoreN fx (fun x2 => [(4, .int x2), (3, .int x1), (0, .ref (ad 0)), (1, .int a1), (2, .int a2)]) dX0_swap_13 (by decide) (fun _ => rfl) h (fun x2 h => ?_)
  refine wa_aload_n fx 2 dX0_swap_15 rfl ?_
  refine wa_get (v := .ref (ad 9)) fx wm_X0 0 rfl rfl 8 (by decide) q_2_19 rfl rfl dX0_swap_16 ?_
  refine wa_iload_n fx 3 dX0_swap_19 rfl ?_
  refine wa_iload fx 0 dX0_swap_20 rfl ?_
  refine wa_iast (rm_ws g ad) (f := st.1 8) fx 9 rfl dX0_swap_22 h rfl (fun w3 h => ?_)
  refine wa_aload_n fx 2 dX0_swap_23 rfl ?_
  refine wa_get (v := .ref (ad 9)) fx wm_X0 0 rfl rfl 8 (by decide) q_2_19 rfl rfl dX0_swap_24 ?_
  refine wa_iload_n fx 4 dX0_swap_27 rfl ?_
  refine wa_iload_n fx 1 dX0_swap_28 rfl ?_
  refine wa_iast (rm_ws g ad) (f := w3.1 8) fx 9 rfl dX0_swap_29 h rfl (fun w4 h => ?_)
  refine wa_iload fx 0 dX0_swap_30 rfl ?_
  refine wa_if_lt fx 43 dX0_swap_32 (by decide) h (fun h => ?_) (fun h => ?_)
  · refine wa_sub [2, 4, 1] rfl ?_
    exact B43 a2 x1 w4 h
  · refine wa_aload_n fx 2 dX0_swap_35 rfl ?_
    refine wa_get (v := .ref (ad 3)) fx wm_X0 0 rfl rfl 2 (by decide) q_2_13 rfl rfl dX0_swap_36 ?_
    refine wa_iload fx 0 dX0_swap_39 rfl ?_
    refine wa_iload_n fx 3 dX0_swap_41 rfl ?_
    refine wa_iast (rm_ws g ad) (f := w4.1 2) fx 3 rfl dX0_swap_42 h rfl (fun w9 h => ?_)
    refine wa_sub [2, 4, 1] rfl ?_
    exact B43 a2 x1 w9 h
def f_X0_isFreeFor (st : StT) (a1 : Int32) (a2 : Int32) : Option (Int32) := Option.bind (f_X3_isChair a2) fun z1 => if z1 = 0 then (some (0 : Int32)) else (ck a2 8 (if (st.1 2 (Int32.toNatClampNeg a2)) = (-1 : Int32) then (some (1 : Int32)) else (ck a2 8 (if (st.1 2 (Int32.toNatClampNeg a2)) = a1 then (some (1 : Int32)) else (some (0 : Int32))))))
set_option maxHeartbeats 4000000 in
set_option maxRecDepth 100000 in
theorem c_X0_isFreeFor {g : GT} {l : Launch} {ad : Nat → Nat}   {st : StT} {a1 : Int32} {a2 : Int32} {r : Int32} (h : f_X0_isFreeFor st a1 a2 = some r) : Ct g l yX0_isFreeFor (wd yX0_isFreeFor cX0_isFreeFor 3 (some .boolean)) (rmh 3) [.ref (ad 0), .int a1, .int a2] (rm_ws g ad st) (rm_ws g ad st) (some (.int r)) := by
  refine Ct.of (lv := [(0, .ref (ad 0)), (1, .int a1), (2, .int a2)]) (by decide) (Nat.le_of_ble_eq_true rfl) rfl (fun K hl fx hf => ?_)
  subst hl
  rw [f_X0_isFreeFor] at h
  refine wa_iload_n fx 2 dX0_isFreeFor_0 rfl ?_
  refine wa_SN (rmc := (rmh 2)) (As := [.int a2]) (st := []) (wc := (no_ws ())) (wr := (rm_ws g ad st)) (wcz := fun _ => (no_ws ())) (w2 := fun _ => (rm_ws g ad st)) (o := fun z1 => some (.int z1)) (s2 := fun z1 => [.int z1]) fx mm_X3_isChair fx.2.2.2.2.2.2.2.2.2.1.2.2.1.2.1 dX0_isFreeFor_1 h (fun _ hz => c_X3_isChair hz) (rm_ok (by decide) (by decide)) ⟨Nat.zero_le _, Nat.zero_le _⟩ rfl (List.Perm.of_eq (List.append_nil _).symm) (fun _ => (List.Perm.of_eq (List.append_nil _).symm)) rfl (Nat.le_of_ble_eq_true rfl) (fun _ => rfl) (fun z1 h => ?_)
  refine wa_if_eq fx 31 dX0_isFreeFor_4 (by decide) h (fun h => ?_) (fun h => ?_)
  · refine wa_iconst fx (0 : Int32) dX0_isFreeFor_31 (by decide) ?_
    exact fn_z (rm_ws g ad) fx hf (by decide) (Option.some.inj h) rfl dX0_isFreeFor_32
  · refine wa_aload_n fx 0 dX0_isFreeFor_7 rfl ?_
    refine wa_get (v := .ref (ad 3)) fx wm_X0 0 rfl rfl 2 (by decide) q_2_13 rfl rfl dX0_isFreeFor_8 ?_
    refine wa_iload_n fx 2 dX0_isFreeFor_11 rfl ?_
    refine wa_iald (f := st.1 2) fx 3 rfl dX0_isFreeFor_12 h (fun h => ?_)
    refine wa_iconst fx (-1 : Int32) dX0_isFreeFor_13 (by decide) ?_
    refine wa_icmp_eq fx 27 dX0_isFreeFor_14 (by decide) h (fun h => ?_) (fun h => ?_)
    · refine wa_iconst fx (1 : Int32) dX0_isFreeFor_27 (by decide) ?_
      refine wa_goto fx 32 dX0_isFreeFor_28 (by decide) ?_
      exact fn_z (rm_ws g ad) fx hf (by decide) (Option.some.inj h) rfl dX0_isFreeFor_32
    · refine wa_aload_n fx 0 dX0_isFreeFor_17 rfl ?_
      refine wa_get (v := .ref (ad 3)) fx wm_X0 0 rfl rfl 2 (by decide) q_2_13 rfl rfl dX0_isFreeFor_18 ?_
      refine wa_iload_n fx 2 dX0_isFreeFor_21 rfl ?_
      refine wa_iald (f := st.1 2) fx 3 rfl dX0_isFreeFor_22 h (fun h => ?_)
      refine wa_iload_n fx 1 dX0_isFreeFor_23 rfl ?_
      refine wa_icmp_ne fx 31 dX0_isFreeFor_24 (by decide) h (fun h => ?_) (fun h => ?_)
      · refine wa_iconst fx (1 : Int32) dX0_isFreeFor_27 (by decide) ?_
        refine wa_goto fx 32 dX0_isFreeFor_28 (by decide) ?_
        exact fn_z (rm_ws g ad) fx hf (by decide) (Option.some.inj h) rfl dX0_isFreeFor_32
      · refine wa_iconst fx (0 : Int32) dX0_isFreeFor_31 (by decide) ?_
        exact fn_z (rm_ws g ad) fx hf (by decide) (Option.some.inj h) rfl dX0_isFreeFor_32
def f_X0_whoSits_b27 (k4 : (Int32) → (Int32) → Option (Int32)) (st : StT) (x5 : Int32) (x6 : Int32) : Option (Int32) := nm (x6 + (1 : Int32)) fun x7 => k4 x5 x7
def f_X0_whoSits_l4 (st : StT) : Nat → (Int32) → (Int32) → Option (Int32)
  | 0, _, _ => none
  | n + 1, x3, x4 => if (st.2.2 0) ≤ x4 then (some x3) else (ck x4 8 (if (st.1 8 (Int32.toNatClampNeg x4)) < 0 then (f_X0_whoSits_b27 (f_X0_whoSits_l4 st n) st x3 x4) else (nm (x3 ||| ((1 : Int32) <<< (x4 &&& 31))) fun x8 => f_X0_whoSits_b27 (f_X0_whoSits_l4 st n) st x8 x4)))
def f_X0_whoSits (st : StT)  : Option (Int32) := f_X0_whoSits_l4 st 200 (0 : Int32) (0 : Int32)
set_option maxHeartbeats 4000000 in
set_option maxRecDepth 100000 in
theorem c_X0_whoSits {g : GT} {l : Launch} {ad : Nat → Nat}   {st : StT}  {r : Int32} (h : f_X0_whoSits st = some r) : Ct g l yX0_whoSits (wd yX0_whoSits cX0_whoSits 3 (some .int)) (rmh 1) [.ref (ad 0)] (rm_ws g ad st) (rm_ws g ad st) (some (.int r)) := by
  refine Ct.of (lv := [(0, .ref (ad 0))]) (by decide) (Nat.le_of_ble_eq_true rfl) rfl (fun K hl fx hf => ?_)
  subst hl
  rw [f_X0_whoSits] at h
  have B27 : ∀ (k4 : (Int32) → (Int32) → Option (Int32)) (Hk4 : ∀ (y1 : Int32) (y2 : Int32), k4 y1 y2 = some r → WA g K 3 0 0 4 [(0, .ref (ad 0)), (1, .int y1), (2, .int y2)] [] (rm_ws g ad st)) (x5 : Int32) (x6 : Int32), f_X0_whoSits_b27 k4 st x5 x6 = some r → WA g K 3 0 0 27 [(0, .ref (ad 0)), (1, .int x5), (2, .int x6)] [] (rm_ws g ad st) := by
    intro  k4 Hk4 x5 x6 h
    rw [f_X0_whoSits_b27] at h
    refine wa_iinc fx 2 (fun x7 => [(2, .int x7), (0, .ref (ad 0)), (1, .int x5)]) dX0_whoSits_27 rfl (by rfl) (by decide) (fun _ => rfl) h (fun x7 h => ?_)
    refine wa_goto fx 4 dX0_whoSits_30 (by decide) ?_
    refine wa_sub [1, 2, 0] rfl ?_
    exact Hk4 x5 x7 h
  have B4 : ∀  (n : Nat) (x3 : Int32) (x4 : Int32), f_X0_whoSits_l4 st n x3 x4 = some r → WA g K 3 0 0 4 [(0, .ref (ad 0)), (1, .int x3), (2, .int x4)] [] (rm_ws g ad st) := by
    intro   n
    induction n with
    | zero => intro x3 x4 h; exact absurd h (by rw [f_X0_whoSits_l4]; exact nofun)
    | succ n ih =>
      intro x3 x4 h
      rw [f_X0_whoSits_l4] at h
      refine wa_iload_n fx 2 dX0_whoSits_4 rfl ?_
      refine wa_aload_n fx 0 dX0_whoSits_5 rfl ?_
      refine wa_get (v := .int (st.2.2 0)) fx wm_X0 0 rfl rfl 9 (by decide) q_7_5 rfl rfl dX0_whoSits_6 ?_
      refine wa_icmp_ge fx 33 dX0_whoSits_9 (by decide) h (fun h => ?_) (fun h => ?_)
      · refine wa_iload_n fx 1 dX0_whoSits_33 rfl ?_
        exact fn_i (rm_ws g ad) fx hf (Option.some.inj h) rfl dX0_whoSits_34
      · refine wa_aload_n fx 0 dX0_whoSits_12 rfl ?_
        refine wa_get (v := .ref (ad 9)) fx wm_X0 0 rfl rfl 8 (by decide) q_2_19 rfl rfl dX0_whoSits_13 ?_
        refine wa_iload_n fx 2 dX0_whoSits_16 rfl ?_
        refine wa_iald (f := st.1 8) fx 9 rfl dX0_whoSits_17 h (fun h => ?_)
        refine wa_if_lt fx 27 dX0_whoSits_18 (by decide) h (fun h => ?_) (fun h => ?_)
        · refine wa_sub [0, 1, 2] rfl ?_
          exact B27 (f_X0_whoSits_l4 st n) ih x3 x4 h
        · refine wa_iload_n fx 1 dX0_whoSits_21 rfl ?_
          refine wa_iconst fx (1 : Int32) dX0_whoSits_22 (by decide) ?_
          refine wa_iload_n fx 2 dX0_whoSits_23 rfl ?_
          refine wa_ishl fx dX0_whoSits_24 ?_
          refine wa_ior fx dX0_whoSits_25 ?_
          refine wa_istore_nN fx (fun x8 => [(1, .int x8), (0, .ref (ad 0)), (2, .int x4)]) dX0_whoSits_26 rfl (by decide) (fun _ => rfl) h (fun x8 h => ?_)
          refine wa_sub [1, 0, 2] rfl ?_
          exact B27 (f_X0_whoSits_l4 st n) ih x8 x4 h
  refine wa_iconst fx (0 : Int32) dX0_whoSits_0 (by decide) ?_
  refine wa_istore_n fx [(1, .int (0 : Int32)), (0, .ref (ad 0))] dX0_whoSits_1 rfl (by decide) rfl ?_
  refine wa_iconst fx (0 : Int32) dX0_whoSits_2 (by decide) ?_
  refine wa_istore_n fx [(2, .int (0 : Int32)), (1, .int (0 : Int32)), (0, .ref (ad 0))] dX0_whoSits_3 rfl (by decide) rfl ?_
  refine wa_sub [2, 1, 0] rfl ?_
  exact B4 200 (0 : Int32) (0 : Int32) h
def f_X0_emptyChairs_b26 (k4 : (Int32) → (Int32) → Option (Int32)) (st : StT) (x5 : Int32) (x6 : Int32) : Option (Int32) := nm (x6 + (1 : Int32)) fun x7 => k4 x5 x7
def f_X0_emptyChairs_l4 (st : StT) : Nat → (Int32) → (Int32) → Option (Int32)
  | 0, _, _ => none
  | n + 1, x3, x4 => if (8 : Int32) ≤ x4 then (some x3) else (ck x4 8 (if (st.1 2 (Int32.toNatClampNeg x4)) = (-1 : Int32) then (nm (x3 ||| ((1 : Int32) <<< (x4 &&& 31))) fun x8 => f_X0_emptyChairs_b26 (f_X0_emptyChairs_l4 st n) st x8 x4) else (f_X0_emptyChairs_b26 (f_X0_emptyChairs_l4 st n) st x3 x4)))
def f_X0_emptyChairs (st : StT)  : Option (Int32) := f_X0_emptyChairs_l4 st 200 (0 : Int32) (0 : Int32)
set_option maxHeartbeats 4000000 in
set_option maxRecDepth 100000 in
theorem c_X0_emptyChairs {g : GT} {l : Launch} {ad : Nat → Nat}   {st : StT}  {r : Int32} (h : f_X0_emptyChairs st = some r) : Ct g l yX0_emptyChairs (wd yX0_emptyChairs cX0_emptyChairs 3 (some .int)) (rmh 1) [.ref (ad 0)] (rm_ws g ad st) (rm_ws g ad st) (some (.int r)) := by
  refine Ct.of (lv := [(0, .ref (ad 0))]) (by decide) (Nat.le_of_ble_eq_true rfl) rfl (fun K hl fx hf => ?_)
  subst hl
  rw [f_X0_emptyChairs] at h
  have B26 : ∀ (k4 : (Int32) → (Int32) → Option (Int32)) (Hk4 : ∀ (y1 : Int32) (y2 : Int32), k4 y1 y2 = some r → WA g K 3 0 0 4 [(0, .ref (ad 0)), (1, .int y1), (2, .int y2)] [] (rm_ws g ad st)) (x5 : Int32) (x6 : Int32), f_X0_emptyChairs_b26 k4 st x5 x6 = some r → WA g K 3 0 0 26 [(0, .ref (ad 0)), (1, .int x5), (2, .int x6)] [] (rm_ws g ad st) := by
    intro  k4 Hk4 x5 x6 h
    rw [f_X0_emptyChairs_b26] at h
    refine wa_iinc fx 2 (fun x7 => [(2, .int x7), (0, .ref (ad 0)), (1, .int x5)]) dX0_emptyChairs_26 rfl (by rfl) (by decide) (fun _ => rfl) h (fun x7 h => ?_)
    refine wa_goto fx 4 dX0_emptyChairs_29 (by decide) ?_
    refine wa_sub [1, 2, 0] rfl ?_
    exact Hk4 x5 x7 h
  have B4 : ∀  (n : Nat) (x3 : Int32) (x4 : Int32), f_X0_emptyChairs_l4 st n x3 x4 = some r → WA g K 3 0 0 4 [(0, .ref (ad 0)), (1, .int x3), (2, .int x4)] [] (rm_ws g ad st) := by
    intro   n
    induction n with
    | zero => intro x3 x4 h; exact absurd h (by rw [f_X0_emptyChairs_l4]; exact nofun)
    | succ n ih =>
      intro x3 x4 h
      rw [f_X0_emptyChairs_l4] at h
      refine wa_iload_n fx 2 dX0_emptyChairs_4 rfl ?_
      refine wa_bipush fx (8 : Int32) dX0_emptyChairs_5 (by decide) ?_
      refine wa_icmp_ge fx 32 dX0_emptyChairs_7 (by decide) h (fun h => ?_) (fun h => ?_)
      · refine wa_iload_n fx 1 dX0_emptyChairs_32 rfl ?_
        exact fn_i (rm_ws g ad) fx hf (Option.some.inj h) rfl dX0_emptyChairs_33
      · refine wa_aload_n fx 0 dX0_emptyChairs_10 rfl ?_
        refine wa_get (v := .ref (ad 3)) fx wm_X0 0 rfl rfl 2 (by decide) q_2_13 rfl rfl dX0_emptyChairs_11 ?_
        refine wa_iload_n fx 2 dX0_emptyChairs_14 rfl ?_
        refine wa_iald (f := st.1 2) fx 3 rfl dX0_emptyChairs_15 h (fun h => ?_)
        refine wa_iconst fx (-1 : Int32) dX0_emptyChairs_16 (by decide) ?_
        refine wa_icmp_ne fx 26 dX0_emptyChairs_17 (by decide) h (fun h => ?_) (fun h => ?_)
        · refine wa_iload_n fx 1 dX0_emptyChairs_20 rfl ?_
          refine wa_iconst fx (1 : Int32) dX0_emptyChairs_21 (by decide) ?_
          refine wa_iload_n fx 2 dX0_emptyChairs_22 rfl ?_
          refine wa_ishl fx dX0_emptyChairs_23 ?_
          refine wa_ior fx dX0_emptyChairs_24 ?_
          refine wa_istore_nN fx (fun x8 => [(1, .int x8), (0, .ref (ad 0)), (2, .int x4)]) dX0_emptyChairs_25 rfl (by decide) (fun _ => rfl) h (fun x8 h => ?_)
          refine wa_sub [1, 0, 2] rfl ?_
          exact B26 (f_X0_emptyChairs_l4 st n) ih x8 x4 h
        · refine wa_sub [0, 1, 2] rfl ?_
          exact B26 (f_X0_emptyChairs_l4 st n) ih x3 x4 h
  refine wa_iconst fx (0 : Int32) dX0_emptyChairs_0 (by decide) ?_
  refine wa_istore_n fx [(1, .int (0 : Int32)), (0, .ref (ad 0))] dX0_emptyChairs_1 rfl (by decide) rfl ?_
  refine wa_iconst fx (0 : Int32) dX0_emptyChairs_2 (by decide) ?_
  refine wa_istore_n fx [(2, .int (0 : Int32)), (1, .int (0 : Int32)), (0, .ref (ad 0))] dX0_emptyChairs_3 rfl (by decide) rfl ?_
  refine wa_sub [2, 1, 0] rfl ?_
  exact B4 200 (0 : Int32) (0 : Int32) h
def f_X0_hasSun (st : StT)  : Option (Int32) := nm ((st.2.2 1) - (st.2.2 1) / (24 : Int32) * (24 : Int32)) fun x1 => if x1 < (10 : Int32) then (some (0 : Int32)) else (if (14 : Int32) < x1 then (some (0 : Int32)) else (some (1 : Int32)))
set_option maxHeartbeats 4000000 in
set_option maxRecDepth 100000 in
theorem c_X0_hasSun {g : GT} {l : Launch} {ad : Nat → Nat}   {st : StT}  {r : Int32} (h : f_X0_hasSun st = some r) : Ct g l yX0_hasSun (wd yX0_hasSun cX0_hasSun 2 (some .boolean)) (rmh 1) [.ref (ad 0)] (rm_ws g ad st) (rm_ws g ad st) (some (.int r)) := by
  refine Ct.of (lv := [(0, .ref (ad 0))]) (by decide) (Nat.le_of_ble_eq_true rfl) rfl (fun K hl fx hf => ?_)
  subst hl
  rw [f_X0_hasSun] at h
  refine wa_aload_n fx 0 dX0_hasSun_0 rfl ?_
  refine wa_get (v := .int (st.2.2 1)) fx wm_X0 0 rfl rfl 10 (by decide) q_14_1 rfl rfl dX0_hasSun_1 ?_
  refine wa_bipush fx (24 : Int32) dX0_hasSun_4 (by decide) ?_
  refine wa_irem fx dX0_hasSun_6 (by decide) ?_
  refine wa_istore_nN fx (fun x1 => [(1, .int x1), (0, .ref (ad 0))]) dX0_hasSun_7 rfl (by decide) (fun _ => rfl) h (fun x1 h => ?_)
  refine wa_iload_n fx 0 dX0_hasSun_8 rfl ?_
  refine wa_bipush fx (10 : Int32) dX0_hasSun_9 (by decide) ?_
  refine wa_icmp_lt fx 24 dX0_hasSun_11 (by decide) h (fun h => ?_) (fun h => ?_)
  · refine wa_iconst fx (0 : Int32) dX0_hasSun_24 (by decide) ?_
    exact fn_z (rm_ws g ad) fx hf (by decide) (Option.some.inj h) rfl dX0_hasSun_25
  · refine wa_iload_n fx 0 dX0_hasSun_14 rfl ?_
    refine wa_bipush fx (14 : Int32) dX0_hasSun_15 (by decide) ?_
    refine wa_icmp_gt fx 24 dX0_hasSun_17 (by decide) h (fun h => ?_) (fun h => ?_)
    · refine wa_iconst fx (0 : Int32) dX0_hasSun_24 (by decide) ?_
      exact fn_z (rm_ws g ad) fx hf (by decide) (Option.some.inj h) rfl dX0_hasSun_25
    · refine wa_iconst fx (1 : Int32) dX0_hasSun_20 (by decide) ?_
      refine wa_goto fx 25 dX0_hasSun_21 (by decide) ?_
      exact fn_z (rm_ws g ad) fx hf (by decide) (Option.some.inj h) rfl dX0_hasSun_25
def f_X0_likes_b17 (st : StT) (x2 : Int32) (x3 : Int32) : Option (Int32) := ck x2 8 (ck x2 8 (nm (((st.1 0 (Int32.toNatClampNeg x2)) / (2 : Int32)) - ((2 : Int32) * (st.1 1 (Int32.toNatClampNeg x2)))) fun x4 => if x3 = (5 : Int32) then (if x2 = (7 : Int32) then (some (x4 + (6 : Int32))) else (some x4)) else (some x4)))
def f_X0_likes_b122 (st : StT) (x14 : Int32) (x15 : Int32) (x16 : Int32) : Option (Int32) := ck x14 8 (nm (x16 + ((st.1 4 (Int32.toNatClampNeg x14)) / (4 : Int32))) fun x17 => if x15 = (4 : Int32) then (nm (x17 + (10 : Int32)) fun x19 => some x19) else (nm (x17 + (0 : Int32)) fun x18 => some x18))
def f_X0_likes_b102 (st : StT) (x10 : Int32) (x11 : Int32) (x12 : Int32) (x13 : Int32) : Option (Int32) := ck x10 8 (if (st.1 5 (Int32.toNatClampNeg x10)) = x11 then (if x12 = (1 : Int32) then (f_X0_likes_b122 st x10 x12 x13) else (if x12 = (4 : Int32) then (f_X0_likes_b122 st x10 x12 x13) else (some x13))) else (some x13))
def f_X0_likes_b94 (st : StT) (x6 : Int32) (x7 : Int32) (x8 : Int32) (x9 : Int32) : Option (Int32) := if x8 = (2 : Int32) then (nm (x9 + (3 : Int32)) fun x20 => f_X0_likes_b102 st x6 x7 x8 x20) else (f_X0_likes_b102 st x6 x7 x8 x9)
def f_X0_likes (st : StT) (a1 : Int32) (a2 : Int32) : Option (Int32) := ck a1 8 (nm (st.1 3 (Int32.toNatClampNeg a1)) fun x1 => if x1 = (3 : Int32) then (f_X0_likes_b17 st a2 x1) else (if x1 = (5 : Int32) then (f_X0_likes_b17 st a2 x1) else (ck a2 8 (ck a2 8 (nm ((st.1 0 (Int32.toNatClampNeg a2)) - (st.1 1 (Int32.toNatClampNeg a2))) fun x5 => ck a2 8 (if (st.1 0 (Int32.toNatClampNeg a2)) ≤ (10 : Int32) then (f_X0_likes_b94 st a1 a2 x1 x5) else (Option.bind (f_X0_hasSun st) fun z21 => if z21 = 0 then (f_X0_likes_b94 st a1 a2 x1 x5) else (nm (x5 + (-4 : Int32)) fun x22 => f_X0_likes_b94 st a1 a2 x1 x22))))))))
set_option maxHeartbeats 4000000 in
set_option maxRecDepth 100000 in
theorem c_X0_likes {g : GT} {l : Launch} {ad : Nat → Nat}   {st : StT} {a1 : Int32} {a2 : Int32} {r : Int32} (h : f_X0_likes st a1 a2 = some r) : Ct g l yX0_likes (wd yX0_likes cX0_likes 5 (some .int)) (rmh 2) [.ref (ad 0), .int a1, .int a2] (rm_ws g ad st) (rm_ws g ad st) (some (.int r)) := by
  refine Ct.of (lv := [(0, .ref (ad 0)), (1, .int a1), (2, .int a2)]) (by decide) (Nat.le_of_ble_eq_true rfl) rfl (fun K hl fx hf => ?_)
  subst hl
  rw [f_X0_likes] at h
  have B17 : ∀  (x2 : Int32) (x3 : Int32), f_X0_likes_b17 st x2 x3 = some r → WA g K 5 0 0 17 [(0, .ref (ad 0)), (2, .int x2), (3, .int x3)] [] (rm_ws g ad st) := by
    intro   x2 x3 h
    rw [f_X0_likes_b17] at h
    refine wa_aload_n fx 0 dX0_likes_17 rfl ?_
    refine wa_get (v := .ref (ad 1)) fx wm_X0 0 rfl rfl 0 (by decide) q_2_11 rfl rfl dX0_likes_18 ?_
    refine wa_iload_n fx 1 dX0_likes_21 rfl ?_
    refine wa_iald (f := st.1 0) fx 1 rfl dX0_likes_22 h (fun h => ?_)
    refine wa_iconst fx (2 : Int32) dX0_likes_23 (by decide) ?_
    refine wa_idiv fx dX0_likes_24 (by decide) ?_
    refine wa_iconst fx (2 : Int32) dX0_likes_25 (by decide) ?_
    refine wa_aload_n fx 0 dX0_likes_26 rfl ?_
    refine wa_get (v := .ref (ad 2)) fx wm_X0 0 rfl rfl 1 (by decide) q_2_12 rfl rfl dX0_likes_27 ?_
    refine wa_iload_n fx 1 dX0_likes_30 rfl ?_
    refine wa_iald (f := st.1 1) fx 2 rfl dX0_likes_31 h (fun h => ?_)
    refine wa_imul fx dX0_likes_32 ?_
    refine wa_isub fx dX0_likes_33 ?_
    refine wa_istoreN fx (fun x4 => [(4, .int x4), (0, .ref (ad 0)), (2, .int x2), (3, .int x3)]) dX0_likes_34 (by decide) (fun _ => rfl) h (fun x4 h => ?_)
    refine wa_iload_n fx 3 dX0_likes_36 rfl ?_
    refine wa_iconst fx (5 : Int32) dX0_likes_37 (by decide) ?_
    refine wa_icmp_ne fx 55 dX0_likes_38 (by decide) h (fun h => ?_) (fun h => ?_)
    · refine wa_iload_n fx 2 dX0_likes_41 rfl ?_
      refine wa_bipush fx (7 : Int32) dX0_likes_42 (by decide) ?_
      refine wa_icmp_ne fx 55 dX0_likes_44 (by decide) h (fun h => ?_) (fun h => ?_)
      · refine wa_iload fx 0 dX0_likes_47 rfl ?_
        refine wa_bipush fx (6 : Int32) dX0_likes_49 (by decide) ?_
        refine wa_iadd fx dX0_likes_51 ?_
        refine wa_goto fx 57 dX0_likes_52 (by decide) ?_
        exact fn_i (rm_ws g ad) fx hf (Option.some.inj h) rfl dX0_likes_57
      · refine wa_iload fx 0 dX0_likes_55 rfl ?_
        exact fn_i (rm_ws g ad) fx hf (Option.some.inj h) rfl dX0_likes_57
    · refine wa_iload fx 0 dX0_likes_55 rfl ?_
      exact fn_i (rm_ws g ad) fx hf (Option.some.inj h) rfl dX0_likes_57
  have B122 : ∀  (x14 : Int32) (x15 : Int32) (x16 : Int32), f_X0_likes_b122 st x14 x15 x16 = some r → WA g K 5 0 0 122 [(0, .ref (ad 0)), (1, .int x14), (3, .int x15), (4, .int x16)] [] (rm_ws g ad st) := by
    intro   x14 x15 x16 h
    rw [f_X0_likes_b122] at h
    refine wa_iload fx 3 dX0_likes_122 rfl ?_
    refine wa_aload_n fx 0 dX0_likes_124 rfl ?_
    refine wa_get (v := .ref (ad 5)) fx wm_X0 0 rfl rfl 4 (by decide) q_2_15 rfl rfl dX0_likes_125 ?_
    refine wa_iload_n fx 1 dX0_likes_128 rfl ?_
    refine wa_iald (f := st.1 4) fx 5 rfl dX0_likes_129 h (fun h => ?_)
    refine wa_iconst fx (4 : Int32) dX0_likes_130 (by decide) ?_
    refine wa_idiv fx dX0_likes_131 (by decide) ?_
    refine wa_iadd fx dX0_likes_132 ?_
    refine wa_istoreN fx (fun x17 => [(4, .int x17), (0, .ref (ad 0)), (1, .int x14), (3, .int x15)]) dX0_likes_133 (by decide) (fun _ => rfl) h (fun x17 h => ?_)
    refine wa_iload fx 0 dX0_likes_135 rfl ?_
    refine wa_iload_n fx 3 dX0_likes_137 rfl ?_
    refine wa_iconst fx (4 : Int32) dX0_likes_138 (by decide) ?_
    refine wa_icmp_ne fx 147 dX0_likes_139 (by decide) h (fun h => ?_) (fun h => ?_)
    · refine wa_bipush fx (10 : Int32) dX0_likes_142 (by decide) ?_
      refine wa_goto fx 148 dX0_likes_144 (by decide) ?_
      refine wa_iadd fx dX0_likes_148 ?_
      refine wa_istoreN fx (fun x19 => [(4, .int x19), (0, .ref (ad 0)), (1, .int x14), (3, .int x15)]) dX0_likes_149 (by decide) (fun _ => rfl) h (fun x19 h => ?_)
      refine wa_iload fx 0 dX0_likes_151 rfl ?_
      exact fn_i (rm_ws g ad) fx hf (Option.some.inj h) rfl dX0_likes_153
    · refine wa_iconst fx (0 : Int32) dX0_likes_147 (by decide) ?_
      refine wa_iadd fx dX0_likes_148 ?_
      refine wa_istoreN fx (fun x18 => [(4, .int x18), (0, .ref (ad 0)), (1, .int x14), (3, .int x15)]) dX0_likes_149 (by decide) (fun _ => rfl) h (fun x18 h => ?_)
      refine wa_iload fx 0 dX0_likes_151 rfl ?_
      exact fn_i (rm_ws g ad) fx hf (Option.some.inj h) rfl dX0_likes_153
  have B102 : ∀  (x10 : Int32) (x11 : Int32) (x12 : Int32) (x13 : Int32), f_X0_likes_b102 st x10 x11 x12 x13 = some r → WA g K 5 0 0 102 [(0, .ref (ad 0)), (1, .int x10), (2, .int x11), (3, .int x12), (4, .int x13)] [] (rm_ws g ad st) := by
    intro   x10 x11 x12 x13 h
    rw [f_X0_likes_b102] at h
    refine wa_aload_n fx 0 dX0_likes_102 rfl ?_
    refine wa_get (v := .ref (ad 6)) fx wm_X0 0 rfl rfl 5 (by decide) q_2_16 rfl rfl dX0_likes_103 ?_
    refine wa_iload_n fx 1 dX0_likes_106 rfl ?_
    refine wa_iald (f := st.1 5) fx 6 rfl dX0_likes_107 h (fun h => ?_)
    refine wa_iload_n fx 2 dX0_likes_108 rfl ?_
    refine wa_icmp_ne fx 151 dX0_likes_109 (by decide) h (fun h => ?_) (fun h => ?_)
    · refine wa_iload_n fx 3 dX0_likes_112 rfl ?_
      refine wa_iconst fx (1 : Int32) dX0_likes_113 (by decide) ?_
      refine wa_icmp_eq fx 122 dX0_likes_114 (by decide) h (fun h => ?_) (fun h => ?_)
      · refine wa_sub [0, 1, 3, 4] rfl ?_
        exact B122 x10 x12 x13 h
      · refine wa_iload_n fx 3 dX0_likes_117 rfl ?_
        refine wa_iconst fx (4 : Int32) dX0_likes_118 (by decide) ?_
        refine wa_icmp_ne fx 151 dX0_likes_119 (by decide) h (fun h => ?_) (fun h => ?_)
        · refine wa_sub [0, 1, 3, 4] rfl ?_
          exact B122 x10 x12 x13 h
        · refine wa_iload fx 4 dX0_likes_151 rfl ?_
          exact fn_i (rm_ws g ad) fx hf (Option.some.inj h) rfl dX0_likes_153
    · refine wa_iload fx 4 dX0_likes_151 rfl ?_
      exact fn_i (rm_ws g ad) fx hf (Option.some.inj h) rfl dX0_likes_153
  have B94 : ∀  (x6 : Int32) (x7 : Int32) (x8 : Int32) (x9 : Int32), f_X0_likes_b94 st x6 x7 x8 x9 = some r → WA g K 5 0 0 94 [(0, .ref (ad 0)), (1, .int x6), (2, .int x7), (3, .int x8), (4, .int x9)] [] (rm_ws g ad st) := by
    intro   x6 x7 x8 x9 h
    rw [f_X0_likes_b94] at h
    refine wa_iload_n fx 3 dX0_likes_94 rfl ?_
    refine wa_iconst fx (2 : Int32) dX0_likes_95 (by decide) ?_
    refine wa_icmp_ne fx 102 dX0_likes_96 (by decide) h (fun h => ?_) (fun h => ?_)
    · refine wa_iinc fx 4 (fun x20 => [(4, .int x20), (0, .ref (ad 0)), (1, .int x6), (2, .int x7), (3, .int x8)]) dX0_likes_99 rfl (by rfl) (by decide) (fun _ => rfl) h (fun x20 h => ?_)
      refine wa_sub [1, 2, 3, 4, 0] rfl ?_
      exact B102 x6 x7 x8 x20 h
    · refine wa_sub [0, 1, 2, 3, 4] rfl ?_
      exact B102 x6 x7 x8 x9 h
  refine wa_aload_n fx 0 dX0_likes_0 rfl ?_
  refine wa_get (v := .ref (ad 4)) fx wm_X0 0 rfl rfl 3 (by decide) q_2_14 rfl rfl dX0_likes_1 ?_
  refine wa_iload_n fx 1 dX0_likes_4 rfl ?_
  refine wa_iald (f := st.1 3) fx 4 rfl dX0_likes_5 h (fun h => ?_)
  refine wa_istore_nN fx (fun x1 => [(3, .int x1), (0, .ref (ad 0)), (1, .int a1), (2, .int a2)]) dX0_likes_6 rfl (by decide) (fun _ => rfl) h (fun x1 h => ?_)
  refine wa_iload_n fx 0 dX0_likes_7 rfl ?_
  refine wa_iconst fx (3 : Int32) dX0_likes_8 (by decide) ?_
  refine wa_icmp_eq fx 17 dX0_likes_9 (by decide) h (fun h => ?_) (fun h => ?_)
  · refine wa_sub [1, 3, 0] rfl ?_
    exact B17 a2 x1 h
  · refine wa_iload_n fx 0 dX0_likes_12 rfl ?_
    refine wa_iconst fx (5 : Int32) dX0_likes_13 (by decide) ?_
    refine wa_icmp_ne fx 58 dX0_likes_14 (by decide) h (fun h => ?_) (fun h => ?_)
    · refine wa_sub [1, 3, 0] rfl ?_
      exact B17 a2 x1 h
    · refine wa_aload_n fx 1 dX0_likes_58 rfl ?_
      refine wa_get (v := .ref (ad 1)) fx wm_X0 0 rfl rfl 0 (by decide) q_2_11 rfl rfl dX0_likes_59 ?_
      refine wa_iload_n fx 3 dX0_likes_62 rfl ?_
      refine wa_iald (f := st.1 0) fx 1 rfl dX0_likes_63 h (fun h => ?_)
      refine wa_aload_n fx 1 dX0_likes_64 rfl ?_
      refine wa_get (v := .ref (ad 2)) fx wm_X0 0 rfl rfl 1 (by decide) q_2_12 rfl rfl dX0_likes_65 ?_
      refine wa_iload_n fx 3 dX0_likes_68 rfl ?_
      refine wa_iald (f := st.1 1) fx 2 rfl dX0_likes_69 h (fun h => ?_)
      refine wa_isub fx dX0_likes_70 ?_
      refine wa_istoreN fx (fun x5 => [(4, .int x5), (3, .int x1), (0, .ref (ad 0)), (1, .int a1), (2, .int a2)]) dX0_likes_71 (by decide) (fun _ => rfl) h (fun x5 h => ?_)
      refine wa_aload_n fx 2 dX0_likes_73 rfl ?_
      refine wa_get (v := .ref (ad 1)) fx wm_X0 0 rfl rfl 0 (by decide) q_2_11 rfl rfl dX0_likes_74 ?_
      refine wa_iload_n fx 4 dX0_likes_77 rfl ?_
      refine wa_iald (f := st.1 0) fx 1 rfl dX0_likes_78 h (fun h => ?_)
      refine wa_bipush fx (10 : Int32) dX0_likes_79 (by decide) ?_
      refine wa_icmp_le fx 94 dX0_likes_81 (by decide) h (fun h => ?_) (fun h => ?_)
      · refine wa_sub [2, 3, 4, 1, 0] rfl ?_
        exact B94 a1 a2 x1 x5 h
      · refine wa_aload_n fx 2 dX0_likes_84 rfl ?_
        refine wa_V (b := ad 0) (rmc := (rmh 1)) (As := []) (st := []) (wc := (rm_ws g ad st)) (wr := ([] : va_W)) (wcz := fun _ => (rm_ws g ad st)) (w2 := fun _ => (rm_ws g ad st)) (o := fun z21 => some (.int z21)) (s2 := fun z21 => [.int z21]) (ci := 0) (q0 := 0) fx mm_X0_hasSun q_13_21 dX0_likes_85 h (fun _ hz => c_X0_hasSun hz) rfl rfl (rm_ok (by decide) (by decide)) ⟨Nat.zero_le _, Nat.zero_le _⟩ rfl (List.Perm.refl _) (fun _ => (List.Perm.refl _)) rfl (Nat.le_of_ble_eq_true rfl) (fun _ => rfl) (fun z21 h => ?_)
        refine wa_if_eq fx 94 dX0_likes_88 (by decide) h (fun h => ?_) (fun h => ?_)
        · refine wa_sub [2, 3, 4, 1, 0] rfl ?_
          exact B94 a1 a2 x1 x5 h
        · refine wa_iinc fx 0 (fun x22 => [(4, .int x22), (3, .int x1), (0, .ref (ad 0)), (1, .int a1), (2, .int a2)]) dX0_likes_91 rfl (by rfl) (by decide) (fun _ => rfl) h (fun x22 h => ?_)
          refine wa_sub [2, 3, 4, 1, 0] rfl ?_
          exact B94 a1 a2 x1 x22 h
def f_X0_minds_b15 (st : StT) (x2 : Int32) (x3 : Int32) (x4 : Int32) : Option (Int32) := ck x2 8 (if (st.1 3 (Int32.toNatClampNeg x2)) = (2 : Int32) then (some ((2 : Int32) * x4)) else (if (st.1 3 (Int32.toNatClampNeg x2)) = (3 : Int32) then (some (0 : Int32)) else (if (st.1 3 (Int32.toNatClampNeg x2)) = (4 : Int32) then (some (x4 - (2 : Int32))) else (if (st.1 3 (Int32.toNatClampNeg x2)) = (5 : Int32) then (ck x3 8 (Option.bind (f_X3_isOfKind (st.1 3 (Int32.toNatClampNeg x3)) (2 : Int32)) fun z5 => if z5 = 0 then (some (0 : Int32)) else (some (-1 : Int32)))) else (some x4)))))
def f_X0_minds (st : StT) (a1 : Int32) (a2 : Int32) : Option (Int32) := Option.bind (f_X0_areAtOdds st a1 a2) fun z1 => if z1 = 0 then (f_X0_minds_b15 st a1 a2 (1 : Int32)) else (f_X0_minds_b15 st a1 a2 (-6 : Int32))
set_option maxHeartbeats 4000000 in
set_option maxRecDepth 100000 in
theorem c_X0_minds {g : GT} {l : Launch} {ad : Nat → Nat}   {st : StT} {a1 : Int32} {a2 : Int32} {r : Int32} (h : f_X0_minds st a1 a2 = some r) : Ct g l yX0_minds (wd yX0_minds cX0_minds 4 (some .int)) (rmh 2) [.ref (ad 0), .int a1, .int a2] (rm_ws g ad st) (rm_ws g ad st) (some (.int r)) := by
  refine Ct.of (lv := [(0, .ref (ad 0)), (1, .int a1), (2, .int a2)]) (by decide) (Nat.le_of_ble_eq_true rfl) rfl (fun K hl fx hf => ?_)
  subst hl
  rw [f_X0_minds] at h
  have B15 : ∀  (x2 : Int32) (x3 : Int32) (x4 : Int32), f_X0_minds_b15 st x2 x3 x4 = some r → WA g K 4 0 0 15 [(0, .ref (ad 0)), (1, .int x2), (2, .int x3)] [.int x4] (rm_ws g ad st) := by
    intro   x2 x3 x4 h
    rw [f_X0_minds_b15] at h
    refine wa_istore_n fx [(3, .int x4), (0, .ref (ad 0)), (1, .int x2), (2, .int x3)] dX0_minds_15 rfl (by decide) rfl ?_
    refine wa_aload_n fx 1 dX0_minds_16 rfl ?_
    refine wa_get (v := .ref (ad 4)) fx wm_X0 0 rfl rfl 3 (by decide) q_2_14 rfl rfl dX0_minds_17 ?_
    refine wa_iload_n fx 2 dX0_minds_20 rfl ?_
    refine wa_iald (f := st.1 3) fx 4 rfl dX0_minds_21 h (fun h => ?_)
    by_cases c0 : (st.1 3 (Int32.toNatClampNeg x2)) = (2 : Int32)
    · have h := (if_pos c0).symm.trans h
      refine wa_tabI fx 52 (2 : Int) dX0_minds_22 (by rw [c0] <;> rfl) (by decide) (by decide) (by rfl) (by decide) ?_
      refine wa_iconst fx (2 : Int32) dX0_minds_52 (by decide) ?_
      refine wa_iload_n fx 0 dX0_minds_53 rfl ?_
      refine wa_imul fx dX0_minds_54 ?_
      exact fn_i (rm_ws g ad) fx hf (Option.some.inj h) rfl dX0_minds_55
    · have h := (if_neg c0).symm.trans h
      by_cases c1 : (st.1 3 (Int32.toNatClampNeg x2)) = (3 : Int32)
      · have h := (if_pos c1).symm.trans h
        refine wa_tabI fx 56 (3 : Int) dX0_minds_22 (by rw [c1] <;> rfl) (by decide) (by decide) (by rfl) (by decide) ?_
        refine wa_iconst fx (0 : Int32) dX0_minds_56 (by decide) ?_
        exact fn_i (rm_ws g ad) fx hf (Option.some.inj h) rfl dX0_minds_57
      · have h := (if_neg c1).symm.trans h
        by_cases c2 : (st.1 3 (Int32.toNatClampNeg x2)) = (4 : Int32)
        · have h := (if_pos c2).symm.trans h
          refine wa_tabI fx 58 (4 : Int) dX0_minds_22 (by rw [c2] <;> rfl) (by decide) (by decide) (by rfl) (by decide) ?_
          refine wa_iload_n fx 0 dX0_minds_58 rfl ?_
          refine wa_iconst fx (2 : Int32) dX0_minds_59 (by decide) ?_
          refine wa_isub fx dX0_minds_60 ?_
          exact fn_i (rm_ws g ad) fx hf (Option.some.inj h) rfl dX0_minds_61
        · have h := (if_neg c2).symm.trans h
          by_cases c3 : (st.1 3 (Int32.toNatClampNeg x2)) = (5 : Int32)
          · have h := (if_pos c3).symm.trans h
            refine wa_tabI fx 62 (5 : Int) dX0_minds_22 (by rw [c3] <;> rfl) (by decide) (by decide) (by rfl) (by decide) ?_
            refine wa_aload_n fx 1 dX0_minds_62 rfl ?_
            refine wa_get (v := .ref (ad 4)) fx wm_X0 0 rfl rfl 3 (by decide) q_2_14 rfl rfl dX0_minds_63 ?_
            refine wa_iload_n fx 3 dX0_minds_66 rfl ?_
            refine wa_iald (f := st.1 3) fx 4 rfl dX0_minds_67 h (fun h => ?_)
            refine wa_iconst fx (2 : Int32) dX0_minds_68 (by decide) ?_
            refine wa_SN (rmc := (rmh 1)) (As := [.int (st.1 3 (Int32.toNatClampNeg x3)), .int (2 : Int32)]) (st := []) (wc := (no_ws ())) (wr := (rm_ws g ad st)) (wcz := fun _ => (no_ws ())) (w2 := fun _ => (rm_ws g ad st)) (o := fun z5 => some (.int z5)) (s2 := fun z5 => [.int z5]) fx mm_X3_isOfKind fx.2.2.2.2.2.2.2.2.2.1.2.2.1.1 dX0_minds_69 h (fun _ hz => c_X3_isOfKind hz) (rm_ok (by decide) (by decide)) ⟨Nat.zero_le _, Nat.zero_le _⟩ rfl (List.Perm.of_eq (List.append_nil _).symm) (fun _ => (List.Perm.of_eq (List.append_nil _).symm)) rfl (Nat.le_of_ble_eq_true rfl) (fun _ => rfl) (fun z5 h => ?_)
            refine wa_if_eq fx 79 dX0_minds_72 (by decide) h (fun h => ?_) (fun h => ?_)
            · refine wa_iconst fx (0 : Int32) dX0_minds_79 (by decide) ?_
              exact fn_i (rm_ws g ad) fx hf (Option.some.inj h) rfl dX0_minds_80
            · refine wa_iconst fx (-1 : Int32) dX0_minds_75 (by decide) ?_
              refine wa_goto fx 80 dX0_minds_76 (by decide) ?_
              exact fn_i (rm_ws g ad) fx hf (Option.some.inj h) rfl dX0_minds_80
          · have h := (if_neg c3).symm.trans h
            refine wa_tabD fx 81 dX0_minds_22 (by decide) [(2 : Int32), (3 : Int32), (4 : Int32), (5 : Int32)] (by decide) (List.forall_mem_cons.mpr ⟨c0, (List.forall_mem_cons.mpr ⟨c1, (List.forall_mem_cons.mpr ⟨c2, (List.forall_mem_cons.mpr ⟨c3, (fun _ hm => absurd hm List.not_mem_nil)⟩)⟩)⟩)⟩) ?_
            refine wa_iload_n fx 0 dX0_minds_81 rfl ?_
            exact fn_i (rm_ws g ad) fx hf (Option.some.inj h) rfl dX0_minds_82
  refine wa_aload_n fx 0 dX0_minds_0 rfl ?_
  refine wa_iload_n fx 1 dX0_minds_1 rfl ?_
  refine wa_iload_n fx 2 dX0_minds_2 rfl ?_
  refine wa_V (b := ad 0) (rmc := (rmh 1)) (As := [.int a1, .int a2]) (st := []) (wc := (rm_ws g ad st)) (wr := ([] : va_W)) (wcz := fun _ => (rm_ws g ad st)) (w2 := fun _ => (rm_ws g ad st)) (o := fun z1 => some (.int z1)) (s2 := fun z1 => [.int z1]) (ci := 0) (q0 := 0) fx mm_X0_areAtOdds q_14_6 dX0_minds_3 h (fun _ hz => c_X0_areAtOdds hz) rfl rfl (rm_ok (by decide) (by decide)) ⟨Nat.zero_le _, Nat.zero_le _⟩ rfl (List.Perm.refl _) (fun _ => (List.Perm.refl _)) rfl (Nat.le_of_ble_eq_true rfl) (fun _ => rfl) (fun z1 h => ?_)
  refine wa_if_eq fx 14 dX0_minds_6 (by decide) h (fun h => ?_) (fun h => ?_)
  · refine wa_iconst fx (1 : Int32) dX0_minds_14 (by decide) ?_
    refine wa_sub [0, 1, 2] rfl ?_
    exact B15 a1 a2 (1 : Int32) h
  · refine wa_bipush fx (-6 : Int32) dX0_minds_9 (by decide) ?_
    refine wa_goto fx 15 dX0_minds_11 (by decide) ?_
    refine wa_sub [0, 1, 2] rfl ?_
    exact B15 a1 a2 (-6 : Int32) h
def f_X0_givesUp (st : StT) (a1 : Int32) : Option (Int32) := ck a1 8 (if (st.1 3 (Int32.toNatClampNeg a1)) = (1 : Int32) then (ck a1 8 (some ((8 : Int32) + ((st.1 4 (Int32.toNatClampNeg a1)) / (10 : Int32))))) else (if (st.1 3 (Int32.toNatClampNeg a1)) = (3 : Int32) then (some (4 : Int32)) else (if (st.1 3 (Int32.toNatClampNeg a1)) = (4 : Int32) then (some (99 : Int32)) else (if (st.1 3 (Int32.toNatClampNeg a1)) = (5 : Int32) then (some (4 : Int32)) else (some (8 : Int32))))))
set_option maxHeartbeats 4000000 in
set_option maxRecDepth 100000 in
theorem c_X0_givesUp {g : GT} {l : Launch} {ad : Nat → Nat}   {st : StT} {a1 : Int32} {r : Int32} (h : f_X0_givesUp st a1 = some r) : Ct g l yX0_givesUp (wd yX0_givesUp cX0_givesUp 2 (some .int)) (rmh 1) [.ref (ad 0), .int a1] (rm_ws g ad st) (rm_ws g ad st) (some (.int r)) := by
  refine Ct.of (lv := [(0, .ref (ad 0)), (1, .int a1)]) (by decide) (Nat.le_of_ble_eq_true rfl) rfl (fun K hl fx hf => ?_)
  subst hl
  rw [f_X0_givesUp] at h
  refine wa_aload_n fx 0 dX0_givesUp_0 rfl ?_
  refine wa_get (v := .ref (ad 4)) fx wm_X0 0 rfl rfl 3 (by decide) q_2_14 rfl rfl dX0_givesUp_1 ?_
  refine wa_iload_n fx 1 dX0_givesUp_4 rfl ?_
  refine wa_iald (f := st.1 3) fx 4 rfl dX0_givesUp_5 h (fun h => ?_)
  by_cases c0 : (st.1 3 (Int32.toNatClampNeg a1)) = (1 : Int32)
  · have h := (if_pos c0).symm.trans h
    refine wa_tabI fx 40 (1 : Int) dX0_givesUp_6 (by rw [c0] <;> rfl) (by decide) (by decide) (by rfl) (by decide) ?_
    refine wa_bipush fx (8 : Int32) dX0_givesUp_40 (by decide) ?_
    refine wa_aload_n fx 0 dX0_givesUp_42 rfl ?_
    refine wa_get (v := .ref (ad 5)) fx wm_X0 0 rfl rfl 4 (by decide) q_2_15 rfl rfl dX0_givesUp_43 ?_
    refine wa_iload_n fx 1 dX0_givesUp_46 rfl ?_
    refine wa_iald (f := st.1 4) fx 5 rfl dX0_givesUp_47 h (fun h => ?_)
    refine wa_bipush fx (10 : Int32) dX0_givesUp_48 (by decide) ?_
    refine wa_idiv fx dX0_givesUp_50 (by decide) ?_
    refine wa_iadd fx dX0_givesUp_51 ?_
    exact fn_i (rm_ws g ad) fx hf (Option.some.inj h) rfl dX0_givesUp_52
  · have h := (if_neg c0).symm.trans h
    by_cases c1 : (st.1 3 (Int32.toNatClampNeg a1)) = (3 : Int32)
    · have h := (if_pos c1).symm.trans h
      refine wa_tabI fx 53 (3 : Int) dX0_givesUp_6 (by rw [c1] <;> rfl) (by decide) (by decide) (by rfl) (by decide) ?_
      refine wa_iconst fx (4 : Int32) dX0_givesUp_53 (by decide) ?_
      exact fn_i (rm_ws g ad) fx hf (Option.some.inj h) rfl dX0_givesUp_54
    · have h := (if_neg c1).symm.trans h
      by_cases c2 : (st.1 3 (Int32.toNatClampNeg a1)) = (4 : Int32)
      · have h := (if_pos c2).symm.trans h
        refine wa_tabI fx 55 (4 : Int) dX0_givesUp_6 (by rw [c2] <;> rfl) (by decide) (by decide) (by rfl) (by decide) ?_
        refine wa_bipush fx (99 : Int32) dX0_givesUp_55 (by decide) ?_
        exact fn_i (rm_ws g ad) fx hf (Option.some.inj h) rfl dX0_givesUp_57
      · have h := (if_neg c2).symm.trans h
        by_cases c3 : (st.1 3 (Int32.toNatClampNeg a1)) = (5 : Int32)
        · have h := (if_pos c3).symm.trans h
          refine wa_tabI fx 53 (5 : Int) dX0_givesUp_6 (by rw [c3] <;> rfl) (by decide) (by decide) (by rfl) (by decide) ?_
          refine wa_iconst fx (4 : Int32) dX0_givesUp_53 (by decide) ?_
          exact fn_i (rm_ws g ad) fx hf (Option.some.inj h) rfl dX0_givesUp_54
        · have h := (if_neg c3).symm.trans h
          refine wa_tabD fx 58 dX0_givesUp_6 (by decide) [(1 : Int32), (3 : Int32), (4 : Int32), (5 : Int32)] (by decide) (List.forall_mem_cons.mpr ⟨c0, (List.forall_mem_cons.mpr ⟨c1, (List.forall_mem_cons.mpr ⟨c2, (List.forall_mem_cons.mpr ⟨c3, (fun _ hm => absurd hm List.not_mem_nil)⟩)⟩)⟩)⟩) ?_
          refine wa_bipush fx (8 : Int32) dX0_givesUp_58 (by decide) ?_
          exact fn_i (rm_ws g ad) fx hf (Option.some.inj h) rfl dX0_givesUp_60
def f_X0_howWell_b50 (st : StT) (x2 : Int32) (x3 : Int32) (x4 : Int32) : Option (Int32) := if (7 : Int32) ≤ x3 then (some x4) else (ck (x3 + (1 : Int32)) 8 (if (st.1 2 (Int32.toNatClampNeg (x3 + (1 : Int32)))) < 0 then (some x4) else (ck (x3 + (1 : Int32)) 8 (if (st.1 2 (Int32.toNatClampNeg (x3 + (1 : Int32)))) = x2 then (some x4) else (ck (x3 + (1 : Int32)) 8 (Option.bind (f_X0_minds st x2 (st.1 2 (Int32.toNatClampNeg (x3 + (1 : Int32))))) fun z5 => nm (x4 + z5) fun x6 => some x6))))))
def f_X0_howWell (st : StT) (a1 : Int32) (a2 : Int32) : Option (Int32) := Option.bind (f_X0_likes st a1 a2) fun z1 => if a2 ≤ 0 then (f_X0_howWell_b50 st a1 a2 z1) else (ck (a2 - (1 : Int32)) 8 (if (st.1 2 (Int32.toNatClampNeg (a2 - (1 : Int32)))) < 0 then (f_X0_howWell_b50 st a1 a2 z1) else (ck (a2 - (1 : Int32)) 8 (if (st.1 2 (Int32.toNatClampNeg (a2 - (1 : Int32)))) = a1 then (f_X0_howWell_b50 st a1 a2 z1) else (ck (a2 - (1 : Int32)) 8 (Option.bind (f_X0_minds st a1 (st.1 2 (Int32.toNatClampNeg (a2 - (1 : Int32))))) fun z7 => nm (z1 + z7) fun x8 => f_X0_howWell_b50 st a1 a2 x8))))))
set_option maxHeartbeats 4000000 in
set_option maxRecDepth 100000 in
theorem c_X0_howWell {g : GT} {l : Launch} {ad : Nat → Nat}   {st : StT} {a1 : Int32} {a2 : Int32} {r : Int32} (h : f_X0_howWell st a1 a2 = some r) : Ct g l yX0_howWell (wd yX0_howWell cX0_howWell 4 (some .int)) (rmh 3) [.ref (ad 0), .int a1, .int a2] (rm_ws g ad st) (rm_ws g ad st) (some (.int r)) := by
  refine Ct.of (lv := [(0, .ref (ad 0)), (1, .int a1), (2, .int a2)]) (by decide) (Nat.le_of_ble_eq_true rfl) rfl (fun K hl fx hf => ?_)
  subst hl
  rw [f_X0_howWell] at h
  have B50 : ∀  (x2 : Int32) (x3 : Int32) (x4 : Int32), f_X0_howWell_b50 st x2 x3 x4 = some r → WA g K 4 0 0 50 [(0, .ref (ad 0)), (1, .int x2), (2, .int x3), (3, .int x4)] [] (rm_ws g ad st) := by
    intro   x2 x3 x4 h
    rw [f_X0_howWell_b50] at h
    refine wa_iload_n fx 2 dX0_howWell_50 rfl ?_
    refine wa_bipush fx (7 : Int32) dX0_howWell_51 (by decide) ?_
    refine wa_icmp_ge fx 95 dX0_howWell_53 (by decide) h (fun h => ?_) (fun h => ?_)
    · refine wa_iload_n fx 3 dX0_howWell_95 rfl ?_
      exact fn_i (rm_ws g ad) fx hf (Option.some.inj h) rfl dX0_howWell_96
    · refine wa_aload_n fx 0 dX0_howWell_56 rfl ?_
      refine wa_get (v := .ref (ad 3)) fx wm_X0 0 rfl rfl 2 (by decide) q_2_13 rfl rfl dX0_howWell_57 ?_
      refine wa_iload_n fx 2 dX0_howWell_60 rfl ?_
      refine wa_iconst fx (1 : Int32) dX0_howWell_61 (by decide) ?_
      refine wa_iadd fx dX0_howWell_62 ?_
      refine wa_iald (f := st.1 2) fx 3 rfl dX0_howWell_63 h (fun h => ?_)
      refine wa_if_lt fx 95 dX0_howWell_64 (by decide) h (fun h => ?_) (fun h => ?_)
      · refine wa_iload_n fx 3 dX0_howWell_95 rfl ?_
        exact fn_i (rm_ws g ad) fx hf (Option.some.inj h) rfl dX0_howWell_96
      · refine wa_aload_n fx 0 dX0_howWell_67 rfl ?_
        refine wa_get (v := .ref (ad 3)) fx wm_X0 0 rfl rfl 2 (by decide) q_2_13 rfl rfl dX0_howWell_68 ?_
        refine wa_iload_n fx 2 dX0_howWell_71 rfl ?_
        refine wa_iconst fx (1 : Int32) dX0_howWell_72 (by decide) ?_
        refine wa_iadd fx dX0_howWell_73 ?_
        refine wa_iald (f := st.1 2) fx 3 rfl dX0_howWell_74 h (fun h => ?_)
        refine wa_iload_n fx 1 dX0_howWell_75 rfl ?_
        refine wa_icmp_eq fx 95 dX0_howWell_76 (by decide) h (fun h => ?_) (fun h => ?_)
        · refine wa_iload_n fx 3 dX0_howWell_95 rfl ?_
          exact fn_i (rm_ws g ad) fx hf (Option.some.inj h) rfl dX0_howWell_96
        · refine wa_iload_n fx 3 dX0_howWell_79 rfl ?_
          refine wa_aload_n fx 0 dX0_howWell_80 rfl ?_
          refine wa_iload_n fx 1 dX0_howWell_81 rfl ?_
          refine wa_aload_n fx 0 dX0_howWell_82 rfl ?_
          refine wa_get (v := .ref (ad 3)) fx wm_X0 0 rfl rfl 2 (by decide) q_2_13 rfl rfl dX0_howWell_83 ?_
          refine wa_iload_n fx 2 dX0_howWell_86 rfl ?_
          refine wa_iconst fx (1 : Int32) dX0_howWell_87 (by decide) ?_
          refine wa_iadd fx dX0_howWell_88 ?_
          refine wa_iald (f := st.1 2) fx 3 rfl dX0_howWell_89 h (fun h => ?_)
          refine wa_V (b := ad 0) (rmc := (rmh 2)) (As := [.int x2, .int (st.1 2 (Int32.toNatClampNeg (x3 + (1 : Int32))))]) (st := [.int x4]) (wc := (rm_ws g ad st)) (wr := ([] : va_W)) (wcz := fun _ => (rm_ws g ad st)) (w2 := fun _ => (rm_ws g ad st)) (o := fun z5 => some (.int z5)) (s2 := fun z5 => [.int z5, .int x4]) (ci := 0) (q0 := 0) fx mm_X0_minds q_14_2 dX0_howWell_90 h (fun _ hz => c_X0_minds hz) rfl rfl (rm_ok (by decide) (by decide)) ⟨Nat.zero_le _, Nat.zero_le _⟩ rfl (List.Perm.refl _) (fun _ => (List.Perm.refl _)) rfl (Nat.le_of_ble_eq_true rfl) (fun _ => rfl) (fun z5 h => ?_)
          refine wa_iadd fx dX0_howWell_93 ?_
          refine wa_istore_nN fx (fun x6 => [(3, .int x6), (0, .ref (ad 0)), (1, .int x2), (2, .int x3)]) dX0_howWell_94 rfl (by decide) (fun _ => rfl) h (fun x6 h => ?_)
          refine wa_iload_n fx 0 dX0_howWell_95 rfl ?_
          exact fn_i (rm_ws g ad) fx hf (Option.some.inj h) rfl dX0_howWell_96
  refine wa_aload_n fx 0 dX0_howWell_0 rfl ?_
  refine wa_iload_n fx 1 dX0_howWell_1 rfl ?_
  refine wa_iload_n fx 2 dX0_howWell_2 rfl ?_
  refine wa_V (b := ad 0) (rmc := (rmh 2)) (As := [.int a1, .int a2]) (st := []) (wc := (rm_ws g ad st)) (wr := ([] : va_W)) (wcz := fun _ => (rm_ws g ad st)) (w2 := fun _ => (rm_ws g ad st)) (o := fun z1 => some (.int z1)) (s2 := fun z1 => [.int z1]) (ci := 0) (q0 := 0) fx mm_X0_likes q_13_17 dX0_howWell_3 h (fun _ hz => c_X0_likes hz) rfl rfl (rm_ok (by decide) (by decide)) ⟨Nat.zero_le _, Nat.zero_le _⟩ rfl (List.Perm.refl _) (fun _ => (List.Perm.refl _)) rfl (Nat.le_of_ble_eq_true rfl) (fun _ => rfl) (fun z1 h => ?_)
  refine wa_istore_n fx [(3, .int z1), (0, .ref (ad 0)), (1, .int a1), (2, .int a2)] dX0_howWell_6 rfl (by decide) rfl ?_
  refine wa_iload_n fx 3 dX0_howWell_7 rfl ?_
  refine wa_if_le fx 50 dX0_howWell_8 (by decide) h (fun h => ?_) (fun h => ?_)
  · refine wa_sub [1, 2, 3, 0] rfl ?_
    exact B50 a1 a2 z1 h
  · refine wa_aload_n fx 1 dX0_howWell_11 rfl ?_
    refine wa_get (v := .ref (ad 3)) fx wm_X0 0 rfl rfl 2 (by decide) q_2_13 rfl rfl dX0_howWell_12 ?_
    refine wa_iload_n fx 3 dX0_howWell_15 rfl ?_
    refine wa_iconst fx (1 : Int32) dX0_howWell_16 (by decide) ?_
    refine wa_isub fx dX0_howWell_17 ?_
    refine wa_iald (f := st.1 2) fx 3 rfl dX0_howWell_18 h (fun h => ?_)
    refine wa_if_lt fx 50 dX0_howWell_19 (by decide) h (fun h => ?_) (fun h => ?_)
    · refine wa_sub [1, 2, 3, 0] rfl ?_
      exact B50 a1 a2 z1 h
    · refine wa_aload_n fx 1 dX0_howWell_22 rfl ?_
      refine wa_get (v := .ref (ad 3)) fx wm_X0 0 rfl rfl 2 (by decide) q_2_13 rfl rfl dX0_howWell_23 ?_
      refine wa_iload_n fx 3 dX0_howWell_26 rfl ?_
      refine wa_iconst fx (1 : Int32) dX0_howWell_27 (by decide) ?_
      refine wa_isub fx dX0_howWell_28 ?_
      refine wa_iald (f := st.1 2) fx 3 rfl dX0_howWell_29 h (fun h => ?_)
      refine wa_iload_n fx 2 dX0_howWell_30 rfl ?_
      refine wa_icmp_eq fx 50 dX0_howWell_31 (by decide) h (fun h => ?_) (fun h => ?_)
      · refine wa_sub [1, 2, 3, 0] rfl ?_
        exact B50 a1 a2 z1 h
      · refine wa_iload_n fx 0 dX0_howWell_34 rfl ?_
        refine wa_aload_n fx 1 dX0_howWell_35 rfl ?_
        refine wa_iload_n fx 2 dX0_howWell_36 rfl ?_
        refine wa_aload_n fx 1 dX0_howWell_37 rfl ?_
        refine wa_get (v := .ref (ad 3)) fx wm_X0 0 rfl rfl 2 (by decide) q_2_13 rfl rfl dX0_howWell_38 ?_
        refine wa_iload_n fx 3 dX0_howWell_41 rfl ?_
        refine wa_iconst fx (1 : Int32) dX0_howWell_42 (by decide) ?_
        refine wa_isub fx dX0_howWell_43 ?_
        refine wa_iald (f := st.1 2) fx 3 rfl dX0_howWell_44 h (fun h => ?_)
        refine wa_V (b := ad 0) (rmc := (rmh 2)) (As := [.int a1, .int (st.1 2 (Int32.toNatClampNeg (a2 - (1 : Int32))))]) (st := [.int z1]) (wc := (rm_ws g ad st)) (wr := ([] : va_W)) (wcz := fun _ => (rm_ws g ad st)) (w2 := fun _ => (rm_ws g ad st)) (o := fun z7 => some (.int z7)) (s2 := fun z7 => [.int z7, .int z1]) (ci := 0) (q0 := 0) fx mm_X0_minds q_14_2 dX0_howWell_45 h (fun _ hz => c_X0_minds hz) rfl rfl (rm_ok (by decide) (by decide)) ⟨Nat.zero_le _, Nat.zero_le _⟩ rfl (List.Perm.refl _) (fun _ => (List.Perm.refl _)) rfl (Nat.le_of_ble_eq_true rfl) (fun _ => rfl) (fun z7 h => ?_)
        refine wa_iadd fx dX0_howWell_48 ?_
        refine wa_istore_nN fx (fun x8 => [(3, .int x8), (0, .ref (ad 0)), (1, .int a1), (2, .int a2)]) dX0_howWell_49 rfl (by decide) (fun _ => rfl) h (fun x8 h => ?_)
        refine wa_sub [1, 2, 3, 0] rfl ?_
        exact B50 a1 a2 x8 h
def f_X0_howWellNow (st : StT) (a1 : Int32) : Option (Int32) := ck a1 8 (if (st.1 8 (Int32.toNatClampNeg a1)) < 0 then (some (-1000 : Int32)) else (ck a1 8 (Option.bind (f_X0_howWell st a1 (st.1 8 (Int32.toNatClampNeg a1))) fun z1 => some z1)))
set_option maxHeartbeats 4000000 in
set_option maxRecDepth 100000 in
theorem c_X0_howWellNow {g : GT} {l : Launch} {ad : Nat → Nat}   {st : StT} {a1 : Int32} {r : Int32} (h : f_X0_howWellNow st a1 = some r) : Ct g l yX0_howWellNow (wd yX0_howWellNow cX0_howWellNow 2 (some .int)) (rmh 4) [.ref (ad 0), .int a1] (rm_ws g ad st) (rm_ws g ad st) (some (.int r)) := by
  refine Ct.of (lv := [(0, .ref (ad 0)), (1, .int a1)]) (by decide) (Nat.le_of_ble_eq_true rfl) rfl (fun K hl fx hf => ?_)
  subst hl
  rw [f_X0_howWellNow] at h
  refine wa_aload_n fx 0 dX0_howWellNow_0 rfl ?_
  refine wa_get (v := .ref (ad 9)) fx wm_X0 0 rfl rfl 8 (by decide) q_2_19 rfl rfl dX0_howWellNow_1 ?_
  refine wa_iload_n fx 1 dX0_howWellNow_4 rfl ?_
  refine wa_iald (f := st.1 8) fx 9 rfl dX0_howWellNow_5 h (fun h => ?_)
  refine wa_if_lt fx 23 dX0_howWellNow_6 (by decide) h (fun h => ?_) (fun h => ?_)
  · refine wa_sipush fx (-1000 : Int32) dX0_howWellNow_23 (by decide) ?_
    exact fn_i (rm_ws g ad) fx hf (Option.some.inj h) rfl dX0_howWellNow_26
  · refine wa_aload_n fx 0 dX0_howWellNow_9 rfl ?_
    refine wa_iload_n fx 1 dX0_howWellNow_10 rfl ?_
    refine wa_aload_n fx 0 dX0_howWellNow_11 rfl ?_
    refine wa_get (v := .ref (ad 9)) fx wm_X0 0 rfl rfl 8 (by decide) q_2_19 rfl rfl dX0_howWellNow_12 ?_
    refine wa_iload_n fx 1 dX0_howWellNow_15 rfl ?_
    refine wa_iald (f := st.1 8) fx 9 rfl dX0_howWellNow_16 h (fun h => ?_)
    refine wa_V (b := ad 0) (rmc := (rmh 3)) (As := [.int a1, .int (st.1 8 (Int32.toNatClampNeg a1))]) (st := []) (wc := (rm_ws g ad st)) (wr := ([] : va_W)) (wcz := fun _ => (rm_ws g ad st)) (w2 := fun _ => (rm_ws g ad st)) (o := fun z1 => some (.int z1)) (s2 := fun z1 => [.int z1]) (ci := 0) (q0 := 0) fx mm_X0_howWell q_16_1 dX0_howWellNow_17 h (fun _ hz => c_X0_howWell hz) rfl rfl (rm_ok (by decide) (by decide)) ⟨Nat.zero_le _, Nat.zero_le _⟩ rfl (List.Perm.refl _) (fun _ => (List.Perm.refl _)) rfl (Nat.le_of_ble_eq_true rfl) (fun _ => rfl) (fun z1 h => ?_)
    refine wa_goto fx 26 dX0_howWellNow_20 (by decide) ?_
    exact fn_i (rm_ws g ad) fx hf (Option.some.inj h) rfl dX0_howWellNow_26
def f_X0_together_b35 (k4 : (Int32) → (Int32) → Option (Int32)) (st : StT) (x5 : Int32) (x6 : Int32) : Option (Int32) := nm (x6 + (1 : Int32)) fun x7 => k4 x5 x7
def f_X0_together_l4 (st : StT) : Nat → (Int32) → (Int32) → Option (Int32)
  | 0, _, _ => none
  | n + 1, x3, x4 => if (st.2.2 0) ≤ x4 then (some x3) else (ck x4 8 (if (st.1 8 (Int32.toNatClampNeg x4)) < 0 then (f_X0_together_b35 (f_X0_together_l4 st n) st x3 x4) else (ck x4 8 (Option.bind (f_X0_howWell st x4 (st.1 8 (Int32.toNatClampNeg x4))) fun z8 => nm (x3 + z8) fun x9 => f_X0_together_b35 (f_X0_together_l4 st n) st x9 x4))))
def f_X0_together (st : StT)  : Option (Int32) := f_X0_together_l4 st 200 (0 : Int32) (0 : Int32)
set_option maxHeartbeats 4000000 in
set_option maxRecDepth 100000 in
theorem c_X0_together {g : GT} {l : Launch} {ad : Nat → Nat}   {st : StT}  {r : Int32} (h : f_X0_together st = some r) : Ct g l yX0_together (wd yX0_together cX0_together 3 (some .int)) (rmh 4) [.ref (ad 0)] (rm_ws g ad st) (rm_ws g ad st) (some (.int r)) := by
  refine Ct.of (lv := [(0, .ref (ad 0))]) (by decide) (Nat.le_of_ble_eq_true rfl) rfl (fun K hl fx hf => ?_)
  subst hl
  rw [f_X0_together] at h
  have B35 : ∀ (k4 : (Int32) → (Int32) → Option (Int32)) (Hk4 : ∀ (y1 : Int32) (y2 : Int32), k4 y1 y2 = some r → WA g K 3 0 0 4 [(0, .ref (ad 0)), (1, .int y1), (2, .int y2)] [] (rm_ws g ad st)) (x5 : Int32) (x6 : Int32), f_X0_together_b35 k4 st x5 x6 = some r → WA g K 3 0 0 35 [(0, .ref (ad 0)), (1, .int x5), (2, .int x6)] [] (rm_ws g ad st) := by
    intro  k4 Hk4 x5 x6 h
    rw [f_X0_together_b35] at h
    refine wa_iinc fx 2 (fun x7 => [(2, .int x7), (0, .ref (ad 0)), (1, .int x5)]) dX0_together_35 rfl (by rfl) (by decide) (fun _ => rfl) h (fun x7 h => ?_)
    refine wa_goto fx 4 dX0_together_38 (by decide) ?_
    refine wa_sub [1, 2, 0] rfl ?_
    exact Hk4 x5 x7 h
  have B4 : ∀  (n : Nat) (x3 : Int32) (x4 : Int32), f_X0_together_l4 st n x3 x4 = some r → WA g K 3 0 0 4 [(0, .ref (ad 0)), (1, .int x3), (2, .int x4)] [] (rm_ws g ad st) := by
    intro   n
    induction n with
    | zero => intro x3 x4 h; exact absurd h (by rw [f_X0_together_l4]; exact nofun)
    | succ n ih =>
      intro x3 x4 h
      rw [f_X0_together_l4] at h
      refine wa_iload_n fx 2 dX0_together_4 rfl ?_
      refine wa_aload_n fx 0 dX0_together_5 rfl ?_
      refine wa_get (v := .int (st.2.2 0)) fx wm_X0 0 rfl rfl 9 (by decide) q_7_5 rfl rfl dX0_together_6 ?_
      refine wa_icmp_ge fx 41 dX0_together_9 (by decide) h (fun h => ?_) (fun h => ?_)
      · refine wa_iload_n fx 1 dX0_together_41 rfl ?_
        exact fn_i (rm_ws g ad) fx hf (Option.some.inj h) rfl dX0_together_42
      · refine wa_aload_n fx 0 dX0_together_12 rfl ?_
        refine wa_get (v := .ref (ad 9)) fx wm_X0 0 rfl rfl 8 (by decide) q_2_19 rfl rfl dX0_together_13 ?_
        refine wa_iload_n fx 2 dX0_together_16 rfl ?_
        refine wa_iald (f := st.1 8) fx 9 rfl dX0_together_17 h (fun h => ?_)
        refine wa_if_lt fx 35 dX0_together_18 (by decide) h (fun h => ?_) (fun h => ?_)
        · refine wa_sub [0, 1, 2] rfl ?_
          exact B35 (f_X0_together_l4 st n) ih x3 x4 h
        · refine wa_iload_n fx 1 dX0_together_21 rfl ?_
          refine wa_aload_n fx 0 dX0_together_22 rfl ?_
          refine wa_iload_n fx 2 dX0_together_23 rfl ?_
          refine wa_aload_n fx 0 dX0_together_24 rfl ?_
          refine wa_get (v := .ref (ad 9)) fx wm_X0 0 rfl rfl 8 (by decide) q_2_19 rfl rfl dX0_together_25 ?_
          refine wa_iload_n fx 2 dX0_together_28 rfl ?_
          refine wa_iald (f := st.1 8) fx 9 rfl dX0_together_29 h (fun h => ?_)
          refine wa_V (b := ad 0) (rmc := (rmh 3)) (As := [.int x4, .int (st.1 8 (Int32.toNatClampNeg x4))]) (st := [.int x3]) (wc := (rm_ws g ad st)) (wr := ([] : va_W)) (wcz := fun _ => (rm_ws g ad st)) (w2 := fun _ => (rm_ws g ad st)) (o := fun z8 => some (.int z8)) (s2 := fun z8 => [.int z8, .int x3]) (ci := 0) (q0 := 0) fx mm_X0_howWell q_16_1 dX0_together_30 h (fun _ hz => c_X0_howWell hz) rfl rfl (rm_ok (by decide) (by decide)) ⟨Nat.zero_le _, Nat.zero_le _⟩ rfl (List.Perm.refl _) (fun _ => (List.Perm.refl _)) rfl (Nat.le_of_ble_eq_true rfl) (fun _ => rfl) (fun z8 h => ?_)
          refine wa_iadd fx dX0_together_33 ?_
          refine wa_istore_nN fx (fun x9 => [(1, .int x9), (0, .ref (ad 0)), (2, .int x4)]) dX0_together_34 rfl (by decide) (fun _ => rfl) h (fun x9 h => ?_)
          refine wa_sub [1, 0, 2] rfl ?_
          exact B35 (f_X0_together_l4 st n) ih x9 x4 h
  refine wa_iconst fx (0 : Int32) dX0_together_0 (by decide) ?_
  refine wa_istore_n fx [(1, .int (0 : Int32)), (0, .ref (ad 0))] dX0_together_1 rfl (by decide) rfl ?_
  refine wa_iconst fx (0 : Int32) dX0_together_2 (by decide) ?_
  refine wa_istore_n fx [(2, .int (0 : Int32)), (1, .int (0 : Int32)), (0, .ref (ad 0))] dX0_together_3 rfl (by decide) rfl ?_
  refine wa_sub [2, 1, 0] rfl ?_
  exact B4 200 (0 : Int32) (0 : Int32) h
def f_X0_movesToEmpty_b88 (x11 : Int32) (x12 : Int32) (w13 : StT) : Option (Int32 × (StT)) := Option.bind (f_X0_seat w13 x11 x12) fun z14 => some ((1 : Int32), z14)
def f_X0_movesToEmpty_b51 (k7 : (Int32) → (Int32) → (Int32) → (Int32) → (StT) → Option (Int32 × (StT))) (x16 : Int32) (x17 : Int32) (x18 : Int32) (x19 : Int32) (w20 : StT) : Option (Int32 × (StT)) := nm (x19 + (1 : Int32)) fun x21 => k7 x16 x17 x18 x21 w20
def f_X0_movesToEmpty_b45 (k7 : (Int32) → (Int32) → (Int32) → (Int32) → (StT) → Option (Int32 × (StT))) (x23 : Int32) (x24 : Int32) (x25 : Int32) (w26 : StT) : Option (Int32 × (StT)) := f_X0_movesToEmpty_b51 k7 x23 x24 x25 x24 w26
def f_X0_movesToEmpty_l7 : Nat → (Int32) → (Int32) → (Int32) → (Int32) → (StT) → Option (Int32 × (StT))
  | 0, _, _, _, _, _ => none
  | n + 1, x6, x7, x8, x9, w10 => if (8 : Int32) ≤ x9 then (if x7 = (-1 : Int32) then (some ((0 : Int32), w10)) else (ck x6 8 (if (w10.1 8 (Int32.toNatClampNeg x6)) < 0 then (f_X0_movesToEmpty_b88 x6 x7 w10) else (ck x6 8 (Option.bind (f_X0_howWell w10 x6 (w10.1 8 (Int32.toNatClampNeg x6))) fun z15 => if z15 < x8 then (f_X0_movesToEmpty_b88 x6 x7 w10) else (some ((0 : Int32), w10))))))) else (ck x9 8 (if (w10.1 2 (Int32.toNatClampNeg x9)) = (-1 : Int32) then (Option.bind (f_X0_howWell w10 x6 x9) fun z22 => if x7 = (-1 : Int32) then (f_X0_movesToEmpty_b45 (f_X0_movesToEmpty_l7 n) x6 x9 z22 w10) else (if z22 ≤ x8 then (f_X0_movesToEmpty_b51 (f_X0_movesToEmpty_l7 n) x6 x7 x8 x9 w10) else (f_X0_movesToEmpty_b45 (f_X0_movesToEmpty_l7 n) x6 x9 z22 w10))) else (f_X0_movesToEmpty_b51 (f_X0_movesToEmpty_l7 n) x6 x7 x8 x9 w10)))
def f_X0_movesToEmpty  (st : StT) (a1 : Int32) : Option (Int32 × (StT)) := f_X0_movesToEmpty_l7 200 a1 (-1 : Int32) (0 : Int32) (0 : Int32) st
set_option maxHeartbeats 4000000 in
set_option maxRecDepth 100000 in
theorem c_X0_movesToEmpty {g : GT} {l : Launch} {ad : Nat → Nat}   {st : StT} {a1 : Int32} {r : Int32 × (StT)} (h : f_X0_movesToEmpty st a1 = some r) : Ct g l yX0_movesToEmpty (wd yX0_movesToEmpty cX0_movesToEmpty 6 (some .boolean)) (rmh 4) [.ref (ad 0), .int a1] (rm_ws g ad st) (rm_ws g ad r.2) (some (.int r.1)) := by
  refine Ct.of (lv := [(0, .ref (ad 0)), (1, .int a1)]) (by decide) (Nat.le_of_ble_eq_true rfl) rfl (fun K hl fx hf => ?_)
  subst hl
  rw [f_X0_movesToEmpty] at h
  have B88 : ∀  (x11 : Int32) (x12 : Int32) (w13 : StT), f_X0_movesToEmpty_b88 x11 x12 w13 = some r → WA g K 6 0 0 88 [(0, .ref (ad 0)), (1, .int x11), (2, .int x12)] [] (rm_ws g ad w13) := by
    intro   x11 x12 w13 h
    rw [f_X0_movesToEmpty_b88] at h
    refine wa_aload_n fx 0 dX0_movesToEmpty_88 rfl ?_
    refine wa_iload_n fx 1 dX0_movesToEmpty_89 rfl ?_
    refine wa_iload_n fx 2 dX0_movesToEmpty_90 rfl ?_
    refine wa_V (b := ad 0) (rmc := (rmh 1)) (As := [.int x11, .int x12]) (st := []) (wc := (rm_ws g ad w13)) (wr := ([] : va_W)) (wcz := fun z14 => rm_ws g ad z14) (w2 := fun z14 => rm_ws g ad z14) (o := fun _ => none) (s2 := fun z14 => []) (ci := 0) (q0 := 0) fx mm_X0_seat q_16_2 dX0_movesToEmpty_91 h (fun _ hz => c_X0_seat hz) rfl rfl (rm_ok (by decide) (by decide)) ⟨Nat.zero_le _, Nat.zero_le _⟩ rfl (List.Perm.refl _) (fun _ => List.Perm.refl _) rfl (Nat.le_of_ble_eq_true rfl) (fun _ => rfl) (fun z14 h => ?_)
    refine wa_iconst fx (1 : Int32) dX0_movesToEmpty_94 (by decide) ?_
    exact fn_z (rm_ws g ad) fx hf (by decide) (sn1 h) (sn2 h) dX0_movesToEmpty_95
  have B51 : ∀ (k7 : (Int32) → (Int32) → (Int32) → (Int32) → (StT) → Option (Int32 × (StT))) (Hk7 : ∀ (y1 : Int32) (y2 : Int32) (y3 : Int32) (y4 : Int32) (w5 : StT), k7 y1 y2 y3 y4 w5 = some r → WA g K 6 0 0 7 [(0, .ref (ad 0)), (1, .int y1), (2, .int y2), (3, .int y3), (4, .int y4)] [] (rm_ws g ad w5)) (x16 : Int32) (x17 : Int32) (x18 : Int32) (x19 : Int32) (w20 : StT), f_X0_movesToEmpty_b51 k7 x16 x17 x18 x19 w20 = some r → WA g K 6 0 0 51 [(0, .ref (ad 0)), (1, .int x16), (2, .int x17), (3, .int x18), (4, .int x19)] [] (rm_ws g ad w20) := by
    intro  k7 Hk7 x16 x17 x18 x19 w20 h
    rw [f_X0_movesToEmpty_b51] at h
    refine wa_iinc fx 4 (fun x21 => [(4, .int x21), (0, .ref (ad 0)), (1, .int x16), (2, .int x17), (3, .int x18)]) dX0_movesToEmpty_51 rfl (by rfl) (by decide) (fun _ => rfl) h (fun x21 h => ?_)
    refine wa_goto fx 7 dX0_movesToEmpty_54 (by decide) ?_
    refine wa_sub [1, 2, 3, 4, 0] rfl ?_
    exact Hk7 x16 x17 x18 x21 w20 h
  have B45 : ∀ (k7 : (Int32) → (Int32) → (Int32) → (Int32) → (StT) → Option (Int32 × (StT))) (Hk7 : ∀ (y1 : Int32) (y2 : Int32) (y3 : Int32) (y4 : Int32) (w5 : StT), k7 y1 y2 y3 y4 w5 = some r → WA g K 6 0 0 7 [(0, .ref (ad 0)), (1, .int y1), (2, .int y2), (3, .int y3), (4, .int y4)] [] (rm_ws g ad w5)) (x23 : Int32) (x24 : Int32) (x25 : Int32) (w26 : StT), f_X0_movesToEmpty_b45 k7 x23 x24 x25 w26 = some r → WA g K 6 0 0 45 [(0, .ref (ad 0)), (1, .int x23), (4, .int x24), (5, .int x25)] [] (rm_ws g ad w26) := by
    intro  k7 Hk7 x23 x24 x25 w26 h
    rw [f_X0_movesToEmpty_b45] at h
    refine wa_iload fx 2 dX0_movesToEmpty_45 rfl ?_
    refine wa_istore_n fx [(2, .int x24), (0, .ref (ad 0)), (1, .int x23), (4, .int x24), (5, .int x25)] dX0_movesToEmpty_47 rfl (by decide) rfl ?_
    refine wa_iload fx 4 dX0_movesToEmpty_48 rfl ?_
    refine wa_istore_n fx [(3, .int x25), (2, .int x24), (0, .ref (ad 0)), (1, .int x23), (4, .int x24), (5, .int x25)] dX0_movesToEmpty_50 rfl (by decide) rfl ?_
    refine wa_sub [2, 3, 1, 0, 4] rfl ?_
    exact B51 k7 Hk7 x23 x24 x25 x24 w26 h
  have B7 : ∀  (n : Nat) (x6 : Int32) (x7 : Int32) (x8 : Int32) (x9 : Int32) (w10 : StT), f_X0_movesToEmpty_l7 n x6 x7 x8 x9 w10 = some r → WA g K 6 0 0 7 [(0, .ref (ad 0)), (1, .int x6), (2, .int x7), (3, .int x8), (4, .int x9)] [] (rm_ws g ad w10) := by
    intro   n
    induction n with
    | zero => intro x6 x7 x8 x9 w10 h; exact absurd h (by rw [f_X0_movesToEmpty_l7]; exact nofun)
    | succ n ih =>
      intro x6 x7 x8 x9 w10 h
      rw [f_X0_movesToEmpty_l7] at h
      refine wa_iload fx 4 dX0_movesToEmpty_7 rfl ?_
      refine wa_bipush fx (8 : Int32) dX0_movesToEmpty_9 (by decide) ?_
      refine wa_icmp_ge fx 57 dX0_movesToEmpty_11 (by decide) h (fun h => ?_) (fun h => ?_)
      · refine wa_iload_n fx 2 dX0_movesToEmpty_57 rfl ?_
        refine wa_iconst fx (-1 : Int32) dX0_movesToEmpty_58 (by decide) ?_
        refine wa_icmp_eq fx 86 dX0_movesToEmpty_59 (by decide) h (fun h => ?_) (fun h => ?_)
        · refine wa_iconst fx (0 : Int32) dX0_movesToEmpty_86 (by decide) ?_
          exact fn_z (rm_ws g ad) fx hf (by decide) (sn1 h) (sn2 h) dX0_movesToEmpty_87
        · refine wa_aload_n fx 0 dX0_movesToEmpty_62 rfl ?_
          refine wa_get (v := .ref (ad 9)) fx wm_X0 0 rfl rfl 8 (by decide) q_2_19 rfl rfl dX0_movesToEmpty_63 ?_
          refine wa_iload_n fx 1 dX0_movesToEmpty_66 rfl ?_
          refine wa_iald (f := w10.1 8) fx 9 rfl dX0_movesToEmpty_67 h (fun h => ?_)
          refine wa_if_lt fx 88 dX0_movesToEmpty_68 (by decide) h (fun h => ?_) (fun h => ?_)
          · refine wa_sub [0, 1, 2] rfl ?_
            exact B88 x6 x7 w10 h
          · refine wa_iload_n fx 3 dX0_movesToEmpty_71 rfl ?_
            refine wa_aload_n fx 0 dX0_movesToEmpty_72 rfl ?_
            refine wa_iload_n fx 1 dX0_movesToEmpty_73 rfl ?_
            refine wa_aload_n fx 0 dX0_movesToEmpty_74 rfl ?_
            refine wa_get (v := .ref (ad 9)) fx wm_X0 0 rfl rfl 8 (by decide) q_2_19 rfl rfl dX0_movesToEmpty_75 ?_
            refine wa_iload_n fx 1 dX0_movesToEmpty_78 rfl ?_
            refine wa_iald (f := w10.1 8) fx 9 rfl dX0_movesToEmpty_79 h (fun h => ?_)
            refine wa_V (b := ad 0) (rmc := (rmh 3)) (As := [.int x6, .int (w10.1 8 (Int32.toNatClampNeg x6))]) (st := [.int x8]) (wc := (rm_ws g ad w10)) (wr := ([] : va_W)) (wcz := fun _ => (rm_ws g ad w10)) (w2 := fun _ => (rm_ws g ad w10)) (o := fun z15 => some (.int z15)) (s2 := fun z15 => [.int z15, .int x8]) (ci := 0) (q0 := 0) fx mm_X0_howWell q_16_1 dX0_movesToEmpty_80 h (fun _ hz => c_X0_howWell hz) rfl rfl (rm_ok (by decide) (by decide)) ⟨Nat.zero_le _, Nat.zero_le _⟩ rfl (List.Perm.refl _) (fun _ => (List.Perm.refl _)) rfl (Nat.le_of_ble_eq_true rfl) (fun _ => rfl) (fun z15 h => ?_)
            refine wa_icmp_gt fx 88 dX0_movesToEmpty_83 (by decide) h (fun h => ?_) (fun h => ?_)
            · refine wa_sub [0, 1, 2] rfl ?_
              exact B88 x6 x7 w10 h
            · refine wa_iconst fx (0 : Int32) dX0_movesToEmpty_86 (by decide) ?_
              exact fn_z (rm_ws g ad) fx hf (by decide) (sn1 h) (sn2 h) dX0_movesToEmpty_87
      · refine wa_aload_n fx 0 dX0_movesToEmpty_14 rfl ?_
        refine wa_get (v := .ref (ad 3)) fx wm_X0 0 rfl rfl 2 (by decide) q_2_13 rfl rfl dX0_movesToEmpty_15 ?_
        refine wa_iload fx 4 dX0_movesToEmpty_18 rfl ?_
        refine wa_iald (f := w10.1 2) fx 3 rfl dX0_movesToEmpty_20 h (fun h => ?_)
        refine wa_iconst fx (-1 : Int32) dX0_movesToEmpty_21 (by decide) ?_
        refine wa_icmp_ne fx 51 dX0_movesToEmpty_22 (by decide) h (fun h => ?_) (fun h => ?_)
        · refine wa_aload_n fx 0 dX0_movesToEmpty_25 rfl ?_
          refine wa_iload_n fx 1 dX0_movesToEmpty_26 rfl ?_
          refine wa_iload fx 4 dX0_movesToEmpty_27 rfl ?_
          refine wa_V (b := ad 0) (rmc := (rmh 3)) (As := [.int x6, .int x9]) (st := []) (wc := (rm_ws g ad w10)) (wr := ([] : va_W)) (wcz := fun _ => (rm_ws g ad w10)) (w2 := fun _ => (rm_ws g ad w10)) (o := fun z22 => some (.int z22)) (s2 := fun z22 => [.int z22]) (ci := 0) (q0 := 0) fx mm_X0_howWell q_16_1 dX0_movesToEmpty_29 h (fun _ hz => c_X0_howWell hz) rfl rfl (rm_ok (by decide) (by decide)) ⟨Nat.zero_le _, Nat.zero_le _⟩ rfl (List.Perm.refl _) (fun _ => (List.Perm.refl _)) rfl (Nat.le_of_ble_eq_true rfl) (fun _ => rfl) (fun z22 h => ?_)
          refine wa_istore fx [(5, .int z22), (0, .ref (ad 0)), (1, .int x6), (2, .int x7), (3, .int x8), (4, .int x9)] dX0_movesToEmpty_32 (by decide) rfl ?_
          refine wa_iload_n fx 3 dX0_movesToEmpty_34 rfl ?_
          refine wa_iconst fx (-1 : Int32) dX0_movesToEmpty_35 (by decide) ?_
          refine wa_icmp_eq fx 45 dX0_movesToEmpty_36 (by decide) h (fun h => ?_) (fun h => ?_)
          · refine wa_sub [1, 2, 5, 0] rfl ?_
            exact B45 (f_X0_movesToEmpty_l7 n) ih x6 x9 z22 w10 h
          · refine wa_iload fx 0 dX0_movesToEmpty_39 rfl ?_
            refine wa_iload_n fx 4 dX0_movesToEmpty_41 rfl ?_
            refine wa_icmp_le fx 51 dX0_movesToEmpty_42 (by decide) h (fun h => ?_) (fun h => ?_)
            · refine wa_sub [1, 2, 3, 4, 5] rfl ?_
              exact B51 (f_X0_movesToEmpty_l7 n) ih x6 x7 x8 x9 w10 h
            · refine wa_sub [1, 2, 5, 0] rfl ?_
              exact B45 (f_X0_movesToEmpty_l7 n) ih x6 x9 z22 w10 h
        · refine wa_sub [0, 1, 2, 3, 4] rfl ?_
          exact B51 (f_X0_movesToEmpty_l7 n) ih x6 x7 x8 x9 w10 h
  refine wa_iconst fx (-1 : Int32) dX0_movesToEmpty_0 (by decide) ?_
  refine wa_istore_n fx [(2, .int (-1 : Int32)), (0, .ref (ad 0)), (1, .int a1)] dX0_movesToEmpty_1 rfl (by decide) rfl ?_
  refine wa_iconst fx (0 : Int32) dX0_movesToEmpty_2 (by decide) ?_
  refine wa_istore_n fx [(3, .int (0 : Int32)), (2, .int (-1 : Int32)), (0, .ref (ad 0)), (1, .int a1)] dX0_movesToEmpty_3 rfl (by decide) rfl ?_
  refine wa_iconst fx (0 : Int32) dX0_movesToEmpty_4 (by decide) ?_
  refine wa_istore fx [(4, .int (0 : Int32)), (3, .int (0 : Int32)), (2, .int (-1 : Int32)), (0, .ref (ad 0)), (1, .int a1)] dX0_movesToEmpty_5 (by decide) rfl ?_
  refine wa_sub [3, 4, 2, 1, 0] rfl ?_
  exact B7 200 a1 (-1 : Int32) (0 : Int32) (0 : Int32) st h
def f_X0_takesItsClaim  (st : StT) (a1 : Int32) : Option (Int32 × (StT)) := ck a1 8 (nm (st.1 5 (Int32.toNatClampNeg a1)) fun x1 => if 0 ≤ x1 then (ck x1 8 (nm (st.1 2 (Int32.toNatClampNeg x1)) fun x2 => if x2 < 0 then (some ((0 : Int32), st)) else (if x2 = a1 then (some ((0 : Int32), st)) else (Option.bind (f_X0_howWell st a1 x1) fun z3 => Option.bind (f_X0_howWell st x2 x1) fun z4 => Option.bind (f_X0_givesUp st x2) fun z5 => if (z4 + z5) ≤ z3 then (Option.bind (f_X0_swap st a1 x2) fun z6 => some ((1 : Int32), z6)) else (some ((0 : Int32), st)))))) else (some ((0 : Int32), st)))
set_option maxHeartbeats 4000000 in
set_option maxRecDepth 100000 in
theorem c_X0_takesItsClaim {g : GT} {l : Launch} {ad : Nat → Nat}   {st : StT} {a1 : Int32} {r : Int32 × (StT)} (h : f_X0_takesItsClaim st a1 = some r) : Ct g l yX0_takesItsClaim (wd yX0_takesItsClaim cX0_takesItsClaim 4 (some .boolean)) (rmh 4) [.ref (ad 0), .int a1] (rm_ws g ad st) (rm_ws g ad r.2) (some (.int r.1)) := by
  refine Ct.of (lv := [(0, .ref (ad 0)), (1, .int a1)]) (by decide) (Nat.le_of_ble_eq_true rfl) rfl (fun K hl fx hf => ?_)
  subst hl
  rw [f_X0_takesItsClaim] at h
  refine wa_aload_n fx 0 dX0_takesItsClaim_0 rfl ?_
  refine wa_get (v := .ref (ad 6)) fx wm_X0 0 rfl rfl 5 (by decide) q_2_16 rfl rfl dX0_takesItsClaim_1 ?_
  refine wa_iload_n fx 1 dX0_takesItsClaim_4 rfl ?_
  refine wa_iald (f := st.1 5) fx 6 rfl dX0_takesItsClaim_5 h (fun h => ?_)
  refine wa_istore_nN fx (fun x1 => [(2, .int x1), (0, .ref (ad 0)), (1, .int a1)]) dX0_takesItsClaim_6 rfl (by decide) (fun _ => rfl) h (fun x1 h => ?_)
  refine wa_iload_n fx 0 dX0_takesItsClaim_7 rfl ?_
  refine wa_if_ge fx 13 dX0_takesItsClaim_8 (by decide) h (fun h => ?_) (fun h => ?_)
  · refine wa_aload_n fx 1 dX0_takesItsClaim_13 rfl ?_
    refine wa_get (v := .ref (ad 3)) fx wm_X0 0 rfl rfl 2 (by decide) q_2_13 rfl rfl dX0_takesItsClaim_14 ?_
    refine wa_iload_n fx 0 dX0_takesItsClaim_17 rfl ?_
    refine wa_iald (f := st.1 2) fx 3 rfl dX0_takesItsClaim_18 h (fun h => ?_)
    refine wa_istore_nN fx (fun x2 => [(3, .int x2), (2, .int x1), (0, .ref (ad 0)), (1, .int a1)]) dX0_takesItsClaim_19 rfl (by decide) (fun _ => rfl) h (fun x2 h => ?_)
    refine wa_iload_n fx 0 dX0_takesItsClaim_20 rfl ?_
    refine wa_if_lt fx 50 dX0_takesItsClaim_21 (by decide) h (fun h => ?_) (fun h => ?_)
    · refine wa_iconst fx (0 : Int32) dX0_takesItsClaim_50 (by decide) ?_
      exact fn_z (rm_ws g ad) fx hf (by decide) (sn1 h) (sn2 h) dX0_takesItsClaim_51
    · refine wa_iload_n fx 0 dX0_takesItsClaim_24 rfl ?_
      refine wa_iload_n fx 3 dX0_takesItsClaim_25 rfl ?_
      refine wa_icmp_eq fx 50 dX0_takesItsClaim_26 (by decide) h (fun h => ?_) (fun h => ?_)
      · refine wa_iconst fx (0 : Int32) dX0_takesItsClaim_50 (by decide) ?_
        exact fn_z (rm_ws g ad) fx hf (by decide) (sn1 h) (sn2 h) dX0_takesItsClaim_51
      · refine wa_aload_n fx 2 dX0_takesItsClaim_29 rfl ?_
        refine wa_iload_n fx 3 dX0_takesItsClaim_30 rfl ?_
        refine wa_iload_n fx 1 dX0_takesItsClaim_31 rfl ?_
        refine wa_V (b := ad 0) (rmc := (rmh 3)) (As := [.int a1, .int x1]) (st := []) (wc := (rm_ws g ad st)) (wr := ([] : va_W)) (wcz := fun _ => (rm_ws g ad st)) (w2 := fun _ => (rm_ws g ad st)) (o := fun z3 => some (.int z3)) (s2 := fun z3 => [.int z3]) (ci := 0) (q0 := 0) fx mm_X0_howWell q_16_1 dX0_takesItsClaim_32 h (fun _ hz => c_X0_howWell hz) rfl rfl (rm_ok (by decide) (by decide)) ⟨Nat.zero_le _, Nat.zero_le _⟩ rfl (List.Perm.refl _) (fun _ => (List.Perm.refl _)) rfl (Nat.le_of_ble_eq_true rfl) (fun _ => rfl) (fun z3 h => ?_)
        refine wa_aload_n fx 2 dX0_takesItsClaim_35 rfl ?_
        refine wa_iload_n fx 0 dX0_takesItsClaim_36 rfl ?_
        refine wa_iload_n fx 1 dX0_takesItsClaim_37 rfl ?_
        refine wa_V (b := ad 0) (rmc := (rmh 3)) (As := [.int x2, .int x1]) (st := [.int z3]) (wc := (rm_ws g ad st)) (wr := ([] : va_W)) (wcz := fun _ => (rm_ws g ad st)) (w2 := fun _ => (rm_ws g ad st)) (o := fun z4 => some (.int z4)) (s2 := fun z4 => [.int z4, .int z3]) (ci := 0) (q0 := 0) fx mm_X0_howWell q_16_1 dX0_takesItsClaim_38 h (fun _ hz => c_X0_howWell hz) rfl rfl (rm_ok (by decide) (by decide)) ⟨Nat.zero_le _, Nat.zero_le _⟩ rfl (List.Perm.refl _) (fun _ => (List.Perm.refl _)) rfl (Nat.le_of_ble_eq_true rfl) (fun _ => rfl) (fun z4 h => ?_)
        refine wa_aload_n fx 2 dX0_takesItsClaim_41 rfl ?_
        refine wa_iload_n fx 0 dX0_takesItsClaim_42 rfl ?_
        refine wa_V (b := ad 0) (rmc := (rmh 1)) (As := [.int x2]) (st := [.int z4, .int z3]) (wc := (rm_ws g ad st)) (wr := ([] : va_W)) (wcz := fun _ => (rm_ws g ad st)) (w2 := fun _ => (rm_ws g ad st)) (o := fun z5 => some (.int z5)) (s2 := fun z5 => [.int z5, .int z4, .int z3]) (ci := 0) (q0 := 0) fx mm_X0_givesUp q_16_7 dX0_takesItsClaim_43 h (fun _ hz => c_X0_givesUp hz) rfl rfl (rm_ok (by decide) (by decide)) ⟨Nat.zero_le _, Nat.zero_le _⟩ rfl (List.Perm.refl _) (fun _ => (List.Perm.refl _)) rfl (Nat.le_of_ble_eq_true rfl) (fun _ => rfl) (fun z5 h => ?_)
        refine wa_iadd fx dX0_takesItsClaim_46 ?_
        refine wa_icmp_ge fx 52 dX0_takesItsClaim_47 (by decide) h (fun h => ?_) (fun h => ?_)
        · refine wa_aload_n fx 2 dX0_takesItsClaim_52 rfl ?_
          refine wa_iload_n fx 3 dX0_takesItsClaim_53 rfl ?_
          refine wa_iload_n fx 0 dX0_takesItsClaim_54 rfl ?_
          refine wa_V (b := ad 0) (rmc := (rmh 1)) (As := [.int a1, .int x2]) (st := []) (wc := (rm_ws g ad st)) (wr := ([] : va_W)) (wcz := fun z6 => rm_ws g ad z6) (w2 := fun z6 => rm_ws g ad z6) (o := fun _ => none) (s2 := fun z6 => []) (ci := 0) (q0 := 0) fx mm_X0_swap q_16_8 dX0_takesItsClaim_55 h (fun _ hz => c_X0_swap hz) rfl rfl (rm_ok (by decide) (by decide)) ⟨Nat.zero_le _, Nat.zero_le _⟩ rfl (List.Perm.refl _) (fun _ => List.Perm.refl _) rfl (Nat.le_of_ble_eq_true rfl) (fun _ => rfl) (fun z6 h => ?_)
          refine wa_iconst fx (1 : Int32) dX0_takesItsClaim_58 (by decide) ?_
          exact fn_z (rm_ws g ad) fx hf (by decide) (sn1 h) (sn2 h) dX0_takesItsClaim_59
        · refine wa_iconst fx (0 : Int32) dX0_takesItsClaim_50 (by decide) ?_
          exact fn_z (rm_ws g ad) fx hf (by decide) (sn1 h) (sn2 h) dX0_takesItsClaim_51
  · refine wa_iconst fx (0 : Int32) dX0_takesItsClaim_11 (by decide) ?_
    exact fn_z (rm_ws g ad) fx hf (by decide) (sn1 h) (sn2 h) dX0_takesItsClaim_12
def f_X0_passOne_b31 (k4 : (Int32) → (Int32) → (StT) → Option (Int32 × (StT))) (x15 : Int32) (x16 : Int32) (w17 : StT) : Option (Int32 × (StT)) := nm (x16 + (1 : Int32)) fun x18 => k4 x15 x18 w17
def f_X0_passOne_b28 (k4 : (Int32) → (Int32) → (StT) → Option (Int32 × (StT))) (x11 : Int32) (x12 : Int32) (w13 : StT) : Option (Int32 × (StT)) := nm (x11 + (1 : Int32)) fun x14 => f_X0_passOne_b31 k4 x14 x12 w13
def f_X0_passOne_l4 : Nat → (Int32) → (Int32) → (StT) → Option (Int32 × (StT))
  | 0, _, _, _ => none
  | n + 1, x4, x5, w6 => if (w6.2.2 0) ≤ x5 then (nm (setF w6 1 ((w6.2.2 1) + (1 : Int32))) fun w7 => ck (7 : Int32) 8 (nm (w7.1 2 (Int32.toNatClampNeg (7 : Int32))) fun x8 => if x8 < 0 then (some (x4, w7)) else (ck x8 8 (if (9999 : Int32) ≤ (w7.1 7 (Int32.toNatClampNeg x8)) then (some (x4, w7)) else (ck x8 8 (ck x8 8 (nm (setA w7 7 (upd (w7.1 7) (Int32.toNatClampNeg x8) ((w7.1 7 (Int32.toNatClampNeg x8)) + (1 : Int32)))) fun w9 => some (x4, w9)))))))) else (Option.bind (f_X0_movesToEmpty w6 x5) fun z10 => if z10.1 = 0 then (Option.bind (f_X0_takesItsClaim z10.2 x5) fun z19 => if z19.1 = 0 then (f_X0_passOne_b31 (f_X0_passOne_l4 n) x4 x5 z19.2) else (f_X0_passOne_b28 (f_X0_passOne_l4 n) x4 x5 z19.2)) else (f_X0_passOne_b28 (f_X0_passOne_l4 n) x4 x5 z10.2))
def f_X0_passOne  (st : StT) : Option (Int32 × (StT)) := f_X0_passOne_l4 200 (0 : Int32) (0 : Int32) st
set_option maxHeartbeats 4000000 in
set_option maxRecDepth 100000 in
theorem c_X0_passOne {g : GT} {l : Launch} {ad : Nat → Nat}   {st : StT} {r : Int32 × (StT)} (h : f_X0_passOne st = some r) : Ct g l yX0_passOne (wd yX0_passOne cX0_passOne 3 (some .int)) (rmh 5) [.ref (ad 0)] (rm_ws g ad st) (rm_ws g ad r.2) (some (.int r.1)) := by
  refine Ct.of (lv := [(0, .ref (ad 0))]) (by decide) (Nat.le_of_ble_eq_true rfl) rfl (fun K hl fx hf => ?_)
  subst hl
  rw [f_X0_passOne] at h
  have B31 : ∀ (k4 : (Int32) → (Int32) → (StT) → Option (Int32 × (StT))) (Hk4 : ∀ (y1 : Int32) (y2 : Int32) (w3 : StT), k4 y1 y2 w3 = some r → WA g K 3 0 0 4 [(0, .ref (ad 0)), (1, .int y1), (2, .int y2)] [] (rm_ws g ad w3)) (x15 : Int32) (x16 : Int32) (w17 : StT), f_X0_passOne_b31 k4 x15 x16 w17 = some r → WA g K 3 0 0 31 [(0, .ref (ad 0)), (1, .int x15), (2, .int x16)] [] (rm_ws g ad w17) := by
    intro  k4 Hk4 x15 x16 w17 h
    rw [f_X0_passOne_b31] at h
    refine wa_iinc fx 2 (fun x18 => [(2, .int x18), (0, .ref (ad 0)), (1, .int x15)]) dX0_passOne_31 rfl (by rfl) (by decide) (fun _ => rfl) h (fun x18 h => ?_)
    refine wa_goto fx 4 dX0_passOne_34 (by decide) ?_
    refine wa_sub [1, 2, 0] rfl ?_
    exact Hk4 x15 x18 w17 h
  have B28 : ∀ (k4 : (Int32) → (Int32) → (StT) → Option (Int32 × (StT))) (Hk4 : ∀ (y1 : Int32) (y2 : Int32) (w3 : StT), k4 y1 y2 w3 = some r → WA g K 3 0 0 4 [(0, .ref (ad 0)), (1, .int y1), (2, .int y2)] [] (rm_ws g ad w3)) (x11 : Int32) (x12 : Int32) (w13 : StT), f_X0_passOne_b28 k4 x11 x12 w13 = some r → WA g K 3 0 0 28 [(0, .ref (ad 0)), (1, .int x11), (2, .int x12)] [] (rm_ws g ad w13) := by
    intro  k4 Hk4 x11 x12 w13 h
    rw [f_X0_passOne_b28] at h
    refine wa_iinc fx 1 (fun x14 => [(1, .int x14), (0, .ref (ad 0)), (2, .int x12)]) dX0_passOne_28 rfl (by rfl) (by decide) (fun _ => rfl) h (fun x14 h => ?_)
    refine wa_sub [1, 0, 2] rfl ?_
    exact B31 k4 Hk4 x14 x12 w13 h
  have B4 : ∀  (n : Nat) (x4 : Int32) (x5 : Int32) (w6 : StT), f_X0_passOne_l4 n x4 x5 w6 = some r → WA g K 3 0 0 4 [(0, .ref (ad 0)), (1, .int x4), (2, .int x5)] [] (rm_ws g ad w6) := by
    intro   n
    induction n with
    | zero => intro x4 x5 w6 h; exact absurd h (by rw [f_X0_passOne_l4]; exact nofun)
    | succ n ih =>
      intro x4 x5 w6 h
      rw [f_X0_passOne_l4] at h
      refine wa_iload_n fx 2 dX0_passOne_4 rfl ?_
      refine wa_aload_n fx 0 dX0_passOne_5 rfl ?_
      refine wa_get (v := .int (w6.2.2 0)) fx wm_X0 0 rfl rfl 9 (by decide) q_7_5 rfl rfl dX0_passOne_6 ?_
      refine wa_icmp_ge fx 37 dX0_passOne_9 (by decide) h (fun h => ?_) (fun h => ?_)
      · refine wa_aload_n fx 0 dX0_passOne_37 rfl ?_
        refine wa_dup fx dX0_passOne_38 rfl ?_
        refine wa_get (v := .int (w6.2.2 1)) fx wm_X0 0 rfl rfl 10 (by decide) q_14_1 rfl rfl dX0_passOne_39 ?_
        refine wa_iconst fx (1 : Int32) dX0_passOne_42 (by decide) ?_
        refine wa_iadd fx dX0_passOne_43 ?_
        refine wa_put (rm_ws g ad) fx wm_X0 tyX0 tyX0_ok nmX0 0 rfl rfl 10 (by decide) q_14_1 rfl rfl rfl rfl (Nat.le_of_ble_eq_true rfl) dX0_passOne_44 h rfl (fun w7 h => ?_)
        refine wa_aload_n fx 0 dX0_passOne_47 rfl ?_
        refine wa_get (v := .ref (ad 3)) fx wm_X0 0 rfl rfl 2 (by decide) q_2_13 rfl rfl dX0_passOne_48 ?_
        refine wa_bipush fx (7 : Int32) dX0_passOne_51 (by decide) ?_
        refine wa_iald (f := w7.1 2) fx 3 rfl dX0_passOne_53 h (fun h => ?_)
        refine wa_istore_nN fx (fun x8 => [(2, .int x8), (0, .ref (ad 0)), (1, .int x4)]) dX0_passOne_54 rfl (by decide) (fun _ => rfl) h (fun x8 h => ?_)
        refine wa_iload_n fx 0 dX0_passOne_55 rfl ?_
        refine wa_if_lt fx 81 dX0_passOne_56 (by decide) h (fun h => ?_) (fun h => ?_)
        · refine wa_iload_n fx 2 dX0_passOne_81 rfl ?_
          exact fn_i (rm_ws g ad) fx hf (sn1 h) (sn2 h) dX0_passOne_82
        · refine wa_aload_n fx 1 dX0_passOne_59 rfl ?_
          refine wa_get (v := .ref (ad 8)) fx wm_X0 0 rfl rfl 7 (by decide) q_2_18 rfl rfl dX0_passOne_60 ?_
          refine wa_iload_n fx 0 dX0_passOne_63 rfl ?_
          refine wa_iald (f := w7.1 7) fx 8 rfl dX0_passOne_64 h (fun h => ?_)
          refine wa_sipush fx (9999 : Int32) dX0_passOne_65 (by decide) ?_
          refine wa_icmp_ge fx 81 dX0_passOne_68 (by decide) h (fun h => ?_) (fun h => ?_)
          · refine wa_iload_n fx 2 dX0_passOne_81 rfl ?_
            exact fn_i (rm_ws g ad) fx hf (sn1 h) (sn2 h) dX0_passOne_82
          · refine wa_aload_n fx 1 dX0_passOne_71 rfl ?_
            refine wa_get (v := .ref (ad 8)) fx wm_X0 0 rfl rfl 7 (by decide) q_2_18 rfl rfl dX0_passOne_72 ?_
            refine wa_iload_n fx 0 dX0_passOne_75 rfl ?_
            refine wa_dup2 fx dX0_passOne_76 rfl rfl ?_
            refine wa_iald (f := w7.1 7) fx 8 rfl dX0_passOne_77 h (fun h => ?_)
            refine wa_iconst fx (1 : Int32) dX0_passOne_78 (by decide) ?_
            refine wa_iadd fx dX0_passOne_79 ?_
            refine wa_iast (rm_ws g ad) (f := w7.1 7) fx 8 rfl dX0_passOne_80 h rfl (fun w9 h => ?_)
            refine wa_iload_n fx 2 dX0_passOne_81 rfl ?_
            exact fn_i (rm_ws g ad) fx hf (sn1 h) (sn2 h) dX0_passOne_82
      · refine wa_aload_n fx 0 dX0_passOne_12 rfl ?_
        refine wa_iload_n fx 2 dX0_passOne_13 rfl ?_
        refine wa_V (b := ad 0) (rmc := (rmh 4)) (As := [.int x5]) (st := []) (wc := (rm_ws g ad w6)) (wr := ([] : va_W)) (wcz := fun z10 => rm_ws g ad z10.2) (w2 := fun z10 => rm_ws g ad z10.2) (o := fun z10 => some (.int z10.1)) (s2 := fun z10 => [.int z10.1]) (ci := 0) (q0 := 0) fx mm_X0_movesToEmpty q_15_21 dX0_passOne_14 h (fun _ hz => c_X0_movesToEmpty hz) rfl rfl (rm_ok (by decide) (by decide)) ⟨Nat.zero_le _, Nat.zero_le _⟩ rfl (List.Perm.refl _) (fun _ => List.Perm.refl _) rfl (Nat.le_of_ble_eq_true rfl) (fun _ => rfl) (fun z10 h => ?_)
        refine wa_if_ne fx 28 dX0_passOne_17 (by decide) h (fun h => ?_) (fun h => ?_)
        · refine wa_aload_n fx 0 dX0_passOne_20 rfl ?_
          refine wa_iload_n fx 2 dX0_passOne_21 rfl ?_
          refine wa_V (b := ad 0) (rmc := (rmh 4)) (As := [.int x5]) (st := []) (wc := (rm_ws g ad z10.2)) (wr := ([] : va_W)) (wcz := fun z19 => rm_ws g ad z19.2) (w2 := fun z19 => rm_ws g ad z19.2) (o := fun z19 => some (.int z19.1)) (s2 := fun z19 => [.int z19.1]) (ci := 0) (q0 := 0) fx mm_X0_takesItsClaim q_16_3 dX0_passOne_22 h (fun _ hz => c_X0_takesItsClaim hz) rfl rfl (rm_ok (by decide) (by decide)) ⟨Nat.zero_le _, Nat.zero_le _⟩ rfl (List.Perm.refl _) (fun _ => List.Perm.refl _) rfl (Nat.le_of_ble_eq_true rfl) (fun _ => rfl) (fun z19 h => ?_)
          refine wa_if_eq fx 31 dX0_passOne_25 (by decide) h (fun h => ?_) (fun h => ?_)
          · refine wa_sub [0, 1, 2] rfl ?_
            exact B31 (f_X0_passOne_l4 n) ih x4 x5 z19.2 h
          · refine wa_sub [0, 1, 2] rfl ?_
            exact B28 (f_X0_passOne_l4 n) ih x4 x5 z19.2 h
        · refine wa_sub [0, 1, 2] rfl ?_
          exact B28 (f_X0_passOne_l4 n) ih x4 x5 z10.2 h
  refine wa_iconst fx (0 : Int32) dX0_passOne_0 (by decide) ?_
  refine wa_istore_n fx [(1, .int (0 : Int32)), (0, .ref (ad 0))] dX0_passOne_1 rfl (by decide) rfl ?_
  refine wa_iconst fx (0 : Int32) dX0_passOne_2 (by decide) ?_
  refine wa_istore_n fx [(2, .int (0 : Int32)), (1, .int (0 : Int32)), (0, .ref (ad 0))] dX0_passOne_3 rfl (by decide) rfl ?_
  refine wa_sub [2, 1, 0] rfl ?_
  exact B4 200 (0 : Int32) (0 : Int32) st h
