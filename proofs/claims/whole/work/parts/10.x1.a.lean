def f_X1_isMissing (st : StT)  : Option (Int32) := if (st.2.2 0) = 0 then (some (1 : Int32)) else (some (0 : Int32))
set_option maxHeartbeats 4000000 in
set_option maxRecDepth 100000 in
theorem c_X1_isMissing {g : GT} {l : Launch} {ad : Nat → Nat}   {st : StT}  {r : Int32} (h : f_X1_isMissing st = some r) : Ct g l yX1_isMissing (wd yX1_isMissing cX1_isMissing 1 (some .boolean)) (rmh 1) [.ref (ad 0)] (sh_ws g ad st) (sh_ws g ad st) (some (.int r)) := by
  refine Ct.of (lv := [(0, .ref (ad 0))]) (by decide) (Nat.le_of_ble_eq_true rfl) rfl (fun K hl fx hf => ?_)
  subst hl
  rw [f_X1_isMissing] at h
  refine wa_aload_n fx 0 dX1_isMissing_0 rfl ?_
  refine wa_get (v := .int (st.2.2 0)) fx wm_X1 0 rfl rfl 1 (by decide) q_34_19 rfl rfl dX1_isMissing_1 ?_
  refine wa_if_ne fx 11 dX1_isMissing_4 (by decide) h (fun h => ?_) (fun h => ?_)
  · refine wa_iconst fx (1 : Int32) dX1_isMissing_7 (by decide) ?_
    refine wa_goto fx 12 dX1_isMissing_8 (by decide) ?_
    exact fn_z (sh_ws g ad) fx hf (by decide) (Option.some.inj h) rfl dX1_isMissing_12
  · refine wa_iconst fx (0 : Int32) dX1_isMissing_11 (by decide) ?_
    exact fn_z (sh_ws g ad) fx hf (by decide) (Option.some.inj h) rfl dX1_isMissing_12
def f_X1_renew  (st : StT) (a1 : Int32) (a2 : Int32) : Option (Int32 × (StT)) := nm (setL st 0 (flL (st.2.1 0) 40 (0 : Int64))) fun w1 => nm (setF w1 0 a1) fun w2 => if a1 = 0 then (nm (setF w2 1 (0 : Int32)) fun w4 => some ((w4.2.2 1), w4)) else (nm (setF w2 1 a2) fun w3 => some ((w3.2.2 1), w3))
set_option maxHeartbeats 4000000 in
set_option maxRecDepth 100000 in
theorem c_X1_renew {g : GT} {l : Launch} {ad : Nat → Nat}   {st : StT} {a1 : Int32} {a2 : Int32} {r : Int32 × (StT)} (h : f_X1_renew st a1 a2 = some r) : Ct g l yX1_renew (wd yX1_renew cX1_renew 3 (some .int)) (rmh 2) [.ref (ad 0), .int a1, .int a2] (sh_ws g ad st) (sh_ws g ad r.2) (some (.int r.1)) := by
  refine Ct.of (lv := [(0, .ref (ad 0)), (1, .int a1), (2, .int a2)]) (by decide) (Nat.le_of_ble_eq_true rfl) rfl (fun K hl fx hf => ?_)
  subst hl
  rw [f_X1_renew] at h
  refine wa_aload_n fx 0 dX1_renew_0 rfl ?_
  refine wa_get (v := .ref (ad 1)) fx wm_X1 0 rfl rfl 0 (by decide) q_3_10 rfl rfl dX1_renew_1 ?_
  refine wa_lconst fx (0 : Int64) dX1_renew_4 (by decide) ?_
  refine wa_filll (sh_ws g ad) fx q_34_21 1 rfl (by decide) dX1_renew_5 (Nat.le_of_ble_eq_true rfl) h rfl (fun w1 h => ?_)
  refine wa_aload_n fx 0 dX1_renew_8 rfl ?_
  refine wa_iload_n fx 1 dX1_renew_9 rfl ?_
  refine wa_put (sh_ws g ad) fx wm_X1 tyX1 tyX1_ok nmX1 0 rfl rfl 1 (by decide) q_34_19 rfl rfl rfl rfl (Nat.le_of_ble_eq_true rfl) dX1_renew_10 h rfl (fun w2 h => ?_)
  refine wa_aload_n fx 0 dX1_renew_13 rfl ?_
  refine wa_iload_n fx 1 dX1_renew_14 rfl ?_
  refine wa_if_ne fx 22 dX1_renew_15 (by decide) h (fun h => ?_) (fun h => ?_)
  · refine wa_iconst fx (0 : Int32) dX1_renew_18 (by decide) ?_
    refine wa_goto fx 23 dX1_renew_19 (by decide) ?_
    refine wa_put (sh_ws g ad) fx wm_X1 tyX1 tyX1_ok nmX1 0 rfl rfl 2 (by decide) q_34_20 rfl rfl rfl rfl (Nat.le_of_ble_eq_true rfl) dX1_renew_23 h rfl (fun w4 h => ?_)
    refine wa_aload_n fx 0 dX1_renew_26 rfl ?_
    refine wa_get (v := .int (w4.2.2 1)) fx wm_X1 0 rfl rfl 2 (by decide) q_34_20 rfl rfl dX1_renew_27 ?_
    exact fn_i (sh_ws g ad) fx hf (sn1 h) (sn2 h) dX1_renew_30
  · refine wa_iload_n fx 2 dX1_renew_22 rfl ?_
    refine wa_put (sh_ws g ad) fx wm_X1 tyX1 tyX1_ok nmX1 0 rfl rfl 2 (by decide) q_34_20 rfl rfl rfl rfl (Nat.le_of_ble_eq_true rfl) dX1_renew_23 h rfl (fun w3 h => ?_)
    refine wa_aload_n fx 0 dX1_renew_26 rfl ?_
    refine wa_get (v := .int (w3.2.2 1)) fx wm_X1 0 rfl rfl 2 (by decide) q_34_20 rfl rfl dX1_renew_27 ?_
    exact fn_i (sh_ws g ad) fx hf (sn1 h) (sn2 h) dX1_renew_30
def f_X1_cut (st : StT) (a1 : Int64) : Option (Int64) := if (st.2.2 0) = (8 : Int32) then (some (Int32.toInt64 (Int8.toInt32 (Int32.toInt8 (Int64.toInt32 a1))))) else (if (st.2.2 0) = (16 : Int32) then (some (Int32.toInt64 (Int16.toInt32 (Int32.toInt16 (Int64.toInt32 a1))))) else (some a1))
set_option maxHeartbeats 4000000 in
set_option maxRecDepth 100000 in
theorem c_X1_cut {g : GT} {l : Launch} {ad : Nat → Nat}   {st : StT} {a1 : Int64} {r : Int64} (h : f_X1_cut st a1 = some r) : Ct g l yX1_cut (wd yX1_cut cX1_cut 3 (some .long)) (rmh 1) [.ref (ad 0), .long a1] (sh_ws g ad st) (sh_ws g ad st) (some (.long r)) := by
  refine Ct.of (lv := [(0, .ref (ad 0)), (1, .long a1)]) (by decide) (Nat.le_of_ble_eq_true rfl) rfl (fun K hl fx hf => ?_)
  subst hl
  rw [f_X1_cut] at h
  refine wa_aload_n fx 0 dX1_cut_0 rfl ?_
  refine wa_get (v := .int (st.2.2 0)) fx wm_X1 0 rfl rfl 1 (by decide) q_34_19 rfl rfl dX1_cut_1 ?_
  by_cases c0 : (st.2.2 0) = (8 : Int32)
  · have h := (if_pos c0).symm.trans h
    refine wa_lookup (off := 28) fx dX1_cut_4 (by decide) 32 (by rw [c0] <;> rfl) (by decide) ?_
    refine wa_lload_n fx 1 dX1_cut_32 rfl ?_
    refine wa_l2i fx dX1_cut_33 ?_
    refine wa_i2b fx dX1_cut_34 ?_
    refine wa_i2l fx dX1_cut_35 ?_
    exact fn_l (sh_ws g ad) fx hf (Option.some.inj h) rfl dX1_cut_36
  · have h := (if_neg c0).symm.trans h
    by_cases c1 : (st.2.2 0) = (16 : Int32)
    · have h := (if_pos c1).symm.trans h
      refine wa_lookup (off := 33) fx dX1_cut_4 (by decide) 37 (by rw [c1] <;> rfl) (by decide) ?_
      refine wa_lload_n fx 1 dX1_cut_37 rfl ?_
      refine wa_l2i fx dX1_cut_38 ?_
      refine wa_i2s fx dX1_cut_39 ?_
      refine wa_i2l fx dX1_cut_40 ?_
      exact fn_l (sh_ws g ad) fx hf (Option.some.inj h) rfl dX1_cut_41
    · have h := (if_neg c1).symm.trans h
      refine wa_lookup (off := 38) fx dX1_cut_4 (by decide) 42 ((lv_osw c0 (by decide)).trans ((lv_osw c1 (by decide)).trans (rfl))) (by decide) ?_
      refine wa_lload_n fx 1 dX1_cut_42 rfl ?_
      exact fn_l (sh_ws g ad) fx hf (Option.some.inj h) rfl dX1_cut_43
def f_X1_has (st : StT) (a1 : Int32) (a2 : Int32) : Option (Int32) := if a1 < 0 then (some (0 : Int32)) else (if a2 < 0 then (some (0 : Int32)) else (if (st.2.2 1) < a2 then (some (0 : Int32)) else (if ((st.2.2 1) - a2) < a1 then (some (0 : Int32)) else (some (1 : Int32)))))
set_option maxHeartbeats 4000000 in
set_option maxRecDepth 100000 in
theorem c_X1_has {g : GT} {l : Launch} {ad : Nat → Nat}   {st : StT} {a1 : Int32} {a2 : Int32} {r : Int32} (h : f_X1_has st a1 a2 = some r) : Ct g l yX1_has (wd yX1_has cX1_has 3 (some .boolean)) (rmh 1) [.ref (ad 0), .int a1, .int a2] (sh_ws g ad st) (sh_ws g ad st) (some (.int r)) := by
  refine Ct.of (lv := [(0, .ref (ad 0)), (1, .int a1), (2, .int a2)]) (by decide) (Nat.le_of_ble_eq_true rfl) rfl (fun K hl fx hf => ?_)
  subst hl
  rw [f_X1_has] at h
  refine wa_iload_n fx 1 dX1_has_0 rfl ?_
  refine wa_if_lt fx 30 dX1_has_1 (by decide) h (fun h => ?_) (fun h => ?_)
  · refine wa_iconst fx (0 : Int32) dX1_has_30 (by decide) ?_
    exact fn_z (sh_ws g ad) fx hf (by decide) (Option.some.inj h) rfl dX1_has_31
  · refine wa_iload_n fx 2 dX1_has_4 rfl ?_
    refine wa_if_lt fx 30 dX1_has_5 (by decide) h (fun h => ?_) (fun h => ?_)
    · refine wa_iconst fx (0 : Int32) dX1_has_30 (by decide) ?_
      exact fn_z (sh_ws g ad) fx hf (by decide) (Option.some.inj h) rfl dX1_has_31
    · refine wa_iload_n fx 2 dX1_has_8 rfl ?_
      refine wa_aload_n fx 0 dX1_has_9 rfl ?_
      refine wa_get (v := .int (st.2.2 1)) fx wm_X1 0 rfl rfl 2 (by decide) q_34_20 rfl rfl dX1_has_10 ?_
      refine wa_icmp_gt fx 30 dX1_has_13 (by decide) h (fun h => ?_) (fun h => ?_)
      · refine wa_iconst fx (0 : Int32) dX1_has_30 (by decide) ?_
        exact fn_z (sh_ws g ad) fx hf (by decide) (Option.some.inj h) rfl dX1_has_31
      · refine wa_iload_n fx 1 dX1_has_16 rfl ?_
        refine wa_aload_n fx 0 dX1_has_17 rfl ?_
        refine wa_get (v := .int (st.2.2 1)) fx wm_X1 0 rfl rfl 2 (by decide) q_34_20 rfl rfl dX1_has_18 ?_
        refine wa_iload_n fx 2 dX1_has_21 rfl ?_
        refine wa_isub fx dX1_has_22 ?_
        refine wa_icmp_gt fx 30 dX1_has_23 (by decide) h (fun h => ?_) (fun h => ?_)
        · refine wa_iconst fx (0 : Int32) dX1_has_30 (by decide) ?_
          exact fn_z (sh_ws g ad) fx hf (by decide) (Option.some.inj h) rfl dX1_has_31
        · refine wa_iconst fx (1 : Int32) dX1_has_26 (by decide) ?_
          refine wa_goto fx 31 dX1_has_27 (by decide) ?_
          exact fn_z (sh_ws g ad) fx hf (by decide) (Option.some.inj h) rfl dX1_has_31
