def f_X4_best_b63 (k28 : (Int32) → (Int32) → (StT) → Option (Int32 × (StT))) (x15 : Int32) (x16 : Int32) (w17 : StT) : Option (Int32 × (StT)) := nm (x16 + (1 : Int32)) fun x18 => k28 x15 x18 w17
def f_X4_best_l28 : Nat → (Int32) → (Int32) → (StT) → Option (Int32 × (StT))
  | 0, _, _, _ => none
  | n + 1, x7, x8, w9 => if (8 : Int32) ≤ x8 then (nm (setF w9 2 (-10000 : Int32)) fun w10 => Option.bind (f_X4_laysAside w10) fun z11 => Option.bind (f_X4_places 10 z11 (0 : Int32) x7) fun z12 => Option.bind (f_X4_takesBack z12 ((10000 : Int32) + (z12.2.2 2))) fun z13 => some (z13.1, z13.2)) else (Option.bind (f_X4_whoIn w9 x8) fun z14 => if z14 = (-1 : Int32) then (f_X4_best_b63 (f_X4_best_l28 n) x7 x8 w9) else (ck (w9.2.2 1) 8 (nm (setA w9 5 (upd (w9.1 5) (Int32.toNatClampNeg (w9.2.2 1)) x8)) fun w19 => nm (setF w19 1 ((w19.2.2 1) + (1 : Int32))) fun w20 => f_X4_best_b63 (f_X4_best_l28 n) x7 x8 w20)))
def f_X4_best  (st : StT) : Option (Int32 × (StT)) := Option.bind (f_X4_sitting st) fun z1 => Option.bind (f_X4_ones z1) fun z2 => if z2 ≤ (6 : Int32) then (nm (setF st 1 (0 : Int32)) fun w3 => f_X4_best_l28 200 z1 (0 : Int32) w3) else (Option.bind (f_X4_finds st (-1000000007 : Int32)) fun z21 => some (z21.1, z21.2))
set_option maxHeartbeats 4000000 in
set_option maxRecDepth 100000 in
theorem c_X4_best {g : GT} {l : Launch} {ad : Nat → Nat}   {st : StT} {r : Int32 × (StT)} (h : f_X4_best st = some r) : Ct g l yX4_best (wd yX4_best cX4_best 3 (some .int)) (rmh 18) [.ref (ad 0)] (mo_ws g ad st) (mo_ws g ad r.2) (some (.int r.1)) := by
  refine Ct.of (lv := [(0, .ref (ad 0))]) (by decide) (Nat.le_of_ble_eq_true rfl) rfl (fun K hl fx hf => ?_)
  subst hl
  rw [f_X4_best] at h
  have B63 : ∀ (k28 : (Int32) → (Int32) → (StT) → Option (Int32 × (StT))) (Hk28 : ∀ (y4 : Int32) (y5 : Int32) (w6 : StT), k28 y4 y5 w6 = some r → WA g K 3 0 0 28 [(0, .ref (ad 0)), (1, .int y4), (2, .int y5)] [] (mo_ws g ad w6)) (x15 : Int32) (x16 : Int32) (w17 : StT), f_X4_best_b63 k28 x15 x16 w17 = some r → WA g K 3 0 0 63 [(0, .ref (ad 0)), (1, .int x15), (2, .int x16)] [] (mo_ws g ad w17) := by
    intro  k28 Hk28 x15 x16 w17 h
    rw [f_X4_best_b63] at h
    refine wa_iinc fx 2 (fun x18 => [(2, .int x18), (0, .ref (ad 0)), (1, .int x15)]) dX4_best_63 rfl (by rfl) (by decide) (fun _ => rfl) h (fun x18 h => ?_)
    refine wa_goto fx 28 dX4_best_66 (by decide) ?_
    refine wa_sub [1, 2, 0] rfl ?_
    exact Hk28 x15 x18 w17 h
  have B28 : ∀  (n : Nat) (x7 : Int32) (x8 : Int32) (w9 : StT), f_X4_best_l28 n x7 x8 w9 = some r → WA g K 3 0 0 28 [(0, .ref (ad 0)), (1, .int x7), (2, .int x8)] [] (mo_ws g ad w9) := by
    intro   n
    induction n with
    | zero => intro x7 x8 w9 h; exact absurd h (by rw [f_X4_best_l28]; exact nofun)
    | succ n ih =>
      intro x7 x8 w9 h
      rw [f_X4_best_l28] at h
      refine wa_iload_n fx 2 dX4_best_28 rfl ?_
      refine wa_bipush fx (8 : Int32) dX4_best_29 (by decide) ?_
      refine wa_icmp_ge fx 69 dX4_best_31 (by decide) h (fun h => ?_) (fun h => ?_)
      · refine wa_aload_n fx 0 dX4_best_69 rfl ?_
        refine wa_sipush fx (-10000 : Int32) dX4_best_70 (by decide) ?_
        refine wa_put (mo_ws g ad) fx wm_X4 tyX4 tyX4_ok nmX4 0 rfl rfl 8 (by decide) q_21_15 rfl rfl rfl rfl (Nat.le_of_ble_eq_true rfl) dX4_best_73 h rfl (fun w10 h => ?_)
        refine wa_aload_n fx 0 dX4_best_76 rfl ?_
        refine wa_V (b := ad 0) (rmc := (rmh 1)) (As := []) (st := []) (wc := (mo_ws g ad w10)) (wr := ([] : va_W)) (wcz := fun z11 => mo_ws g ad z11) (w2 := fun z11 => mo_ws g ad z11) (o := fun _ => none) (s2 := fun z11 => []) (ci := 4) (q0 := 0) fx mm_X4_laysAside q_19_8 dX4_best_77 h (fun _ hz => c_X4_laysAside hz) rfl rfl (rm_ok (by decide) (by decide)) ⟨Nat.zero_le _, Nat.zero_le _⟩ rfl (List.Perm.refl _) (fun _ => List.Perm.refl _) rfl (Nat.le_of_ble_eq_true rfl) (fun _ => rfl) (fun z11 h => ?_)
        refine wa_aload_n fx 0 dX4_best_80 rfl ?_
        refine wa_iconst fx (0 : Int32) dX4_best_81 (by decide) ?_
        refine wa_iload_n fx 1 dX4_best_82 rfl ?_
        refine wa_V (b := ad 0) (rmc := (rmh (7 + 10))) (As := [.int (0 : Int32), .int x7]) (st := []) (wc := (mo_ws g ad z11)) (wr := ([] : va_W)) (wcz := fun z12 => mo_ws g ad z12) (w2 := fun z12 => mo_ws g ad z12) (o := fun _ => none) (s2 := fun z12 => []) (ci := 4) (q0 := 0) fx mm_X4_places q_21_19 dX4_best_83 h (fun _ hz => c_X4_places 10 hz) rfl rfl (rm_ok (by omega) (by decide)) ⟨Nat.zero_le _, Nat.zero_le _⟩ rfl (List.Perm.refl _) (fun _ => List.Perm.refl _) rfl (Nat.le_of_ble_eq_true rfl) (fun _ => rfl) (fun z12 h => ?_)
        refine wa_aload_n fx 0 dX4_best_86 rfl ?_
        refine wa_sipush fx (10000 : Int32) dX4_best_87 (by decide) ?_
        refine wa_aload_n fx 0 dX4_best_90 rfl ?_
        refine wa_get (v := .int (z12.2.2 2)) fx wm_X4 0 rfl rfl 8 (by decide) q_21_15 rfl rfl dX4_best_91 ?_
        refine wa_iadd fx dX4_best_94 ?_
        refine wa_V (b := ad 0) (rmc := (rmh 1)) (As := [.int ((10000 : Int32) + (z12.2.2 2))]) (st := []) (wc := (mo_ws g ad z12)) (wr := ([] : va_W)) (wcz := fun z13 => mo_ws g ad z13.2) (w2 := fun z13 => mo_ws g ad z13.2) (o := fun z13 => some (.int z13.1)) (s2 := fun z13 => [.int z13.1]) (ci := 4) (q0 := 0) fx mm_X4_takesBack q_19_12 dX4_best_95 h (fun _ hz => c_X4_takesBack hz) rfl rfl (rm_ok (by decide) (by decide)) ⟨Nat.zero_le _, Nat.zero_le _⟩ rfl (List.Perm.refl _) (fun _ => List.Perm.refl _) rfl (Nat.le_of_ble_eq_true rfl) (fun _ => rfl) (fun z13 h => ?_)
        exact fn_i (mo_ws g ad) fx hf (sn1 h) (sn2 h) dX4_best_98
      · refine wa_aload_n fx 0 dX4_best_34 rfl ?_
        refine wa_iload_n fx 2 dX4_best_35 rfl ?_
        refine wa_V (b := ad 0) (rmc := (rmh 3)) (As := [.int x8]) (st := []) (wc := (mo_ws g ad w9)) (wr := ([] : va_W)) (wcz := fun _ => (mo_ws g ad w9)) (w2 := fun _ => (mo_ws g ad w9)) (o := fun z14 => some (.int z14)) (s2 := fun z14 => [.int z14]) (ci := 4) (q0 := 0) fx mm_X4_whoIn q_6_6 dX4_best_36 h (fun _ hz => c_X4_whoIn hz) rfl rfl (rm_ok (by decide) (by decide)) ⟨Nat.zero_le _, Nat.zero_le _⟩ rfl (List.Perm.refl _) (fun _ => (List.Perm.refl _)) rfl (Nat.le_of_ble_eq_true rfl) (fun _ => rfl) (fun z14 h => ?_)
        refine wa_iconst fx (-1 : Int32) dX4_best_39 (by decide) ?_
        refine wa_icmp_eq fx 63 dX4_best_40 (by decide) h (fun h => ?_) (fun h => ?_)
        · refine wa_sub [0, 1, 2] rfl ?_
          exact B63 (f_X4_best_l28 n) ih x7 x8 w9 h
        · refine wa_aload_n fx 0 dX4_best_43 rfl ?_
          refine wa_get (v := .ref (ad 6)) fx wm_X4 0 rfl rfl 6 (by decide) q_3_20 rfl rfl dX4_best_44 ?_
          refine wa_aload_n fx 0 dX4_best_47 rfl ?_
          refine wa_get (v := .int (w9.2.2 1)) fx wm_X4 0 rfl rfl 7 (by decide) q_21_14 rfl rfl dX4_best_48 ?_
          refine wa_iload_n fx 2 dX4_best_51 rfl ?_
          refine wa_iast (mo_ws g ad) (f := w9.1 5) fx 6 rfl dX4_best_52 h rfl (fun w19 h => ?_)
          refine wa_aload_n fx 0 dX4_best_53 rfl ?_
          refine wa_dup fx dX4_best_54 rfl ?_
          refine wa_get (v := .int (w19.2.2 1)) fx wm_X4 0 rfl rfl 7 (by decide) q_21_14 rfl rfl dX4_best_55 ?_
          refine wa_iconst fx (1 : Int32) dX4_best_58 (by decide) ?_
          refine wa_iadd fx dX4_best_59 ?_
          refine wa_put (mo_ws g ad) fx wm_X4 tyX4 tyX4_ok nmX4 0 rfl rfl 7 (by decide) q_21_14 rfl rfl rfl rfl (Nat.le_of_ble_eq_true rfl) dX4_best_60 h rfl (fun w20 h => ?_)
          refine wa_sub [0, 1, 2] rfl ?_
          exact B63 (f_X4_best_l28 n) ih x7 x8 w20 h
  refine wa_aload_n fx 0 dX4_best_0 rfl ?_
  refine wa_V (b := ad 0) (rmc := (rmh 3)) (As := []) (st := []) (wc := (mo_ws g ad st)) (wr := ([] : va_W)) (wcz := fun _ => (mo_ws g ad st)) (w2 := fun _ => (mo_ws g ad st)) (o := fun z1 => some (.int z1)) (s2 := fun z1 => [.int z1]) (ci := 4) (q0 := 0) fx mm_X4_sitting q_18_4 dX4_best_1 h (fun _ hz => c_X4_sitting hz) rfl rfl (rm_ok (by decide) (by decide)) ⟨Nat.zero_le _, Nat.zero_le _⟩ rfl (List.Perm.refl _) (fun _ => (List.Perm.refl _)) rfl (Nat.le_of_ble_eq_true rfl) (fun _ => rfl) (fun z1 h => ?_)
  refine wa_istore_n fx [(1, .int z1), (0, .ref (ad 0))] dX4_best_4 rfl (by decide) rfl ?_
  refine wa_iload_n fx 0 dX4_best_5 rfl ?_
  refine wa_S (rmc := (rmh 1)) (As := [.int z1]) (st := []) (wc := (no_ws ())) (wr := (mo_ws g ad st)) (wcz := fun _ => (no_ws ())) (w2 := fun _ => (mo_ws g ad st)) (o := fun z2 => some (.int z2)) (s2 := fun z2 => [.int z2]) fx mm_X4_ones q_21_16 dX4_best_6 h (fun _ hz => c_X4_ones hz) (rm_ok (by decide) (by decide)) ⟨Nat.zero_le _, Nat.zero_le _⟩ rfl (List.Perm.of_eq (List.append_nil _).symm) (fun _ => (List.Perm.of_eq (List.append_nil _).symm)) rfl (Nat.le_of_ble_eq_true rfl) (fun _ => rfl) (fun z2 h => ?_)
  refine wa_bipush fx (6 : Int32) dX4_best_9 (by decide) ?_
  refine wa_icmp_le fx 21 dX4_best_11 (by decide) h (fun h => ?_) (fun h => ?_)
  · refine wa_aload_n fx 1 dX4_best_21 rfl ?_
    refine wa_iconst fx (0 : Int32) dX4_best_22 (by decide) ?_
    refine wa_put (mo_ws g ad) fx wm_X4 tyX4 tyX4_ok nmX4 0 rfl rfl 7 (by decide) q_21_14 rfl rfl rfl rfl (Nat.le_of_ble_eq_true rfl) dX4_best_23 h rfl (fun w3 h => ?_)
    refine wa_iconst fx (0 : Int32) dX4_best_26 (by decide) ?_
    refine wa_istore_n fx [(2, .int (0 : Int32)), (1, .int z1), (0, .ref (ad 0))] dX4_best_27 rfl (by decide) rfl ?_
    refine wa_sub [2, 1, 0] rfl ?_
    exact B28 200 z1 (0 : Int32) w3 h
  · refine wa_aload_n fx 1 dX4_best_14 rfl ?_
    refine wa_ldc fx q_21_13 dX4_best_15 ?_
    refine wa_V (b := ad 0) (rmc := (rmh 1)) (As := [.int (-1000000007 : Int32)]) (st := []) (wc := (mo_ws g ad st)) (wr := ([] : va_W)) (wcz := fun z21 => mo_ws g ad z21.2) (w2 := fun z21 => mo_ws g ad z21.2) (o := fun z21 => some (.int z21.1)) (s2 := fun z21 => [.int z21.1]) (ci := 4) (q0 := 0) fx mm_X4_finds q_5_16 dX4_best_17 h (fun _ hz => c_X4_finds hz) rfl rfl (rm_ok (by decide) (by decide)) ⟨Nat.zero_le _, Nat.zero_le _⟩ rfl (List.Perm.refl _) (fun _ => List.Perm.refl _) rfl (Nat.le_of_ble_eq_true rfl) (fun _ => rfl) (fun z21 h => ?_)
    exact fn_i (mo_ws g ad) fx hf (sn1 h) (sn2 h) dX4_best_20
def f_X4_isSoon  (a0 : Int32) : Option (Int32) := Option.bind (f_X4_in (Int32.toInt64 a0) (0 : Int64) (30 : Int64)) fun z1 => ckb z1 (some z1)
set_option maxHeartbeats 4000000 in
set_option maxRecDepth 100000 in
theorem c_X4_isSoon {g : GT} {l : Launch}   {a0 : Int32} {r : Int32} (h : f_X4_isSoon a0 = some r) : Ct g l yX4_isSoon (wd yX4_isSoon cX4_isSoon 1 (some .boolean)) (rmh 2) [.int a0] (no_ws ()) (no_ws ()) (some (.int r)) := by
  refine Ct.of (lv := [(0, .int a0)]) (by decide) (Nat.le_of_ble_eq_true rfl) rfl (fun K hl fx hf => ?_)
  subst hl
  rw [f_X4_isSoon] at h
  refine wa_iload_n fx 0 dX4_isSoon_0 rfl ?_
  refine wa_i2l fx dX4_isSoon_1 ?_
  refine wa_lconst fx (0 : Int64) dX4_isSoon_2 (by decide) ?_
  refine wa_ldc2 fx q_22_10 dX4_isSoon_3 ?_
  refine wa_S (rmc := (rmh 1)) (As := [.long (Int32.toInt64 a0), .long (0 : Int64), .long (30 : Int64)]) (st := []) (wc := (no_ws ())) (wr := (no_ws ())) (wcz := fun _ => (no_ws ())) (w2 := fun _ => (no_ws ())) (o := fun z1 => some (.int z1)) (s2 := fun z1 => [.int z1]) fx mm_X4_in q_5_5 dX4_isSoon_6 h (fun _ hz => c_X4_in hz) (rm_ok (by decide) (by decide)) ⟨Nat.zero_le _, Nat.zero_le _⟩ rfl (List.Perm.of_eq (List.append_nil _).symm) (fun _ => (List.Perm.of_eq (List.append_nil _).symm)) rfl (Nat.le_of_ble_eq_true rfl) (fun _ => rfl) (fun z1 h => ?_)
  obtain ⟨hb, h⟩ := of_ckb h
  exact fn_z (no_ws) fx hf (nb_of hb) (Option.some.inj h) rfl dX4_isSoon_9
def f_X4_mend_b121 (k42 : (Int32) → (Int32) → (Int32) → (Int32) → (Int32) → (StT) → Option (Int32 × (StT))) (x30 : Int32) (x31 : Int32) (x32 : Int32) (x33 : Int32) (x34 : Int32) (w35 : StT) : Option (Int32 × (StT)) := nm (x34 + (1 : Int32)) fun x36 => k42 x30 x31 x32 x33 x36 w35
def f_X4_mend_b120 (k42 : (Int32) → (Int32) → (Int32) → (Int32) → (Int32) → (StT) → Option (Int32 × (StT))) (x48 : Int32) (x49 : Int32) (x50 : Int32) (x51 : Int32) (x52 : Int32) (w53 : StT) : Option (Int32 × (StT)) := f_X4_mend_b121 k42 x48 x49 x52 x50 x51 w53
def f_X4_mend_b107 (k42 : (Int32) → (Int32) → (Int32) → (Int32) → (Int32) → (StT) → Option (Int32 × (StT))) (x41 : Int32) (x42 : Int32) (x43 : Int32) (x44 : Int32) (x45 : Int32) (x46 : Int32) (w47 : StT) : Option (Int32 × (StT)) := if x45 ≤ x42 then (f_X4_mend_b120 k42 x41 x46 x43 x44 x42 w47) else (f_X4_mend_b120 k42 x41 x46 x43 x44 x45 w47)
def f_X4_mend_l42 (k25 : (Int32) → (Int32) → (Int32) → (Int32) → (StT) → Option (Int32 × (StT))) : Nat → (Int32) → (Int32) → (Int32) → (Int32) → (Int32) → (StT) → Option (Int32 × (StT))
  | 0, _, _, _, _, _, _ => none
  | n + 1, x22, x23, x24, x25, x26, w27 => ck (0 : Int32) 66 (if (w27.1 0 (Int32.toNatClampNeg (0 : Int32))) ≤ x26 then (nm (x25 + (1 : Int32)) fun x28 => k25 x22 x23 x24 x28 w27) else (Option.bind (f_X4_isQuarrel w27 x25 x26) fun z29 => if z29 = 0 then (f_X4_mend_b121 (f_X4_mend_l42 k25 n) x22 x23 x24 x25 x26 w27) else (Option.bind (f_X4_quarrels w27 x25 x26 (0 : Int32)) fun z37 => Option.bind (f_X4_peaceIn z37 x22) fun z38 => nm z38.1 fun x39 => Option.bind (f_X4_quarrels z38.2 x25 x26 (1 : Int32)) fun z40 => if x39 ≤ x24 then (f_X4_mend_b107 (f_X4_mend_l42 k25 n) x22 x24 x25 x26 x39 x23 z40) else (f_X4_mend_b107 (f_X4_mend_l42 k25 n) x22 x24 x25 x26 x39 (((10 : Int32) * x25) + x26) z40))))
def f_X4_mend_l25 : Nat → (Int32) → (Int32) → (Int32) → (Int32) → (StT) → Option (Int32 × (StT))
  | 0, _, _, _, _, _ => none
  | n + 1, x9, x10, x11, x12, w13 => ck (0 : Int32) 66 (if (w13.1 0 (Int32.toNatClampNeg (0 : Int32))) ≤ x12 then (if 0 ≤ x10 then (some (x10, w13)) else (Option.bind (f_X4_finds w13 (-1000000004 : Int32)) fun z14 => some (z14.1, z14.2))) else (nm (x12 + (1 : Int32)) fun x15 => f_X4_mend_l42 (f_X4_mend_l25 n) 200 x9 x10 x11 x12 x15 w13))
def f_X4_mend  (st : StT) (a1 : Int32) : Option (Int32 × (StT)) := Option.bind (f_X4_isSoon a1) fun z1 => if z1 = 0 then (Option.bind (f_X4_finds st (-1000000001 : Int32)) fun z54 => some (z54.1, z54.2)) else (Option.bind (f_X4_peaceIn st a1) fun z2 => nm z2.1 fun x3 => f_X4_mend_l25 200 a1 (-1 : Int32) x3 (0 : Int32) z2.2)
set_option maxHeartbeats 4000000 in
set_option maxRecDepth 100000 in
theorem c_X4_mend {g : GT} {l : Launch} {ad : Nat → Nat}   {st : StT} {a1 : Int32} {r : Int32 × (StT)} (h : f_X4_mend st a1 = some r) : Ct g l yX4_mend (wd yX4_mend cX4_mend 7 (some .int)) (rmh 11) [.ref (ad 0), .int a1] (mo_ws g ad st) (mo_ws g ad r.2) (some (.int r.1)) := by
  refine Ct.of (lv := [(0, .ref (ad 0)), (1, .int a1)]) (by decide) (Nat.le_of_ble_eq_true rfl) rfl (fun K hl fx hf => ?_)
  subst hl
  rw [f_X4_mend] at h
  have B121 : ∀ (k42 : (Int32) → (Int32) → (Int32) → (Int32) → (Int32) → (StT) → Option (Int32 × (StT))) (Hk42 : ∀ (y16 : Int32) (y17 : Int32) (y18 : Int32) (y19 : Int32) (y20 : Int32) (w21 : StT), k42 y16 y17 y18 y19 y20 w21 = some r → WA g K 7 0 0 42 [(0, .ref (ad 0)), (1, .int y16), (2, .int y17), (3, .int y18), (4, .int y19), (5, .int y20)] [] (mo_ws g ad w21)) (x30 : Int32) (x31 : Int32) (x32 : Int32) (x33 : Int32) (x34 : Int32) (w35 : StT), f_X4_mend_b121 k42 x30 x31 x32 x33 x34 w35 = some r → WA g K 7 0 0 121 [(0, .ref (ad 0)), (1, .int x30), (2, .int x31), (3, .int x32), (4, .int x33), (5, .int x34)] [] (mo_ws g ad w35) := by
    intro  k42 Hk42 x30 x31 x32 x33 x34 w35 h
    rw [f_X4_mend_b121] at h
    refine wa_iinc fx 5 (fun x36 => [(5, .int x36), (0, .ref (ad 0)), (1, .int x30), (2, .int x31), (3, .int x32), (4, .int x33)]) dX4_mend_121 rfl (by rfl) (by decide) (fun _ => rfl) h (fun x36 h => ?_)
    refine wa_goto fx 42 dX4_mend_124 (by decide) ?_
    refine wa_sub [1, 2, 3, 4, 5, 0] rfl ?_
    exact Hk42 x30 x31 x32 x33 x36 w35 h
  have B120 : ∀ (k42 : (Int32) → (Int32) → (Int32) → (Int32) → (Int32) → (StT) → Option (Int32 × (StT))) (Hk42 : ∀ (y16 : Int32) (y17 : Int32) (y18 : Int32) (y19 : Int32) (y20 : Int32) (w21 : StT), k42 y16 y17 y18 y19 y20 w21 = some r → WA g K 7 0 0 42 [(0, .ref (ad 0)), (1, .int y16), (2, .int y17), (3, .int y18), (4, .int y19), (5, .int y20)] [] (mo_ws g ad w21)) (x48 : Int32) (x49 : Int32) (x50 : Int32) (x51 : Int32) (x52 : Int32) (w53 : StT), f_X4_mend_b120 k42 x48 x49 x50 x51 x52 w53 = some r → WA g K 7 0 0 120 [(0, .ref (ad 0)), (1, .int x48), (2, .int x49), (4, .int x50), (5, .int x51)] [.int x52] (mo_ws g ad w53) := by
    intro  k42 Hk42 x48 x49 x50 x51 x52 w53 h
    rw [f_X4_mend_b120] at h
    refine wa_istore_n fx [(3, .int x52), (0, .ref (ad 0)), (1, .int x48), (2, .int x49), (4, .int x50), (5, .int x51)] dX4_mend_120 rfl (by decide) rfl ?_
    refine wa_sub [1, 2, 3, 0, 4, 5] rfl ?_
    exact B121 k42 Hk42 x48 x49 x52 x50 x51 w53 h
  have B107 : ∀ (k42 : (Int32) → (Int32) → (Int32) → (Int32) → (Int32) → (StT) → Option (Int32 × (StT))) (Hk42 : ∀ (y16 : Int32) (y17 : Int32) (y18 : Int32) (y19 : Int32) (y20 : Int32) (w21 : StT), k42 y16 y17 y18 y19 y20 w21 = some r → WA g K 7 0 0 42 [(0, .ref (ad 0)), (1, .int y16), (2, .int y17), (3, .int y18), (4, .int y19), (5, .int y20)] [] (mo_ws g ad w21)) (x41 : Int32) (x42 : Int32) (x43 : Int32) (x44 : Int32) (x45 : Int32) (x46 : Int32) (w47 : StT), f_X4_mend_b107 k42 x41 x42 x43 x44 x45 x46 w47 = some r → WA g K 7 0 0 107 [(0, .ref (ad 0)), (1, .int x41), (3, .int x42), (4, .int x43), (5, .int x44), (6, .int x45)] [.int x46] (mo_ws g ad w47) := by
    intro  k42 Hk42 x41 x42 x43 x44 x45 x46 w47 h
    rw [f_X4_mend_b107] at h
    refine wa_istore_n fx [(2, .int x46), (0, .ref (ad 0)), (1, .int x41), (3, .int x42), (4, .int x43), (5, .int x44), (6, .int x45)] dX4_mend_107 rfl (by decide) rfl ?_
    refine wa_iload fx 6 dX4_mend_108 rfl ?_
    refine wa_iload_n fx 3 dX4_mend_110 rfl ?_
    refine wa_icmp_le fx 119 dX4_mend_111 (by decide) h (fun h => ?_) (fun h => ?_)
    · refine wa_iload_n fx 3 dX4_mend_119 rfl ?_
      refine wa_sub [1, 2, 0, 4, 5] rfl ?_
      exact B120 k42 Hk42 x41 x46 x43 x44 x42 w47 h
    · refine wa_iload fx 6 dX4_mend_114 rfl ?_
      refine wa_goto fx 120 dX4_mend_116 (by decide) ?_
      refine wa_sub [1, 2, 0, 4, 5] rfl ?_
      exact B120 k42 Hk42 x41 x46 x43 x44 x45 w47 h
  have B42 : ∀ (k25 : (Int32) → (Int32) → (Int32) → (Int32) → (StT) → Option (Int32 × (StT))) (Hk25 : ∀ (y4 : Int32) (y5 : Int32) (y6 : Int32) (y7 : Int32) (w8 : StT), k25 y4 y5 y6 y7 w8 = some r → WA g K 7 0 0 25 [(0, .ref (ad 0)), (1, .int y4), (2, .int y5), (3, .int y6), (4, .int y7)] [] (mo_ws g ad w8)) (n : Nat) (x22 : Int32) (x23 : Int32) (x24 : Int32) (x25 : Int32) (x26 : Int32) (w27 : StT), f_X4_mend_l42 k25 n x22 x23 x24 x25 x26 w27 = some r → WA g K 7 0 0 42 [(0, .ref (ad 0)), (1, .int x22), (2, .int x23), (3, .int x24), (4, .int x25), (5, .int x26)] [] (mo_ws g ad w27) := by
    intro  k25 Hk25 n
    induction n with
    | zero => intro x22 x23 x24 x25 x26 w27 h; exact absurd h (by rw [f_X4_mend_l42]; exact nofun)
    | succ n ih =>
      intro x22 x23 x24 x25 x26 w27 h
      rw [f_X4_mend_l42] at h
      refine wa_iload fx 5 dX4_mend_42 rfl ?_
      refine wa_aload_n fx 0 dX4_mend_44 rfl ?_
      refine wa_get (v := .ref (ad 1)) fx wm_X4 0 rfl rfl 0 (by decide) q_3_15 rfl rfl dX4_mend_45 ?_
      refine wa_iconst fx (0 : Int32) dX4_mend_48 (by decide) ?_
      refine wa_iald (f := w27.1 0) fx 1 rfl dX4_mend_49 h (fun h => ?_)
      refine wa_icmp_ge fx 127 dX4_mend_50 (by decide) h (fun h => ?_) (fun h => ?_)
      · refine wa_iinc fx 4 (fun x28 => [(4, .int x28), (0, .ref (ad 0)), (1, .int x22), (2, .int x23), (3, .int x24), (5, .int x26)]) dX4_mend_127 rfl (by rfl) (by decide) (fun _ => rfl) h (fun x28 h => ?_)
        refine wa_goto fx 25 dX4_mend_130 (by decide) ?_
        refine wa_sub [1, 2, 3, 4, 0] rfl ?_
        exact Hk25 x22 x23 x24 x28 w27 h
      · refine wa_aload_n fx 0 dX4_mend_53 rfl ?_
        refine wa_iload fx 4 dX4_mend_54 rfl ?_
        refine wa_iload fx 5 dX4_mend_56 rfl ?_
        refine wa_V (b := ad 0) (rmc := (rmh 3)) (As := [.int x25, .int x26]) (st := []) (wc := (mo_ws g ad w27)) (wr := ([] : va_W)) (wcz := fun _ => (mo_ws g ad w27)) (w2 := fun _ => (mo_ws g ad w27)) (o := fun z29 => some (.int z29)) (s2 := fun z29 => [.int z29]) (ci := 4) (q0 := 0) fx mm_X4_isQuarrel q_11_20 dX4_mend_58 h (fun _ hz => c_X4_isQuarrel hz) rfl rfl (rm_ok (by decide) (by decide)) ⟨Nat.zero_le _, Nat.zero_le _⟩ rfl (List.Perm.refl _) (fun _ => (List.Perm.refl _)) rfl (Nat.le_of_ble_eq_true rfl) (fun _ => rfl) (fun z29 h => ?_)
        refine wa_if_eq fx 121 dX4_mend_61 (by decide) h (fun h => ?_) (fun h => ?_)
        · refine wa_sub [0, 1, 2, 3, 4, 5] rfl ?_
          exact B121 (f_X4_mend_l42 k25 n) ih x22 x23 x24 x25 x26 w27 h
        · refine wa_aload_n fx 0 dX4_mend_64 rfl ?_
          refine wa_iload fx 4 dX4_mend_65 rfl ?_
          refine wa_iload fx 5 dX4_mend_67 rfl ?_
          refine wa_iconst fx (0 : Int32) dX4_mend_69 (by decide) ?_
          refine wa_V (b := ad 0) (rmc := (rmh 2)) (As := [.int x25, .int x26, .int (0 : Int32)]) (st := []) (wc := (mo_ws g ad w27)) (wr := ([] : va_W)) (wcz := fun z37 => mo_ws g ad z37) (w2 := fun z37 => mo_ws g ad z37) (o := fun _ => none) (s2 := fun z37 => []) (ci := 4) (q0 := 0) fx mm_X4_quarrels q_12_0 dX4_mend_70 h (fun _ hz => c_X4_quarrels hz) rfl rfl (rm_ok (by decide) (by decide)) ⟨Nat.zero_le _, Nat.zero_le _⟩ rfl (List.Perm.refl _) (fun _ => List.Perm.refl _) rfl (Nat.le_of_ble_eq_true rfl) (fun _ => rfl) (fun z37 h => ?_)
          refine wa_aload_n fx 0 dX4_mend_73 rfl ?_
          refine wa_iload_n fx 1 dX4_mend_74 rfl ?_
          refine wa_V (b := ad 0) (rmc := (rmh 10)) (As := [.int x22]) (st := []) (wc := (mo_ws g ad z37)) (wr := ([] : va_W)) (wcz := fun z38 => mo_ws g ad z38.2) (w2 := fun z38 => mo_ws g ad z38.2) (o := fun z38 => some (.int z38.1)) (s2 := fun z38 => [.int z38.1]) (ci := 4) (q0 := 0) fx mm_X4_peaceIn q_20_0 dX4_mend_75 h (fun _ hz => c_X4_peaceIn hz) rfl rfl (rm_ok (by decide) (by decide)) ⟨Nat.zero_le _, Nat.zero_le _⟩ rfl (List.Perm.refl _) (fun _ => List.Perm.refl _) rfl (Nat.le_of_ble_eq_true rfl) (fun _ => rfl) (fun z38 h => ?_)
          refine wa_istoreN fx (fun x39 => [(6, .int x39), (0, .ref (ad 0)), (1, .int x22), (2, .int x23), (3, .int x24), (4, .int x25), (5, .int x26)]) dX4_mend_78 (by decide) (fun _ => rfl) h (fun x39 h => ?_)
          refine wa_aload_n fx 1 dX4_mend_80 rfl ?_
          refine wa_iload fx 5 dX4_mend_81 rfl ?_
          refine wa_iload fx 6 dX4_mend_83 rfl ?_
          refine wa_iconst fx (1 : Int32) dX4_mend_85 (by decide) ?_
          refine wa_V (b := ad 0) (rmc := (rmh 2)) (As := [.int x25, .int x26, .int (1 : Int32)]) (st := []) (wc := (mo_ws g ad z38.2)) (wr := ([] : va_W)) (wcz := fun z40 => mo_ws g ad z40) (w2 := fun z40 => mo_ws g ad z40) (o := fun _ => none) (s2 := fun z40 => []) (ci := 4) (q0 := 0) fx mm_X4_quarrels q_12_0 dX4_mend_86 h (fun _ hz => c_X4_quarrels hz) rfl rfl (rm_ok (by decide) (by decide)) ⟨Nat.zero_le _, Nat.zero_le _⟩ rfl (List.Perm.refl _) (fun _ => List.Perm.refl _) rfl (Nat.le_of_ble_eq_true rfl) (fun _ => rfl) (fun z40 h => ?_)
          refine wa_iload fx 0 dX4_mend_89 rfl ?_
          refine wa_iload_n fx 4 dX4_mend_91 rfl ?_
          refine wa_icmp_le fx 106 dX4_mend_92 (by decide) h (fun h => ?_) (fun h => ?_)
          · refine wa_iload_n fx 3 dX4_mend_106 rfl ?_
            refine wa_sub [1, 2, 4, 5, 6, 0] rfl ?_
            exact B107 (f_X4_mend_l42 k25 n) ih x22 x24 x25 x26 x39 x23 z40 h
          · refine wa_bipush fx (10 : Int32) dX4_mend_95 (by decide) ?_
            refine wa_iload fx 5 dX4_mend_97 rfl ?_
            refine wa_imul fx dX4_mend_99 ?_
            refine wa_iload fx 6 dX4_mend_100 rfl ?_
            refine wa_iadd fx dX4_mend_102 ?_
            refine wa_goto fx 107 dX4_mend_103 (by decide) ?_
            refine wa_sub [1, 2, 4, 5, 6, 0] rfl ?_
            exact B107 (f_X4_mend_l42 k25 n) ih x22 x24 x25 x26 x39 (((10 : Int32) * x25) + x26) z40 h
  have B25 : ∀  (n : Nat) (x9 : Int32) (x10 : Int32) (x11 : Int32) (x12 : Int32) (w13 : StT), f_X4_mend_l25 n x9 x10 x11 x12 w13 = some r → WA g K 7 0 0 25 [(0, .ref (ad 0)), (1, .int x9), (2, .int x10), (3, .int x11), (4, .int x12)] [] (mo_ws g ad w13) := by
    intro   n
    induction n with
    | zero => intro x9 x10 x11 x12 w13 h; exact absurd h (by rw [f_X4_mend_l25]; exact nofun)
    | succ n ih =>
      intro x9 x10 x11 x12 w13 h
      rw [f_X4_mend_l25] at h
      refine wa_iload fx 4 dX4_mend_25 rfl ?_
      refine wa_aload_n fx 0 dX4_mend_27 rfl ?_
      refine wa_get (v := .ref (ad 1)) fx wm_X4 0 rfl rfl 0 (by decide) q_3_15 rfl rfl dX4_mend_28 ?_
      refine wa_iconst fx (0 : Int32) dX4_mend_31 (by decide) ?_
      refine wa_iald (f := w13.1 0) fx 1 rfl dX4_mend_32 h (fun h => ?_)
      refine wa_icmp_ge fx 133 dX4_mend_33 (by decide) h (fun h => ?_) (fun h => ?_)
      · refine wa_iload_n fx 2 dX4_mend_133 rfl ?_
        refine wa_if_ge fx 146 dX4_mend_134 (by decide) h (fun h => ?_) (fun h => ?_)
        · refine wa_iload_n fx 2 dX4_mend_146 rfl ?_
          exact fn_i (mo_ws g ad) fx hf (sn1 h) (sn2 h) dX4_mend_147
        · refine wa_aload_n fx 0 dX4_mend_137 rfl ?_
          refine wa_ldc fx q_20_13 dX4_mend_138 ?_
          refine wa_V (b := ad 0) (rmc := (rmh 1)) (As := [.int (-1000000004 : Int32)]) (st := []) (wc := (mo_ws g ad w13)) (wr := ([] : va_W)) (wcz := fun z14 => mo_ws g ad z14.2) (w2 := fun z14 => mo_ws g ad z14.2) (o := fun z14 => some (.int z14.1)) (s2 := fun z14 => [.int z14.1]) (ci := 4) (q0 := 0) fx mm_X4_finds q_5_16 dX4_mend_140 h (fun _ hz => c_X4_finds hz) rfl rfl (rm_ok (by decide) (by decide)) ⟨Nat.zero_le _, Nat.zero_le _⟩ rfl (List.Perm.refl _) (fun _ => List.Perm.refl _) rfl (Nat.le_of_ble_eq_true rfl) (fun _ => rfl) (fun z14 h => ?_)
          refine wa_goto fx 147 dX4_mend_143 (by decide) ?_
          exact fn_i (mo_ws g ad) fx hf (sn1 h) (sn2 h) dX4_mend_147
      · refine wa_iload fx 4 dX4_mend_36 rfl ?_
        refine wa_iconst fx (1 : Int32) dX4_mend_38 (by decide) ?_
        refine wa_iadd fx dX4_mend_39 ?_
        refine wa_istoreN fx (fun x15 => [(5, .int x15), (0, .ref (ad 0)), (1, .int x9), (2, .int x10), (3, .int x11), (4, .int x12)]) dX4_mend_40 (by decide) (fun _ => rfl) h (fun x15 h => ?_)
        refine wa_sub [1, 2, 3, 4, 5, 0] rfl ?_
        exact B42 (f_X4_mend_l25 n) ih 200 x9 x10 x11 x12 x15 w13 h
  refine wa_iload_n fx 1 dX4_mend_0 rfl ?_
  refine wa_S (rmc := (rmh 2)) (As := [.int a1]) (st := []) (wc := (no_ws ())) (wr := (mo_ws g ad st)) (wcz := fun _ => (no_ws ())) (w2 := fun _ => (mo_ws g ad st)) (o := fun z1 => some (.int z1)) (s2 := fun z1 => [.int z1]) fx mm_X4_isSoon q_22_7 dX4_mend_1 h (fun _ hz => c_X4_isSoon hz) (rm_ok (by decide) (by decide)) ⟨Nat.zero_le _, Nat.zero_le _⟩ rfl (List.Perm.of_eq (List.append_nil _).symm) (fun _ => (List.Perm.of_eq (List.append_nil _).symm)) rfl (Nat.le_of_ble_eq_true rfl) (fun _ => rfl) (fun z1 h => ?_)
  refine wa_if_ne fx 14 dX4_mend_4 (by decide) h (fun h => ?_) (fun h => ?_)
  · refine wa_aload_n fx 0 dX4_mend_7 rfl ?_
    refine wa_ldc fx q_5_4 dX4_mend_8 ?_
    refine wa_V (b := ad 0) (rmc := (rmh 1)) (As := [.int (-1000000001 : Int32)]) (st := []) (wc := (mo_ws g ad st)) (wr := ([] : va_W)) (wcz := fun z54 => mo_ws g ad z54.2) (w2 := fun z54 => mo_ws g ad z54.2) (o := fun z54 => some (.int z54.1)) (s2 := fun z54 => [.int z54.1]) (ci := 4) (q0 := 0) fx mm_X4_finds q_5_16 dX4_mend_10 h (fun _ hz => c_X4_finds hz) rfl rfl (rm_ok (by decide) (by decide)) ⟨Nat.zero_le _, Nat.zero_le _⟩ rfl (List.Perm.refl _) (fun _ => List.Perm.refl _) rfl (Nat.le_of_ble_eq_true rfl) (fun _ => rfl) (fun z54 h => ?_)
    exact fn_i (mo_ws g ad) fx hf (sn1 h) (sn2 h) dX4_mend_13
  · refine wa_iconst fx (-1 : Int32) dX4_mend_14 (by decide) ?_
    refine wa_istore_n fx [(2, .int (-1 : Int32)), (0, .ref (ad 0)), (1, .int a1)] dX4_mend_15 rfl (by decide) rfl ?_
    refine wa_aload_n fx 1 dX4_mend_16 rfl ?_
    refine wa_iload_n fx 2 dX4_mend_17 rfl ?_
    refine wa_V (b := ad 0) (rmc := (rmh 10)) (As := [.int a1]) (st := []) (wc := (mo_ws g ad st)) (wr := ([] : va_W)) (wcz := fun z2 => mo_ws g ad z2.2) (w2 := fun z2 => mo_ws g ad z2.2) (o := fun z2 => some (.int z2.1)) (s2 := fun z2 => [.int z2.1]) (ci := 4) (q0 := 0) fx mm_X4_peaceIn q_20_0 dX4_mend_18 h (fun _ hz => c_X4_peaceIn hz) rfl rfl (rm_ok (by decide) (by decide)) ⟨Nat.zero_le _, Nat.zero_le _⟩ rfl (List.Perm.refl _) (fun _ => List.Perm.refl _) rfl (Nat.le_of_ble_eq_true rfl) (fun _ => rfl) (fun z2 h => ?_)
    refine wa_istore_nN fx (fun x3 => [(3, .int x3), (2, .int (-1 : Int32)), (0, .ref (ad 0)), (1, .int a1)]) dX4_mend_21 rfl (by decide) (fun _ => rfl) h (fun x3 h => ?_)
    refine wa_iconst fx (0 : Int32) dX4_mend_22 (by decide) ?_
    refine wa_istore fx [(4, .int (0 : Int32)), (3, .int x3), (2, .int (-1 : Int32)), (0, .ref (ad 0)), (1, .int a1)] dX4_mend_23 (by decide) rfl ?_
    refine wa_sub [3, 4, 2, 1, 0] rfl ?_
    exact B25 200 a1 (-1 : Int32) x3 (0 : Int32) z2.2 h
def f_X4_wellIn  (st : StT) (a1 : Int32) (a2 : Int32) : Option (Int32 × (StT)) := Option.bind (f_X4_laysAside st) fun z1 => Option.bind (f_X4_hoursGo z1 a2) fun z2 => nm z2.1 fun x3 => Option.bind (f_X4_its z2.2 a1 (5 : Int32)) fun z4 => if z4 = (-1 : Int32) then (Option.bind (f_X4_takesBack z2.2 (-1000 : Int32)) fun z8 => some (z8.1, z8.2)) else (Option.bind (f_X4_its z2.2 a1 (5 : Int32)) fun z5 => Option.bind (f_X4_sits z2.2 a1 z5) fun z6 => Option.bind (f_X4_takesBack z2.2 z6) fun z7 => some (z7.1, z7.2))
set_option maxHeartbeats 4000000 in
set_option maxRecDepth 100000 in
theorem c_X4_wellIn {g : GT} {l : Launch} {ad : Nat → Nat}   {st : StT} {a1 : Int32} {a2 : Int32} {r : Int32 × (StT)} (h : f_X4_wellIn st a1 a2 = some r) : Ct g l yX4_wellIn (wd yX4_wellIn cX4_wellIn 4 (some .int)) (rmh 10) [.ref (ad 0), .int a1, .int a2] (mo_ws g ad st) (mo_ws g ad r.2) (some (.int r.1)) := by
  refine Ct.of (lv := [(0, .ref (ad 0)), (1, .int a1), (2, .int a2)]) (by decide) (Nat.le_of_ble_eq_true rfl) rfl (fun K hl fx hf => ?_)
  subst hl
  rw [f_X4_wellIn] at h
  refine wa_aload_n fx 0 dX4_wellIn_0 rfl ?_
  refine wa_V (b := ad 0) (rmc := (rmh 1)) (As := []) (st := []) (wc := (mo_ws g ad st)) (wr := ([] : va_W)) (wcz := fun z1 => mo_ws g ad z1) (w2 := fun z1 => mo_ws g ad z1) (o := fun _ => none) (s2 := fun z1 => []) (ci := 4) (q0 := 0) fx mm_X4_laysAside q_19_8 dX4_wellIn_1 h (fun _ hz => c_X4_laysAside hz) rfl rfl (rm_ok (by decide) (by decide)) ⟨Nat.zero_le _, Nat.zero_le _⟩ rfl (List.Perm.refl _) (fun _ => List.Perm.refl _) rfl (Nat.le_of_ble_eq_true rfl) (fun _ => rfl) (fun z1 h => ?_)
  refine wa_aload_n fx 0 dX4_wellIn_4 rfl ?_
  refine wa_iload_n fx 2 dX4_wellIn_5 rfl ?_
  refine wa_V (b := ad 0) (rmc := (rmh 9)) (As := [.int a2]) (st := []) (wc := (mo_ws g ad z1)) (wr := ([] : va_W)) (wcz := fun z2 => mo_ws g ad z2.2) (w2 := fun z2 => mo_ws g ad z2.2) (o := fun z2 => some (.int z2.1)) (s2 := fun z2 => [.int z2.1]) (ci := 4) (q0 := 0) fx mm_X4_hoursGo q_16_15 dX4_wellIn_6 h (fun _ hz => c_X4_hoursGo hz) rfl rfl (rm_ok (by decide) (by decide)) ⟨Nat.zero_le _, Nat.zero_le _⟩ rfl (List.Perm.refl _) (fun _ => List.Perm.refl _) rfl (Nat.le_of_ble_eq_true rfl) (fun _ => rfl) (fun z2 h => ?_)
  refine wa_istore_nN fx (fun x3 => [(3, .int x3), (0, .ref (ad 0)), (1, .int a1), (2, .int a2)]) dX4_wellIn_9 rfl (by decide) (fun _ => rfl) h (fun x3 h => ?_)
  refine wa_aload_n fx 1 dX4_wellIn_10 rfl ?_
  refine wa_aload_n fx 1 dX4_wellIn_11 rfl ?_
  refine wa_iload_n fx 2 dX4_wellIn_12 rfl ?_
  refine wa_iconst fx (5 : Int32) dX4_wellIn_13 (by decide) ?_
  refine wa_V (b := ad 0) (rmc := (rmh 2)) (As := [.int a1, .int (5 : Int32)]) (st := [.ref (ad 0)]) (wc := (mo_ws g ad z2.2)) (wr := ([] : va_W)) (wcz := fun _ => (mo_ws g ad z2.2)) (w2 := fun _ => (mo_ws g ad z2.2)) (o := fun z4 => some (.int z4)) (s2 := fun z4 => [.int z4, .ref (ad 0)]) (ci := 4) (q0 := 0) fx mm_X4_its q_6_10 dX4_wellIn_14 h (fun _ hz => c_X4_its hz) rfl rfl (rm_ok (by decide) (by decide)) ⟨Nat.zero_le _, Nat.zero_le _⟩ rfl (List.Perm.refl _) (fun _ => (List.Perm.refl _)) rfl (Nat.le_of_ble_eq_true rfl) (fun _ => rfl) (fun z4 h => ?_)
  refine wa_iconst fx (-1 : Int32) dX4_wellIn_17 (by decide) ?_
  refine wa_icmp_ne fx 27 dX4_wellIn_18 (by decide) h (fun h => ?_) (fun h => ?_)
  · refine wa_sipush fx (-1000 : Int32) dX4_wellIn_21 (by decide) ?_
    refine wa_goto fx 38 dX4_wellIn_24 (by decide) ?_
    refine wa_V (b := ad 0) (rmc := (rmh 1)) (As := [.int (-1000 : Int32)]) (st := []) (wc := (mo_ws g ad z2.2)) (wr := ([] : va_W)) (wcz := fun z8 => mo_ws g ad z8.2) (w2 := fun z8 => mo_ws g ad z8.2) (o := fun z8 => some (.int z8.1)) (s2 := fun z8 => [.int z8.1]) (ci := 4) (q0 := 0) fx mm_X4_takesBack q_19_12 dX4_wellIn_38 h (fun _ hz => c_X4_takesBack hz) rfl rfl (rm_ok (by decide) (by decide)) ⟨Nat.zero_le _, Nat.zero_le _⟩ rfl (List.Perm.refl _) (fun _ => List.Perm.refl _) rfl (Nat.le_of_ble_eq_true rfl) (fun _ => rfl) (fun z8 h => ?_)
    exact fn_i (mo_ws g ad) fx hf (sn1 h) (sn2 h) dX4_wellIn_41
  · refine wa_aload_n fx 1 dX4_wellIn_27 rfl ?_
    refine wa_iload_n fx 2 dX4_wellIn_28 rfl ?_
    refine wa_aload_n fx 1 dX4_wellIn_29 rfl ?_
    refine wa_iload_n fx 2 dX4_wellIn_30 rfl ?_
    refine wa_iconst fx (5 : Int32) dX4_wellIn_31 (by decide) ?_
    refine wa_V (b := ad 0) (rmc := (rmh 2)) (As := [.int a1, .int (5 : Int32)]) (st := [.int a1, .ref (ad 0), .ref (ad 0)]) (wc := (mo_ws g ad z2.2)) (wr := ([] : va_W)) (wcz := fun _ => (mo_ws g ad z2.2)) (w2 := fun _ => (mo_ws g ad z2.2)) (o := fun z5 => some (.int z5)) (s2 := fun z5 => [.int z5, .int a1, .ref (ad 0), .ref (ad 0)]) (ci := 4) (q0 := 0) fx mm_X4_its q_6_10 dX4_wellIn_32 h (fun _ hz => c_X4_its hz) rfl rfl (rm_ok (by decide) (by decide)) ⟨Nat.zero_le _, Nat.zero_le _⟩ rfl (List.Perm.refl _) (fun _ => (List.Perm.refl _)) rfl (Nat.le_of_ble_eq_true rfl) (fun _ => rfl) (fun z5 h => ?_)
    refine wa_V (b := ad 0) (rmc := (rmh 5)) (As := [.int a1, .int z5]) (st := [.ref (ad 0)]) (wc := (mo_ws g ad z2.2)) (wr := ([] : va_W)) (wcz := fun _ => (mo_ws g ad z2.2)) (w2 := fun _ => (mo_ws g ad z2.2)) (o := fun z6 => some (.int z6)) (s2 := fun z6 => [.int z6, .ref (ad 0)]) (ci := 4) (q0 := 0) fx mm_X4_sits q_14_11 dX4_wellIn_35 h (fun _ hz => c_X4_sits hz) rfl rfl (rm_ok (by decide) (by decide)) ⟨Nat.zero_le _, Nat.zero_le _⟩ rfl (List.Perm.refl _) (fun _ => (List.Perm.refl _)) rfl (Nat.le_of_ble_eq_true rfl) (fun _ => rfl) (fun z6 h => ?_)
    refine wa_V (b := ad 0) (rmc := (rmh 1)) (As := [.int z6]) (st := []) (wc := (mo_ws g ad z2.2)) (wr := ([] : va_W)) (wcz := fun z7 => mo_ws g ad z7.2) (w2 := fun z7 => mo_ws g ad z7.2) (o := fun z7 => some (.int z7.1)) (s2 := fun z7 => [.int z7.1]) (ci := 4) (q0 := 0) fx mm_X4_takesBack q_19_12 dX4_wellIn_38 h (fun _ hz => c_X4_takesBack hz) rfl rfl (rm_ok (by decide) (by decide)) ⟨Nat.zero_le _, Nat.zero_le _⟩ rfl (List.Perm.refl _) (fun _ => List.Perm.refl _) rfl (Nat.le_of_ble_eq_true rfl) (fun _ => rfl) (fun z7 h => ?_)
    exact fn_i (mo_ws g ad) fx hf (sn1 h) (sn2 h) dX4_wellIn_41
def f_X4_bestBy_b73 (k19 : (Int32) → (Int32) → (Int32) → (Int32) → (Int32) → (Int32) → (Int32) → (Int32) → (StT) → Option (Int32 × (StT))) (x34 : Int32) (x35 : Int32) (x36 : Int32) (x37 : Int32) (x38 : Int32) (x39 : Int32) (x40 : Int32) (x41 : Int32) (w42 : StT) : Option (Int32 × (StT)) := nm (x40 + (1 : Int32)) fun x43 => k19 x34 x35 x36 x37 x38 x39 x41 x43 w42
def f_X4_bestBy_b57 (k19 : (Int32) → (Int32) → (Int32) → (Int32) → (Int32) → (Int32) → (Int32) → (Int32) → (StT) → Option (Int32 × (StT))) (x24 : Int32) (x25 : Int32) (x26 : Int32) (x27 : Int32) (x28 : Int32) (x29 : Int32) (x30 : Int32) (x31 : Int32) (x32 : Int32) (w33 : StT) : Option (Int32 × (StT)) := if x31 ≤ x29 then (f_X4_bestBy_b73 k19 x24 x25 x26 x27 x28 x32 x30 x29 w33) else (f_X4_bestBy_b73 k19 x24 x25 x26 x27 x28 x32 x30 x31 w33)
def f_X4_bestBy_l19 : Nat → (Int32) → (Int32) → (Int32) → (Int32) → (Int32) → (Int32) → (Int32) → (Int32) → (StT) → Option (Int32 × (StT))
  | 0, _, _, _, _, _, _, _, _, _ => none
  | n + 1, x11, x12, x13, x14, x15, x16, x17, x18, w19 => if x12 < x18 then (ck x11 66 (nm (setA w19 0 (upd (w19.1 0) (Int32.toNatClampNeg x11) x15)) fun w20 => some (x16, w20))) else (ck x11 66 (nm (setA w19 0 (upd (w19.1 0) (Int32.toNatClampNeg x11) x18)) fun w21 => Option.bind (f_X4_wellIn w21 x13 x14) fun z22 => nm z22.1 fun x23 => if x23 ≤ x17 then (f_X4_bestBy_b57 (f_X4_bestBy_l19 n) x11 x12 x13 x14 x15 x17 x18 x23 x16 z22.2) else (f_X4_bestBy_b57 (f_X4_bestBy_l19 n) x11 x12 x13 x14 x15 x17 x18 x23 x18 z22.2)))
def f_X4_bestBy  (st : StT) (a1 : Int32) (a2 : Int32) (a3 : Int32) (a4 : Int32) (a5 : Int32) : Option (Int32 × (StT)) := ck a1 66 (nm (st.1 0 (Int32.toNatClampNeg a1)) fun x1 => f_X4_bestBy_l19 200 a1 a3 a4 a5 x1 a2 (-10000 : Int32) a2 st)
set_option maxHeartbeats 4000000 in
set_option maxRecDepth 100000 in
theorem c_X4_bestBy {g : GT} {l : Launch} {ad : Nat → Nat}   {st : StT} {a1 : Int32} {a2 : Int32} {a3 : Int32} {a4 : Int32} {a5 : Int32} {r : Int32 × (StT)} (h : f_X4_bestBy st a1 a2 a3 a4 a5 = some r) : Ct g l yX4_bestBy (wd yX4_bestBy cX4_bestBy 11 (some .int)) (rmh 11) [.ref (ad 0), .int a1, .int a2, .int a3, .int a4, .int a5] (mo_ws g ad st) (mo_ws g ad r.2) (some (.int r.1)) := by
  refine Ct.of (lv := [(0, .ref (ad 0)), (1, .int a1), (2, .int a2), (3, .int a3), (4, .int a4), (5, .int a5)]) (by decide) (Nat.le_of_ble_eq_true rfl) rfl (fun K hl fx hf => ?_)
  subst hl
  rw [f_X4_bestBy] at h
  have B73 : ∀ (k19 : (Int32) → (Int32) → (Int32) → (Int32) → (Int32) → (Int32) → (Int32) → (Int32) → (StT) → Option (Int32 × (StT))) (Hk19 : ∀ (y2 : Int32) (y3 : Int32) (y4 : Int32) (y5 : Int32) (y6 : Int32) (y7 : Int32) (y8 : Int32) (y9 : Int32) (w10 : StT), k19 y2 y3 y4 y5 y6 y7 y8 y9 w10 = some r → WA g K 11 0 0 19 [(0, .ref (ad 0)), (1, .int y2), (3, .int y3), (4, .int y4), (5, .int y5), (6, .int y6), (7, .int y7), (8, .int y8), (9, .int y9)] [] (mo_ws g ad w10)) (x34 : Int32) (x35 : Int32) (x36 : Int32) (x37 : Int32) (x38 : Int32) (x39 : Int32) (x40 : Int32) (x41 : Int32) (w42 : StT), f_X4_bestBy_b73 k19 x34 x35 x36 x37 x38 x39 x40 x41 w42 = some r → WA g K 11 0 0 73 [(0, .ref (ad 0)), (1, .int x34), (3, .int x35), (4, .int x36), (5, .int x37), (6, .int x38), (7, .int x39), (9, .int x40)] [.int x41] (mo_ws g ad w42) := by
    intro  k19 Hk19 x34 x35 x36 x37 x38 x39 x40 x41 w42 h
    rw [f_X4_bestBy_b73] at h
    refine wa_istore fx [(8, .int x41), (0, .ref (ad 0)), (1, .int x34), (3, .int x35), (4, .int x36), (5, .int x37), (6, .int x38), (7, .int x39), (9, .int x40)] dX4_bestBy_73 (by decide) rfl ?_
    refine wa_iinc fx 8 (fun x43 => [(9, .int x43), (8, .int x41), (0, .ref (ad 0)), (1, .int x34), (3, .int x35), (4, .int x36), (5, .int x37), (6, .int x38), (7, .int x39)]) dX4_bestBy_75 rfl (by rfl) (by decide) (fun _ => rfl) h (fun x43 h => ?_)
    refine wa_goto fx 19 dX4_bestBy_78 (by decide) ?_
    refine wa_sub [2, 3, 4, 5, 6, 7, 8, 1, 0] rfl ?_
    exact Hk19 x34 x35 x36 x37 x38 x39 x41 x43 w42 h
  have B57 : ∀ (k19 : (Int32) → (Int32) → (Int32) → (Int32) → (Int32) → (Int32) → (Int32) → (Int32) → (StT) → Option (Int32 × (StT))) (Hk19 : ∀ (y2 : Int32) (y3 : Int32) (y4 : Int32) (y5 : Int32) (y6 : Int32) (y7 : Int32) (y8 : Int32) (y9 : Int32) (w10 : StT), k19 y2 y3 y4 y5 y6 y7 y8 y9 w10 = some r → WA g K 11 0 0 19 [(0, .ref (ad 0)), (1, .int y2), (3, .int y3), (4, .int y4), (5, .int y5), (6, .int y6), (7, .int y7), (8, .int y8), (9, .int y9)] [] (mo_ws g ad w10)) (x24 : Int32) (x25 : Int32) (x26 : Int32) (x27 : Int32) (x28 : Int32) (x29 : Int32) (x30 : Int32) (x31 : Int32) (x32 : Int32) (w33 : StT), f_X4_bestBy_b57 k19 x24 x25 x26 x27 x28 x29 x30 x31 x32 w33 = some r → WA g K 11 0 0 57 [(0, .ref (ad 0)), (1, .int x24), (3, .int x25), (4, .int x26), (5, .int x27), (6, .int x28), (8, .int x29), (9, .int x30), (10, .int x31)] [.int x32] (mo_ws g ad w33) := by
    intro  k19 Hk19 x24 x25 x26 x27 x28 x29 x30 x31 x32 w33 h
    rw [f_X4_bestBy_b57] at h
    refine wa_istore fx [(7, .int x32), (0, .ref (ad 0)), (1, .int x24), (3, .int x25), (4, .int x26), (5, .int x27), (6, .int x28), (8, .int x29), (9, .int x30), (10, .int x31)] dX4_bestBy_57 (by decide) rfl ?_
    refine wa_iload fx 9 dX4_bestBy_59 rfl ?_
    refine wa_iload fx 7 dX4_bestBy_61 rfl ?_
    refine wa_icmp_le fx 71 dX4_bestBy_63 (by decide) h (fun h => ?_) (fun h => ?_)
    · refine wa_iload fx 7 dX4_bestBy_71 rfl ?_
      refine wa_sub [1, 2, 3, 4, 5, 6, 0, 8] rfl ?_
      exact B73 k19 Hk19 x24 x25 x26 x27 x28 x32 x30 x29 w33 h
    · refine wa_iload fx 9 dX4_bestBy_66 rfl ?_
      refine wa_goto fx 73 dX4_bestBy_68 (by decide) ?_
      refine wa_sub [1, 2, 3, 4, 5, 6, 0, 8] rfl ?_
      exact B73 k19 Hk19 x24 x25 x26 x27 x28 x32 x30 x31 w33 h
  have B19 : ∀  (n : Nat) (x11 : Int32) (x12 : Int32) (x13 : Int32) (x14 : Int32) (x15 : Int32) (x16 : Int32) (x17 : Int32) (x18 : Int32) (w19 : StT), f_X4_bestBy_l19 n x11 x12 x13 x14 x15 x16 x17 x18 w19 = some r → WA g K 11 0 0 19 [(0, .ref (ad 0)), (1, .int x11), (3, .int x12), (4, .int x13), (5, .int x14), (6, .int x15), (7, .int x16), (8, .int x17), (9, .int x18)] [] (mo_ws g ad w19) := by
    intro   n
    induction n with
    | zero => intro x11 x12 x13 x14 x15 x16 x17 x18 w19 h; exact absurd h (by rw [f_X4_bestBy_l19]; exact nofun)
    | succ n ih =>
      intro x11 x12 x13 x14 x15 x16 x17 x18 w19 h
      rw [f_X4_bestBy_l19] at h
      refine wa_iload fx 8 dX4_bestBy_19 rfl ?_
      refine wa_iload_n fx 2 dX4_bestBy_21 rfl ?_
      refine wa_icmp_gt fx 81 dX4_bestBy_22 (by decide) h (fun h => ?_) (fun h => ?_)
      · refine wa_aload_n fx 0 dX4_bestBy_81 rfl ?_
        refine wa_get (v := .ref (ad 1)) fx wm_X4 0 rfl rfl 0 (by decide) q_3_15 rfl rfl dX4_bestBy_82 ?_
        refine wa_iload_n fx 1 dX4_bestBy_85 rfl ?_
        refine wa_iload fx 5 dX4_bestBy_86 rfl ?_
        refine wa_iast (mo_ws g ad) (f := w19.1 0) fx 1 rfl dX4_bestBy_88 h rfl (fun w20 h => ?_)
        refine wa_iload fx 6 dX4_bestBy_89 rfl ?_
        exact fn_i (mo_ws g ad) fx hf (sn1 h) (sn2 h) dX4_bestBy_91
      · refine wa_aload_n fx 0 dX4_bestBy_25 rfl ?_
        refine wa_get (v := .ref (ad 1)) fx wm_X4 0 rfl rfl 0 (by decide) q_3_15 rfl rfl dX4_bestBy_26 ?_
        refine wa_iload_n fx 1 dX4_bestBy_29 rfl ?_
        refine wa_iload fx 8 dX4_bestBy_30 rfl ?_
        refine wa_iast (mo_ws g ad) (f := w19.1 0) fx 1 rfl dX4_bestBy_32 h rfl (fun w21 h => ?_)
        refine wa_aload_n fx 0 dX4_bestBy_33 rfl ?_
        refine wa_iload fx 3 dX4_bestBy_34 rfl ?_
        refine wa_iload fx 4 dX4_bestBy_36 rfl ?_
        refine wa_V (b := ad 0) (rmc := (rmh 10)) (As := [.int x13, .int x14]) (st := []) (wc := (mo_ws g ad w21)) (wr := ([] : va_W)) (wcz := fun z22 => mo_ws g ad z22.2) (w2 := fun z22 => mo_ws g ad z22.2) (o := fun z22 => some (.int z22.1)) (s2 := fun z22 => [.int z22.1]) (ci := 4) (q0 := 0) fx mm_X4_wellIn q_23_3 dX4_bestBy_38 h (fun _ hz => c_X4_wellIn hz) rfl rfl (rm_ok (by decide) (by decide)) ⟨Nat.zero_le _, Nat.zero_le _⟩ rfl (List.Perm.refl _) (fun _ => List.Perm.refl _) rfl (Nat.le_of_ble_eq_true rfl) (fun _ => rfl) (fun z22 h => ?_)
        refine wa_istoreN fx (fun x23 => [(10, .int x23), (0, .ref (ad 0)), (1, .int x11), (3, .int x12), (4, .int x13), (5, .int x14), (6, .int x15), (7, .int x16), (8, .int x17), (9, .int x18)]) dX4_bestBy_41 (by decide) (fun _ => rfl) h (fun x23 h => ?_)
        refine wa_iload fx 0 dX4_bestBy_43 rfl ?_
        refine wa_iload fx 8 dX4_bestBy_45 rfl ?_
        refine wa_icmp_le fx 55 dX4_bestBy_47 (by decide) h (fun h => ?_) (fun h => ?_)
        · refine wa_iload fx 7 dX4_bestBy_55 rfl ?_
          refine wa_sub [1, 2, 3, 4, 5, 6, 8, 9, 0] rfl ?_
          exact B57 (f_X4_bestBy_l19 n) ih x11 x12 x13 x14 x15 x17 x18 x23 x16 z22.2 h
        · refine wa_iload fx 9 dX4_bestBy_50 rfl ?_
          refine wa_goto fx 57 dX4_bestBy_52 (by decide) ?_
          refine wa_sub [1, 2, 3, 4, 5, 6, 8, 9, 0] rfl ?_
          exact B57 (f_X4_bestBy_l19 n) ih x11 x12 x13 x14 x15 x17 x18 x23 x18 z22.2 h
  refine wa_aload_n fx 0 dX4_bestBy_0 rfl ?_
  refine wa_get (v := .ref (ad 1)) fx wm_X4 0 rfl rfl 0 (by decide) q_3_15 rfl rfl dX4_bestBy_1 ?_
  refine wa_iload_n fx 1 dX4_bestBy_4 rfl ?_
  refine wa_iald (f := st.1 0) fx 1 rfl dX4_bestBy_5 h (fun h => ?_)
  refine wa_istoreN fx (fun x1 => [(6, .int x1), (0, .ref (ad 0)), (1, .int a1), (2, .int a2), (3, .int a3), (4, .int a4), (5, .int a5)]) dX4_bestBy_6 (by decide) (fun _ => rfl) h (fun x1 h => ?_)
  refine wa_iload_n fx 3 dX4_bestBy_8 rfl ?_
  refine wa_istore fx [(7, .int a2), (6, .int x1), (0, .ref (ad 0)), (1, .int a1), (2, .int a2), (3, .int a3), (4, .int a4), (5, .int a5)] dX4_bestBy_9 (by decide) rfl ?_
  refine wa_sipush fx (-10000 : Int32) dX4_bestBy_11 (by decide) ?_
  refine wa_istore fx [(8, .int (-10000 : Int32)), (7, .int a2), (6, .int x1), (0, .ref (ad 0)), (1, .int a1), (2, .int a2), (3, .int a3), (4, .int a4), (5, .int a5)] dX4_bestBy_14 (by decide) rfl ?_
  refine wa_iload_n fx 5 dX4_bestBy_16 rfl ?_
  refine wa_istore fx [(9, .int a2), (8, .int (-10000 : Int32)), (7, .int a2), (6, .int x1), (0, .ref (ad 0)), (1, .int a1), (2, .int a2), (3, .int a3), (4, .int a4), (5, .int a5)] dX4_bestBy_17 (by decide) rfl ?_
  refine wa_sub [4, 5, 7, 8, 9, 3, 2, 1, 0] rfl ?_
  exact B19 200 a1 a3 a4 a5 x1 a2 (-10000 : Int32) a2 st h
def f_X4_kind  (st : StT) (a1 : Int32) (a2 : Int32) : Option (Int32 × (StT)) := Option.bind (f_X4_isPerson st a1) fun z1 => if z1 = 0 then (Option.bind (f_X4_finds st (-1000000001 : Int32)) fun z2 => some (z2.1, z2.2)) else (Option.bind (f_X4_isSoon a2) fun z3 => if z3 = 0 then (Option.bind (f_X4_finds st (-1000000001 : Int32)) fun z4 => some (z4.1, z4.2)) else (Option.bind (f_X4_spotOf a1 (0 : Int32)) fun z5 => Option.bind (f_X4_bestBy st z5 (0 : Int32) (5 : Int32) a1 a2) fun z6 => some (z6.1, z6.2)))
set_option maxHeartbeats 4000000 in
set_option maxRecDepth 100000 in
theorem c_X4_kind {g : GT} {l : Launch} {ad : Nat → Nat}   {st : StT} {a1 : Int32} {a2 : Int32} {r : Int32 × (StT)} (h : f_X4_kind st a1 a2 = some r) : Ct g l yX4_kind (wd yX4_kind cX4_kind 3 (some .int)) (rmh 12) [.ref (ad 0), .int a1, .int a2] (mo_ws g ad st) (mo_ws g ad r.2) (some (.int r.1)) := by
  refine Ct.of (lv := [(0, .ref (ad 0)), (1, .int a1), (2, .int a2)]) (by decide) (Nat.le_of_ble_eq_true rfl) rfl (fun K hl fx hf => ?_)
  subst hl
  rw [f_X4_kind] at h
  refine wa_aload_n fx 0 dX4_kind_0 rfl ?_
  refine wa_iload_n fx 1 dX4_kind_1 rfl ?_
  refine wa_V (b := ad 0) (rmc := (rmh 2)) (As := [.int a1]) (st := []) (wc := (mo_ws g ad st)) (wr := ([] : va_W)) (wcz := fun _ => (mo_ws g ad st)) (w2 := fun _ => (mo_ws g ad st)) (o := fun z1 => some (.int z1)) (s2 := fun z1 => [.int z1]) (ci := 4) (q0 := 0) fx mm_X4_isPerson q_8_18 dX4_kind_2 h (fun _ hz => c_X4_isPerson hz) rfl rfl (rm_ok (by decide) (by decide)) ⟨Nat.zero_le _, Nat.zero_le _⟩ rfl (List.Perm.refl _) (fun _ => (List.Perm.refl _)) rfl (Nat.le_of_ble_eq_true rfl) (fun _ => rfl) (fun z1 h => ?_)
  refine wa_if_eq fx 31 dX4_kind_5 (by decide) h (fun h => ?_) (fun h => ?_)
  · refine wa_aload_n fx 0 dX4_kind_31 rfl ?_
    refine wa_ldc fx q_5_4 dX4_kind_32 ?_
    refine wa_V (b := ad 0) (rmc := (rmh 1)) (As := [.int (-1000000001 : Int32)]) (st := []) (wc := (mo_ws g ad st)) (wr := ([] : va_W)) (wcz := fun z2 => mo_ws g ad z2.2) (w2 := fun z2 => mo_ws g ad z2.2) (o := fun z2 => some (.int z2.1)) (s2 := fun z2 => [.int z2.1]) (ci := 4) (q0 := 0) fx mm_X4_finds q_5_16 dX4_kind_34 h (fun _ hz => c_X4_finds hz) rfl rfl (rm_ok (by decide) (by decide)) ⟨Nat.zero_le _, Nat.zero_le _⟩ rfl (List.Perm.refl _) (fun _ => List.Perm.refl _) rfl (Nat.le_of_ble_eq_true rfl) (fun _ => rfl) (fun z2 h => ?_)
    exact fn_i (mo_ws g ad) fx hf (sn1 h) (sn2 h) dX4_kind_37
  · refine wa_iload_n fx 2 dX4_kind_8 rfl ?_
    refine wa_S (rmc := (rmh 2)) (As := [.int a2]) (st := []) (wc := (no_ws ())) (wr := (mo_ws g ad st)) (wcz := fun _ => (no_ws ())) (w2 := fun _ => (mo_ws g ad st)) (o := fun z3 => some (.int z3)) (s2 := fun z3 => [.int z3]) fx mm_X4_isSoon q_22_7 dX4_kind_9 h (fun _ hz => c_X4_isSoon hz) (rm_ok (by decide) (by decide)) ⟨Nat.zero_le _, Nat.zero_le _⟩ rfl (List.Perm.of_eq (List.append_nil _).symm) (fun _ => (List.Perm.of_eq (List.append_nil _).symm)) rfl (Nat.le_of_ble_eq_true rfl) (fun _ => rfl) (fun z3 h => ?_)
    refine wa_if_eq fx 31 dX4_kind_12 (by decide) h (fun h => ?_) (fun h => ?_)
    · refine wa_aload_n fx 0 dX4_kind_31 rfl ?_
      refine wa_ldc fx q_5_4 dX4_kind_32 ?_
      refine wa_V (b := ad 0) (rmc := (rmh 1)) (As := [.int (-1000000001 : Int32)]) (st := []) (wc := (mo_ws g ad st)) (wr := ([] : va_W)) (wcz := fun z4 => mo_ws g ad z4.2) (w2 := fun z4 => mo_ws g ad z4.2) (o := fun z4 => some (.int z4.1)) (s2 := fun z4 => [.int z4.1]) (ci := 4) (q0 := 0) fx mm_X4_finds q_5_16 dX4_kind_34 h (fun _ hz => c_X4_finds hz) rfl rfl (rm_ok (by decide) (by decide)) ⟨Nat.zero_le _, Nat.zero_le _⟩ rfl (List.Perm.refl _) (fun _ => List.Perm.refl _) rfl (Nat.le_of_ble_eq_true rfl) (fun _ => rfl) (fun z4 h => ?_)
      exact fn_i (mo_ws g ad) fx hf (sn1 h) (sn2 h) dX4_kind_37
    · refine wa_aload_n fx 0 dX4_kind_15 rfl ?_
      refine wa_iload_n fx 1 dX4_kind_16 rfl ?_
      refine wa_iconst fx (0 : Int32) dX4_kind_17 (by decide) ?_
      refine wa_S (rmc := (rmh 1)) (As := [.int a1, .int (0 : Int32)]) (st := [.ref (ad 0)]) (wc := (no_ws ())) (wr := (mo_ws g ad st)) (wcz := fun _ => (no_ws ())) (w2 := fun _ => (mo_ws g ad st)) (o := fun z5 => some (.int z5)) (s2 := fun z5 => [.int z5, .ref (ad 0)]) fx mm_X4_spotOf q_6_14 dX4_kind_18 h (fun _ hz => c_X4_spotOf hz) (rm_ok (by decide) (by decide)) ⟨Nat.zero_le _, Nat.zero_le _⟩ rfl (List.Perm.of_eq (List.append_nil _).symm) (fun _ => (List.Perm.of_eq (List.append_nil _).symm)) rfl (Nat.le_of_ble_eq_true rfl) (fun _ => rfl) (fun z5 h => ?_)
      refine wa_iconst fx (0 : Int32) dX4_kind_21 (by decide) ?_
      refine wa_iconst fx (5 : Int32) dX4_kind_22 (by decide) ?_
      refine wa_iload_n fx 1 dX4_kind_23 rfl ?_
      refine wa_iload_n fx 2 dX4_kind_24 rfl ?_
      refine wa_V (b := ad 0) (rmc := (rmh 11)) (As := [.int z5, .int (0 : Int32), .int (5 : Int32), .int a1, .int a2]) (st := []) (wc := (mo_ws g ad st)) (wr := ([] : va_W)) (wcz := fun z6 => mo_ws g ad z6.2) (w2 := fun z6 => mo_ws g ad z6.2) (o := fun z6 => some (.int z6.1)) (s2 := fun z6 => [.int z6.1]) (ci := 4) (q0 := 0) fx mm_X4_bestBy q_22_23 dX4_kind_25 h (fun _ hz => c_X4_bestBy hz) rfl rfl (rm_ok (by decide) (by decide)) ⟨Nat.zero_le _, Nat.zero_le _⟩ rfl (List.Perm.refl _) (fun _ => List.Perm.refl _) rfl (Nat.le_of_ble_eq_true rfl) (fun _ => rfl) (fun z6 h => ?_)
      refine wa_goto fx 37 dX4_kind_28 (by decide) ?_
      exact fn_i (mo_ws g ad) fx hf (sn1 h) (sn2 h) dX4_kind_37
def f_X4_claim  (st : StT) (a1 : Int32) (a2 : Int32) : Option (Int32 × (StT)) := Option.bind (f_X4_isPerson st a1) fun z1 => if z1 = 0 then (Option.bind (f_X4_finds st (-1000000001 : Int32)) fun z2 => some (z2.1, z2.2)) else (Option.bind (f_X4_isSoon a2) fun z3 => if z3 = 0 then (Option.bind (f_X4_finds st (-1000000001 : Int32)) fun z4 => some (z4.1, z4.2)) else (Option.bind (f_X4_spotOf a1 (2 : Int32)) fun z5 => Option.bind (f_X4_bestBy st z5 (-1 : Int32) (7 : Int32) a1 a2) fun z6 => some (((1 : Int32) + z6.1), z6.2)))
set_option maxHeartbeats 4000000 in
set_option maxRecDepth 100000 in
theorem c_X4_claim {g : GT} {l : Launch} {ad : Nat → Nat}   {st : StT} {a1 : Int32} {a2 : Int32} {r : Int32 × (StT)} (h : f_X4_claim st a1 a2 = some r) : Ct g l yX4_claim (wd yX4_claim cX4_claim 3 (some .int)) (rmh 12) [.ref (ad 0), .int a1, .int a2] (mo_ws g ad st) (mo_ws g ad r.2) (some (.int r.1)) := by
  refine Ct.of (lv := [(0, .ref (ad 0)), (1, .int a1), (2, .int a2)]) (by decide) (Nat.le_of_ble_eq_true rfl) rfl (fun K hl fx hf => ?_)
  subst hl
  rw [f_X4_claim] at h
  refine wa_aload_n fx 0 dX4_claim_0 rfl ?_
  refine wa_iload_n fx 1 dX4_claim_1 rfl ?_
  refine wa_V (b := ad 0) (rmc := (rmh 2)) (As := [.int a1]) (st := []) (wc := (mo_ws g ad st)) (wr := ([] : va_W)) (wcz := fun _ => (mo_ws g ad st)) (w2 := fun _ => (mo_ws g ad st)) (o := fun z1 => some (.int z1)) (s2 := fun z1 => [.int z1]) (ci := 4) (q0 := 0) fx mm_X4_isPerson q_8_18 dX4_claim_2 h (fun _ hz => c_X4_isPerson hz) rfl rfl (rm_ok (by decide) (by decide)) ⟨Nat.zero_le _, Nat.zero_le _⟩ rfl (List.Perm.refl _) (fun _ => (List.Perm.refl _)) rfl (Nat.le_of_ble_eq_true rfl) (fun _ => rfl) (fun z1 h => ?_)
  refine wa_if_eq fx 34 dX4_claim_5 (by decide) h (fun h => ?_) (fun h => ?_)
  · refine wa_aload_n fx 0 dX4_claim_34 rfl ?_
    refine wa_ldc fx q_5_4 dX4_claim_35 ?_
    refine wa_V (b := ad 0) (rmc := (rmh 1)) (As := [.int (-1000000001 : Int32)]) (st := []) (wc := (mo_ws g ad st)) (wr := ([] : va_W)) (wcz := fun z2 => mo_ws g ad z2.2) (w2 := fun z2 => mo_ws g ad z2.2) (o := fun z2 => some (.int z2.1)) (s2 := fun z2 => [.int z2.1]) (ci := 4) (q0 := 0) fx mm_X4_finds q_5_16 dX4_claim_37 h (fun _ hz => c_X4_finds hz) rfl rfl (rm_ok (by decide) (by decide)) ⟨Nat.zero_le _, Nat.zero_le _⟩ rfl (List.Perm.refl _) (fun _ => List.Perm.refl _) rfl (Nat.le_of_ble_eq_true rfl) (fun _ => rfl) (fun z2 h => ?_)
    exact fn_i (mo_ws g ad) fx hf (sn1 h) (sn2 h) dX4_claim_40
  · refine wa_iload_n fx 2 dX4_claim_8 rfl ?_
    refine wa_S (rmc := (rmh 2)) (As := [.int a2]) (st := []) (wc := (no_ws ())) (wr := (mo_ws g ad st)) (wcz := fun _ => (no_ws ())) (w2 := fun _ => (mo_ws g ad st)) (o := fun z3 => some (.int z3)) (s2 := fun z3 => [.int z3]) fx mm_X4_isSoon q_22_7 dX4_claim_9 h (fun _ hz => c_X4_isSoon hz) (rm_ok (by decide) (by decide)) ⟨Nat.zero_le _, Nat.zero_le _⟩ rfl (List.Perm.of_eq (List.append_nil _).symm) (fun _ => (List.Perm.of_eq (List.append_nil _).symm)) rfl (Nat.le_of_ble_eq_true rfl) (fun _ => rfl) (fun z3 h => ?_)
    refine wa_if_eq fx 34 dX4_claim_12 (by decide) h (fun h => ?_) (fun h => ?_)
    · refine wa_aload_n fx 0 dX4_claim_34 rfl ?_
      refine wa_ldc fx q_5_4 dX4_claim_35 ?_
      refine wa_V (b := ad 0) (rmc := (rmh 1)) (As := [.int (-1000000001 : Int32)]) (st := []) (wc := (mo_ws g ad st)) (wr := ([] : va_W)) (wcz := fun z4 => mo_ws g ad z4.2) (w2 := fun z4 => mo_ws g ad z4.2) (o := fun z4 => some (.int z4.1)) (s2 := fun z4 => [.int z4.1]) (ci := 4) (q0 := 0) fx mm_X4_finds q_5_16 dX4_claim_37 h (fun _ hz => c_X4_finds hz) rfl rfl (rm_ok (by decide) (by decide)) ⟨Nat.zero_le _, Nat.zero_le _⟩ rfl (List.Perm.refl _) (fun _ => List.Perm.refl _) rfl (Nat.le_of_ble_eq_true rfl) (fun _ => rfl) (fun z4 h => ?_)
      exact fn_i (mo_ws g ad) fx hf (sn1 h) (sn2 h) dX4_claim_40
    · refine wa_iconst fx (1 : Int32) dX4_claim_15 (by decide) ?_
      refine wa_aload_n fx 0 dX4_claim_16 rfl ?_
      refine wa_iload_n fx 1 dX4_claim_17 rfl ?_
      refine wa_iconst fx (2 : Int32) dX4_claim_18 (by decide) ?_
      refine wa_S (rmc := (rmh 1)) (As := [.int a1, .int (2 : Int32)]) (st := [.ref (ad 0), .int (1 : Int32)]) (wc := (no_ws ())) (wr := (mo_ws g ad st)) (wcz := fun _ => (no_ws ())) (w2 := fun _ => (mo_ws g ad st)) (o := fun z5 => some (.int z5)) (s2 := fun z5 => [.int z5, .ref (ad 0), .int (1 : Int32)]) fx mm_X4_spotOf q_6_14 dX4_claim_19 h (fun _ hz => c_X4_spotOf hz) (rm_ok (by decide) (by decide)) ⟨Nat.zero_le _, Nat.zero_le _⟩ rfl (List.Perm.of_eq (List.append_nil _).symm) (fun _ => (List.Perm.of_eq (List.append_nil _).symm)) rfl (Nat.le_of_ble_eq_true rfl) (fun _ => rfl) (fun z5 h => ?_)
      refine wa_iconst fx (-1 : Int32) dX4_claim_22 (by decide) ?_
      refine wa_bipush fx (7 : Int32) dX4_claim_23 (by decide) ?_
      refine wa_iload_n fx 1 dX4_claim_25 rfl ?_
      refine wa_iload_n fx 2 dX4_claim_26 rfl ?_
      refine wa_V (b := ad 0) (rmc := (rmh 11)) (As := [.int z5, .int (-1 : Int32), .int (7 : Int32), .int a1, .int a2]) (st := [.int (1 : Int32)]) (wc := (mo_ws g ad st)) (wr := ([] : va_W)) (wcz := fun z6 => mo_ws g ad z6.2) (w2 := fun z6 => mo_ws g ad z6.2) (o := fun z6 => some (.int z6.1)) (s2 := fun z6 => [.int z6.1, .int (1 : Int32)]) (ci := 4) (q0 := 0) fx mm_X4_bestBy q_22_23 dX4_claim_27 h (fun _ hz => c_X4_bestBy hz) rfl rfl (rm_ok (by decide) (by decide)) ⟨Nat.zero_le _, Nat.zero_le _⟩ rfl (List.Perm.refl _) (fun _ => List.Perm.refl _) rfl (Nat.le_of_ble_eq_true rfl) (fun _ => rfl) (fun z6 h => ?_)
      refine wa_iadd fx dX4_claim_30 ?_
      refine wa_goto fx 40 dX4_claim_31 (by decide) ?_
      exact fn_i (mo_ws g ad) fx hf (sn1 h) (sn2 h) dX4_claim_40
def f_X4_years_b103 (x19 : Int32) (w20 : StT) : Option (Int32 × (StT)) := if 0 ≤ x19 then (some (x19, w20)) else (Option.bind (f_X4_finds w20 (-1000000004 : Int32)) fun z21 => some (z21.1, z21.2))
def f_X4_years_b92 (k44 : (Int32) → (Int32) → (Int32) → (Int32) → (Int32) → (StT) → Option (Int32 × (StT))) (x27 : Int32) (x28 : Int32) (x29 : Int32) (x30 : Int32) (x31 : Int32) (w32 : StT) : Option (Int32 × (StT)) := Option.bind (f_X4_takesBack w32 x31) fun z33 => nm z33.1 fun x34 => nm (x30 + (1 : Int32)) fun x35 => k44 x27 x28 x29 x34 x35 z33.2
def f_X4_years_l44 : Nat → (Int32) → (Int32) → (Int32) → (Int32) → (Int32) → (StT) → Option (Int32 × (StT))
  | 0, _, _, _, _, _, _ => none
  | n + 1, x13, x14, x15, x16, x17, w18 => if (99 : Int32) < x17 then (f_X4_years_b103 x16 w18) else (if 0 ≤ x16 then (f_X4_years_b103 x16 w18) else (Option.bind (f_X4_spotOf x13 (1 : Int32)) fun z22 => ck z22 66 (nm (setA w18 0 (upd (w18.1 0) (Int32.toNatClampNeg z22) x17)) fun w23 => Option.bind (f_X4_hoursGo w23 x15) fun z24 => nm z24.1 fun x25 => Option.bind (f_X4_its z24.2 x13 (5 : Int32)) fun z26 => if z26 = x14 then (f_X4_years_b92 (f_X4_years_l44 n) x13 x14 x15 x17 x17 z24.2) else (f_X4_years_b92 (f_X4_years_l44 n) x13 x14 x15 x17 (-1 : Int32) z24.2))))
def f_X4_years  (st : StT) (a1 : Int32) (a2 : Int32) (a3 : Int32) : Option (Int32 × (StT)) := Option.bind (f_X4_isPerson st a1) fun z1 => if z1 = 0 then (Option.bind (f_X4_finds st (-1000000001 : Int32)) fun z2 => some (z2.1, z2.2)) else (Option.bind (f_X4_isChair a2) fun z3 => if z3 = 0 then (Option.bind (f_X4_finds st (-1000000001 : Int32)) fun z4 => some (z4.1, z4.2)) else (Option.bind (f_X4_in (Int32.toInt64 a3) (1 : Int64) (30 : Int64)) fun z5 => if z5 = 0 then (Option.bind (f_X4_finds st (-1000000001 : Int32)) fun z36 => some (z36.1, z36.2)) else (Option.bind (f_X4_laysAside st) fun z6 => f_X4_years_l44 200 a1 a2 a3 (-1 : Int32) (0 : Int32) z6)))
set_option maxHeartbeats 4000000 in
set_option maxRecDepth 100000 in
theorem c_X4_years {g : GT} {l : Launch} {ad : Nat → Nat}   {st : StT} {a1 : Int32} {a2 : Int32} {a3 : Int32} {r : Int32 × (StT)} (h : f_X4_years st a1 a2 a3 = some r) : Ct g l yX4_years (wd yX4_years cX4_years 7 (some .int)) (rmh 10) [.ref (ad 0), .int a1, .int a2, .int a3] (mo_ws g ad st) (mo_ws g ad r.2) (some (.int r.1)) := by
  refine Ct.of (lv := [(0, .ref (ad 0)), (1, .int a1), (2, .int a2), (3, .int a3)]) (by decide) (Nat.le_of_ble_eq_true rfl) rfl (fun K hl fx hf => ?_)
  subst hl
  rw [f_X4_years] at h
  have B103 : ∀  (x19 : Int32) (w20 : StT), f_X4_years_b103 x19 w20 = some r → WA g K 7 0 0 103 [(0, .ref (ad 0)), (4, .int x19)] [] (mo_ws g ad w20) := by
    intro   x19 w20 h
    rw [f_X4_years_b103] at h
    refine wa_iload fx 1 dX4_years_103 rfl ?_
    refine wa_if_ge fx 117 dX4_years_105 (by decide) h (fun h => ?_) (fun h => ?_)
    · refine wa_iload fx 1 dX4_years_117 rfl ?_
      exact fn_i (mo_ws g ad) fx hf (sn1 h) (sn2 h) dX4_years_119
    · refine wa_aload_n fx 0 dX4_years_108 rfl ?_
      refine wa_ldc fx q_20_13 dX4_years_109 ?_
      refine wa_V (b := ad 0) (rmc := (rmh 1)) (As := [.int (-1000000004 : Int32)]) (st := []) (wc := (mo_ws g ad w20)) (wr := ([] : va_W)) (wcz := fun z21 => mo_ws g ad z21.2) (w2 := fun z21 => mo_ws g ad z21.2) (o := fun z21 => some (.int z21.1)) (s2 := fun z21 => [.int z21.1]) (ci := 4) (q0 := 0) fx mm_X4_finds q_5_16 dX4_years_111 h (fun _ hz => c_X4_finds hz) rfl rfl (rm_ok (by decide) (by decide)) ⟨Nat.zero_le _, Nat.zero_le _⟩ rfl (List.Perm.refl _) (fun _ => List.Perm.refl _) rfl (Nat.le_of_ble_eq_true rfl) (fun _ => rfl) (fun z21 h => ?_)
      refine wa_goto fx 119 dX4_years_114 (by decide) ?_
      exact fn_i (mo_ws g ad) fx hf (sn1 h) (sn2 h) dX4_years_119
  have B92 : ∀ (k44 : (Int32) → (Int32) → (Int32) → (Int32) → (Int32) → (StT) → Option (Int32 × (StT))) (Hk44 : ∀ (y7 : Int32) (y8 : Int32) (y9 : Int32) (y10 : Int32) (y11 : Int32) (w12 : StT), k44 y7 y8 y9 y10 y11 w12 = some r → WA g K 7 0 0 44 [(0, .ref (ad 0)), (1, .int y7), (2, .int y8), (3, .int y9), (4, .int y10), (5, .int y11)] [] (mo_ws g ad w12)) (x27 : Int32) (x28 : Int32) (x29 : Int32) (x30 : Int32) (x31 : Int32) (w32 : StT), f_X4_years_b92 k44 x27 x28 x29 x30 x31 w32 = some r → WA g K 7 0 0 92 [(0, .ref (ad 0)), (1, .int x27), (2, .int x28), (3, .int x29), (5, .int x30)] [.int x31, .ref (ad 0)] (mo_ws g ad w32) := by
    intro  k44 Hk44 x27 x28 x29 x30 x31 w32 h
    rw [f_X4_years_b92] at h
    refine wa_V (b := ad 0) (rmc := (rmh 1)) (As := [.int x31]) (st := []) (wc := (mo_ws g ad w32)) (wr := ([] : va_W)) (wcz := fun z33 => mo_ws g ad z33.2) (w2 := fun z33 => mo_ws g ad z33.2) (o := fun z33 => some (.int z33.1)) (s2 := fun z33 => [.int z33.1]) (ci := 4) (q0 := 0) fx mm_X4_takesBack q_19_12 dX4_years_92 h (fun _ hz => c_X4_takesBack hz) rfl rfl (rm_ok (by decide) (by decide)) ⟨Nat.zero_le _, Nat.zero_le _⟩ rfl (List.Perm.refl _) (fun _ => List.Perm.refl _) rfl (Nat.le_of_ble_eq_true rfl) (fun _ => rfl) (fun z33 h => ?_)
    refine wa_istoreN fx (fun x34 => [(4, .int x34), (0, .ref (ad 0)), (1, .int x27), (2, .int x28), (3, .int x29), (5, .int x30)]) dX4_years_95 (by decide) (fun _ => rfl) h (fun x34 h => ?_)
    refine wa_iinc fx 5 (fun x35 => [(5, .int x35), (4, .int x34), (0, .ref (ad 0)), (1, .int x27), (2, .int x28), (3, .int x29)]) dX4_years_97 rfl (by rfl) (by decide) (fun _ => rfl) h (fun x35 h => ?_)
    refine wa_goto fx 44 dX4_years_100 (by decide) ?_
    refine wa_sub [2, 3, 4, 5, 1, 0] rfl ?_
    exact Hk44 x27 x28 x29 x34 x35 z33.2 h
  have B44 : ∀  (n : Nat) (x13 : Int32) (x14 : Int32) (x15 : Int32) (x16 : Int32) (x17 : Int32) (w18 : StT), f_X4_years_l44 n x13 x14 x15 x16 x17 w18 = some r → WA g K 7 0 0 44 [(0, .ref (ad 0)), (1, .int x13), (2, .int x14), (3, .int x15), (4, .int x16), (5, .int x17)] [] (mo_ws g ad w18) := by
    intro   n
    induction n with
    | zero => intro x13 x14 x15 x16 x17 w18 h; exact absurd h (by rw [f_X4_years_l44]; exact nofun)
    | succ n ih =>
      intro x13 x14 x15 x16 x17 w18 h
      rw [f_X4_years_l44] at h
      refine wa_iload fx 5 dX4_years_44 rfl ?_
      refine wa_bipush fx (99 : Int32) dX4_years_46 (by decide) ?_
      refine wa_icmp_gt fx 103 dX4_years_48 (by decide) h (fun h => ?_) (fun h => ?_)
      · refine wa_sub [0, 4] rfl ?_
        exact B103 x16 w18 h
      · refine wa_iload fx 4 dX4_years_51 rfl ?_
        refine wa_if_ge fx 103 dX4_years_53 (by decide) h (fun h => ?_) (fun h => ?_)
        · refine wa_sub [0, 4] rfl ?_
          exact B103 x16 w18 h
        · refine wa_aload_n fx 0 dX4_years_56 rfl ?_
          refine wa_get (v := .ref (ad 1)) fx wm_X4 0 rfl rfl 0 (by decide) q_3_15 rfl rfl dX4_years_57 ?_
          refine wa_iload_n fx 1 dX4_years_60 rfl ?_
          refine wa_iconst fx (1 : Int32) dX4_years_61 (by decide) ?_
          refine wa_S (rmc := (rmh 1)) (As := [.int x13, .int (1 : Int32)]) (st := [.ref (ad 1)]) (wc := (no_ws ())) (wr := (mo_ws g ad w18)) (wcz := fun _ => (no_ws ())) (w2 := fun _ => (mo_ws g ad w18)) (o := fun z22 => some (.int z22)) (s2 := fun z22 => [.int z22, .ref (ad 1)]) fx mm_X4_spotOf q_6_14 dX4_years_62 h (fun _ hz => c_X4_spotOf hz) (rm_ok (by decide) (by decide)) ⟨Nat.zero_le _, Nat.zero_le _⟩ rfl (List.Perm.of_eq (List.append_nil _).symm) (fun _ => (List.Perm.of_eq (List.append_nil _).symm)) rfl (Nat.le_of_ble_eq_true rfl) (fun _ => rfl) (fun z22 h => ?_)
          refine wa_iload fx 5 dX4_years_65 rfl ?_
          refine wa_iast (mo_ws g ad) (f := w18.1 0) fx 1 rfl dX4_years_67 h rfl (fun w23 h => ?_)
          refine wa_aload_n fx 0 dX4_years_68 rfl ?_
          refine wa_iload_n fx 3 dX4_years_69 rfl ?_
          refine wa_V (b := ad 0) (rmc := (rmh 9)) (As := [.int x15]) (st := []) (wc := (mo_ws g ad w23)) (wr := ([] : va_W)) (wcz := fun z24 => mo_ws g ad z24.2) (w2 := fun z24 => mo_ws g ad z24.2) (o := fun z24 => some (.int z24.1)) (s2 := fun z24 => [.int z24.1]) (ci := 4) (q0 := 0) fx mm_X4_hoursGo q_16_15 dX4_years_70 h (fun _ hz => c_X4_hoursGo hz) rfl rfl (rm_ok (by decide) (by decide)) ⟨Nat.zero_le _, Nat.zero_le _⟩ rfl (List.Perm.refl _) (fun _ => List.Perm.refl _) rfl (Nat.le_of_ble_eq_true rfl) (fun _ => rfl) (fun z24 h => ?_)
          refine wa_istoreN fx (fun x25 => [(6, .int x25), (0, .ref (ad 0)), (1, .int x13), (2, .int x14), (3, .int x15), (4, .int x16), (5, .int x17)]) dX4_years_73 (by decide) (fun _ => rfl) h (fun x25 h => ?_)
          refine wa_aload_n fx 1 dX4_years_75 rfl ?_
          refine wa_aload_n fx 1 dX4_years_76 rfl ?_
          refine wa_iload_n fx 2 dX4_years_77 rfl ?_
          refine wa_iconst fx (5 : Int32) dX4_years_78 (by decide) ?_
          refine wa_V (b := ad 0) (rmc := (rmh 2)) (As := [.int x13, .int (5 : Int32)]) (st := [.ref (ad 0)]) (wc := (mo_ws g ad z24.2)) (wr := ([] : va_W)) (wcz := fun _ => (mo_ws g ad z24.2)) (w2 := fun _ => (mo_ws g ad z24.2)) (o := fun z26 => some (.int z26)) (s2 := fun z26 => [.int z26, .ref (ad 0)]) (ci := 4) (q0 := 0) fx mm_X4_its q_6_10 dX4_years_79 h (fun _ hz => c_X4_its hz) rfl rfl (rm_ok (by decide) (by decide)) ⟨Nat.zero_le _, Nat.zero_le _⟩ rfl (List.Perm.refl _) (fun _ => (List.Perm.refl _)) rfl (Nat.le_of_ble_eq_true rfl) (fun _ => rfl) (fun z26 h => ?_)
          refine wa_iload_n fx 3 dX4_years_82 rfl ?_
          refine wa_icmp_ne fx 91 dX4_years_83 (by decide) h (fun h => ?_) (fun h => ?_)
          · refine wa_iload fx 6 dX4_years_86 rfl ?_
            refine wa_goto fx 92 dX4_years_88 (by decide) ?_
            refine wa_sub [1, 2, 3, 4, 6] rfl ?_
            exact B92 (f_X4_years_l44 n) ih x13 x14 x15 x17 x17 z24.2 h
          · refine wa_iconst fx (-1 : Int32) dX4_years_91 (by decide) ?_
            refine wa_sub [1, 2, 3, 4, 6] rfl ?_
            exact B92 (f_X4_years_l44 n) ih x13 x14 x15 x17 (-1 : Int32) z24.2 h
  refine wa_aload_n fx 0 dX4_years_0 rfl ?_
  refine wa_iload_n fx 1 dX4_years_1 rfl ?_
  refine wa_V (b := ad 0) (rmc := (rmh 2)) (As := [.int a1]) (st := []) (wc := (mo_ws g ad st)) (wr := ([] : va_W)) (wcz := fun _ => (mo_ws g ad st)) (w2 := fun _ => (mo_ws g ad st)) (o := fun z1 => some (.int z1)) (s2 := fun z1 => [.int z1]) (ci := 4) (q0 := 0) fx mm_X4_isPerson q_8_18 dX4_years_2 h (fun _ hz => c_X4_isPerson hz) rfl rfl (rm_ok (by decide) (by decide)) ⟨Nat.zero_le _, Nat.zero_le _⟩ rfl (List.Perm.refl _) (fun _ => (List.Perm.refl _)) rfl (Nat.le_of_ble_eq_true rfl) (fun _ => rfl) (fun z1 h => ?_)
  refine wa_if_eq fx 27 dX4_years_5 (by decide) h (fun h => ?_) (fun h => ?_)
  · refine wa_aload_n fx 0 dX4_years_27 rfl ?_
    refine wa_ldc fx q_5_4 dX4_years_28 ?_
    refine wa_V (b := ad 0) (rmc := (rmh 1)) (As := [.int (-1000000001 : Int32)]) (st := []) (wc := (mo_ws g ad st)) (wr := ([] : va_W)) (wcz := fun z2 => mo_ws g ad z2.2) (w2 := fun z2 => mo_ws g ad z2.2) (o := fun z2 => some (.int z2.1)) (s2 := fun z2 => [.int z2.1]) (ci := 4) (q0 := 0) fx mm_X4_finds q_5_16 dX4_years_30 h (fun _ hz => c_X4_finds hz) rfl rfl (rm_ok (by decide) (by decide)) ⟨Nat.zero_le _, Nat.zero_le _⟩ rfl (List.Perm.refl _) (fun _ => List.Perm.refl _) rfl (Nat.le_of_ble_eq_true rfl) (fun _ => rfl) (fun z2 h => ?_)
    exact fn_i (mo_ws g ad) fx hf (sn1 h) (sn2 h) dX4_years_33
  · refine wa_iload_n fx 2 dX4_years_8 rfl ?_
    refine wa_S (rmc := (rmh 2)) (As := [.int a2]) (st := []) (wc := (no_ws ())) (wr := (mo_ws g ad st)) (wcz := fun _ => (no_ws ())) (w2 := fun _ => (mo_ws g ad st)) (o := fun z3 => some (.int z3)) (s2 := fun z3 => [.int z3]) fx mm_X4_isChair q_5_8 dX4_years_9 h (fun _ hz => c_X4_isChair hz) (rm_ok (by decide) (by decide)) ⟨Nat.zero_le _, Nat.zero_le _⟩ rfl (List.Perm.of_eq (List.append_nil _).symm) (fun _ => (List.Perm.of_eq (List.append_nil _).symm)) rfl (Nat.le_of_ble_eq_true rfl) (fun _ => rfl) (fun z3 h => ?_)
    refine wa_if_eq fx 27 dX4_years_12 (by decide) h (fun h => ?_) (fun h => ?_)
    · refine wa_aload_n fx 0 dX4_years_27 rfl ?_
      refine wa_ldc fx q_5_4 dX4_years_28 ?_
      refine wa_V (b := ad 0) (rmc := (rmh 1)) (As := [.int (-1000000001 : Int32)]) (st := []) (wc := (mo_ws g ad st)) (wr := ([] : va_W)) (wcz := fun z4 => mo_ws g ad z4.2) (w2 := fun z4 => mo_ws g ad z4.2) (o := fun z4 => some (.int z4.1)) (s2 := fun z4 => [.int z4.1]) (ci := 4) (q0 := 0) fx mm_X4_finds q_5_16 dX4_years_30 h (fun _ hz => c_X4_finds hz) rfl rfl (rm_ok (by decide) (by decide)) ⟨Nat.zero_le _, Nat.zero_le _⟩ rfl (List.Perm.refl _) (fun _ => List.Perm.refl _) rfl (Nat.le_of_ble_eq_true rfl) (fun _ => rfl) (fun z4 h => ?_)
      exact fn_i (mo_ws g ad) fx hf (sn1 h) (sn2 h) dX4_years_33
    · refine wa_iload_n fx 3 dX4_years_15 rfl ?_
      refine wa_i2l fx dX4_years_16 ?_
      refine wa_lconst fx (1 : Int64) dX4_years_17 (by decide) ?_
      refine wa_ldc2 fx q_22_10 dX4_years_18 ?_
      refine wa_S (rmc := (rmh 1)) (As := [.long (Int32.toInt64 a3), .long (1 : Int64), .long (30 : Int64)]) (st := []) (wc := (no_ws ())) (wr := (mo_ws g ad st)) (wcz := fun _ => (no_ws ())) (w2 := fun _ => (mo_ws g ad st)) (o := fun z5 => some (.int z5)) (s2 := fun z5 => [.int z5]) fx mm_X4_in q_5_5 dX4_years_21 h (fun _ hz => c_X4_in hz) (rm_ok (by decide) (by decide)) ⟨Nat.zero_le _, Nat.zero_le _⟩ rfl (List.Perm.of_eq (List.append_nil _).symm) (fun _ => (List.Perm.of_eq (List.append_nil _).symm)) rfl (Nat.le_of_ble_eq_true rfl) (fun _ => rfl) (fun z5 h => ?_)
      refine wa_if_ne fx 34 dX4_years_24 (by decide) h (fun h => ?_) (fun h => ?_)
      · refine wa_aload_n fx 0 dX4_years_27 rfl ?_
        refine wa_ldc fx q_5_4 dX4_years_28 ?_
        refine wa_V (b := ad 0) (rmc := (rmh 1)) (As := [.int (-1000000001 : Int32)]) (st := []) (wc := (mo_ws g ad st)) (wr := ([] : va_W)) (wcz := fun z36 => mo_ws g ad z36.2) (w2 := fun z36 => mo_ws g ad z36.2) (o := fun z36 => some (.int z36.1)) (s2 := fun z36 => [.int z36.1]) (ci := 4) (q0 := 0) fx mm_X4_finds q_5_16 dX4_years_30 h (fun _ hz => c_X4_finds hz) rfl rfl (rm_ok (by decide) (by decide)) ⟨Nat.zero_le _, Nat.zero_le _⟩ rfl (List.Perm.refl _) (fun _ => List.Perm.refl _) rfl (Nat.le_of_ble_eq_true rfl) (fun _ => rfl) (fun z36 h => ?_)
        exact fn_i (mo_ws g ad) fx hf (sn1 h) (sn2 h) dX4_years_33
      · refine wa_iconst fx (-1 : Int32) dX4_years_34 (by decide) ?_
        refine wa_istore fx [(4, .int (-1 : Int32)), (0, .ref (ad 0)), (1, .int a1), (2, .int a2), (3, .int a3)] dX4_years_35 (by decide) rfl ?_
        refine wa_aload_n fx 1 dX4_years_37 rfl ?_
        refine wa_V (b := ad 0) (rmc := (rmh 1)) (As := []) (st := []) (wc := (mo_ws g ad st)) (wr := ([] : va_W)) (wcz := fun z6 => mo_ws g ad z6) (w2 := fun z6 => mo_ws g ad z6) (o := fun _ => none) (s2 := fun z6 => []) (ci := 4) (q0 := 0) fx mm_X4_laysAside q_19_8 dX4_years_38 h (fun _ hz => c_X4_laysAside hz) rfl rfl (rm_ok (by decide) (by decide)) ⟨Nat.zero_le _, Nat.zero_le _⟩ rfl (List.Perm.refl _) (fun _ => List.Perm.refl _) rfl (Nat.le_of_ble_eq_true rfl) (fun _ => rfl) (fun z6 h => ?_)
        refine wa_iconst fx (0 : Int32) dX4_years_41 (by decide) ?_
        refine wa_istore fx [(5, .int (0 : Int32)), (4, .int (-1 : Int32)), (0, .ref (ad 0)), (1, .int a1), (2, .int a2), (3, .int a3)] dX4_years_42 (by decide) rfl ?_
        refine wa_sub [2, 3, 4, 5, 1, 0] rfl ?_
        exact B44 200 a1 a2 a3 (-1 : Int32) (0 : Int32) z6 h
def f_X4_always_b71 (k34 : (Int32) → (Int32) → (StT) → Option (Int32 × (StT))) (x16 : Int32) (x17 : Int32) (w18 : StT) : Option (Int32 × (StT)) := nm (x16 + (1 : Int32)) fun x19 => k34 x17 x19 w18
def f_X4_always_b65 (k34 : (Int32) → (Int32) → (StT) → Option (Int32 × (StT))) (x14 : Int32) (w15 : StT) : Option (Int32 × (StT)) := f_X4_always_b71 k34 x14 x14 w15
def f_X4_always_l34 : Nat → (Int32) → (Int32) → (StT) → Option (Int32 × (StT))
  | 0, _, _, _ => none
  | n + 1, x8, x9, w10 => ck (0 : Int32) 66 (if (w10.1 0 (Int32.toNatClampNeg (0 : Int32))) ≤ x9 then (Option.bind (f_X4_takesBack w10 x8) fun z11 => nm z11.1 fun x12 => if 0 ≤ x12 then (some (x12, z11.2)) else (Option.bind (f_X4_finds z11.2 (-1000000004 : Int32)) fun z13 => some (z13.1, z13.2))) else (if x8 < 0 then (f_X4_always_b65 (f_X4_always_l34 n) x9 w10) else (Option.bind (f_X4_its w10 x9 (4 : Int32)) fun z20 => Option.bind (f_X4_its w10 x8 (4 : Int32)) fun z21 => if z20 ≤ z21 then (f_X4_always_b71 (f_X4_always_l34 n) x9 x8 w10) else (f_X4_always_b65 (f_X4_always_l34 n) x9 w10))))
def f_X4_always  (st : StT) (a1 : Int32) : Option (Int32 × (StT)) := Option.bind (f_X4_in (Int32.toInt64 a1) (0 : Int64) (60 : Int64)) fun z1 => if z1 = 0 then (Option.bind (f_X4_finds st (-1000000001 : Int32)) fun z22 => some (z22.1, z22.2)) else (Option.bind (f_X4_laysAside st) fun z2 => Option.bind (f_X4_hoursGo z2 a1) fun z3 => nm z3.1 fun x4 => f_X4_always_l34 200 (-1 : Int32) (0 : Int32) z3.2)
set_option maxHeartbeats 4000000 in
set_option maxRecDepth 100000 in
theorem c_X4_always {g : GT} {l : Launch} {ad : Nat → Nat}   {st : StT} {a1 : Int32} {r : Int32 × (StT)} (h : f_X4_always st a1 = some r) : Ct g l yX4_always (wd yX4_always cX4_always 5 (some .int)) (rmh 10) [.ref (ad 0), .int a1] (mo_ws g ad st) (mo_ws g ad r.2) (some (.int r.1)) := by
  refine Ct.of (lv := [(0, .ref (ad 0)), (1, .int a1)]) (by decide) (Nat.le_of_ble_eq_true rfl) rfl (fun K hl fx hf => ?_)
  subst hl
  rw [f_X4_always] at h
  have B71 : ∀ (k34 : (Int32) → (Int32) → (StT) → Option (Int32 × (StT))) (Hk34 : ∀ (y5 : Int32) (y6 : Int32) (w7 : StT), k34 y5 y6 w7 = some r → WA g K 5 0 0 34 [(0, .ref (ad 0)), (3, .int y5), (4, .int y6)] [] (mo_ws g ad w7)) (x16 : Int32) (x17 : Int32) (w18 : StT), f_X4_always_b71 k34 x16 x17 w18 = some r → WA g K 5 0 0 71 [(0, .ref (ad 0)), (4, .int x16)] [.int x17] (mo_ws g ad w18) := by
    intro  k34 Hk34 x16 x17 w18 h
    rw [f_X4_always_b71] at h
    refine wa_istore_n fx [(3, .int x17), (0, .ref (ad 0)), (4, .int x16)] dX4_always_71 rfl (by decide) rfl ?_
    refine wa_iinc fx 2 (fun x19 => [(4, .int x19), (3, .int x17), (0, .ref (ad 0))]) dX4_always_72 rfl (by rfl) (by decide) (fun _ => rfl) h (fun x19 h => ?_)
    refine wa_goto fx 34 dX4_always_75 (by decide) ?_
    refine wa_sub [2, 1, 0] rfl ?_
    exact Hk34 x17 x19 w18 h
  have B65 : ∀ (k34 : (Int32) → (Int32) → (StT) → Option (Int32 × (StT))) (Hk34 : ∀ (y5 : Int32) (y6 : Int32) (w7 : StT), k34 y5 y6 w7 = some r → WA g K 5 0 0 34 [(0, .ref (ad 0)), (3, .int y5), (4, .int y6)] [] (mo_ws g ad w7)) (x14 : Int32) (w15 : StT), f_X4_always_b65 k34 x14 w15 = some r → WA g K 5 0 0 65 [(0, .ref (ad 0)), (4, .int x14)] [] (mo_ws g ad w15) := by
    intro  k34 Hk34 x14 w15 h
    rw [f_X4_always_b65] at h
    refine wa_iload fx 1 dX4_always_65 rfl ?_
    refine wa_goto fx 71 dX4_always_67 (by decide) ?_
    refine wa_sub [0, 1] rfl ?_
    exact B71 k34 Hk34 x14 x14 w15 h
  have B34 : ∀  (n : Nat) (x8 : Int32) (x9 : Int32) (w10 : StT), f_X4_always_l34 n x8 x9 w10 = some r → WA g K 5 0 0 34 [(0, .ref (ad 0)), (3, .int x8), (4, .int x9)] [] (mo_ws g ad w10) := by
    intro   n
    induction n with
    | zero => intro x8 x9 w10 h; exact absurd h (by rw [f_X4_always_l34]; exact nofun)
    | succ n ih =>
      intro x8 x9 w10 h
      rw [f_X4_always_l34] at h
      refine wa_iload fx 2 dX4_always_34 rfl ?_
      refine wa_aload_n fx 0 dX4_always_36 rfl ?_
      refine wa_get (v := .ref (ad 1)) fx wm_X4 0 rfl rfl 0 (by decide) q_3_15 rfl rfl dX4_always_37 ?_
      refine wa_iconst fx (0 : Int32) dX4_always_40 (by decide) ?_
      refine wa_iald (f := w10.1 0) fx 1 rfl dX4_always_41 h (fun h => ?_)
      refine wa_icmp_ge fx 78 dX4_always_42 (by decide) h (fun h => ?_) (fun h => ?_)
      · refine wa_aload_n fx 0 dX4_always_78 rfl ?_
        refine wa_iload_n fx 1 dX4_always_79 rfl ?_
        refine wa_V (b := ad 0) (rmc := (rmh 1)) (As := [.int x8]) (st := []) (wc := (mo_ws g ad w10)) (wr := ([] : va_W)) (wcz := fun z11 => mo_ws g ad z11.2) (w2 := fun z11 => mo_ws g ad z11.2) (o := fun z11 => some (.int z11.1)) (s2 := fun z11 => [.int z11.1]) (ci := 4) (q0 := 0) fx mm_X4_takesBack q_19_12 dX4_always_80 h (fun _ hz => c_X4_takesBack hz) rfl rfl (rm_ok (by decide) (by decide)) ⟨Nat.zero_le _, Nat.zero_le _⟩ rfl (List.Perm.refl _) (fun _ => List.Perm.refl _) rfl (Nat.le_of_ble_eq_true rfl) (fun _ => rfl) (fun z11 h => ?_)
        refine wa_istoreN fx (fun x12 => [(4, .int x12), (0, .ref (ad 0)), (3, .int x8)]) dX4_always_83 (by decide) (fun _ => rfl) h (fun x12 h => ?_)
        refine wa_iload fx 0 dX4_always_85 rfl ?_
        refine wa_if_ge fx 99 dX4_always_87 (by decide) h (fun h => ?_) (fun h => ?_)
        · refine wa_iload fx 0 dX4_always_99 rfl ?_
          exact fn_i (mo_ws g ad) fx hf (sn1 h) (sn2 h) dX4_always_101
        · refine wa_aload_n fx 1 dX4_always_90 rfl ?_
          refine wa_ldc fx q_20_13 dX4_always_91 ?_
          refine wa_V (b := ad 0) (rmc := (rmh 1)) (As := [.int (-1000000004 : Int32)]) (st := []) (wc := (mo_ws g ad z11.2)) (wr := ([] : va_W)) (wcz := fun z13 => mo_ws g ad z13.2) (w2 := fun z13 => mo_ws g ad z13.2) (o := fun z13 => some (.int z13.1)) (s2 := fun z13 => [.int z13.1]) (ci := 4) (q0 := 0) fx mm_X4_finds q_5_16 dX4_always_93 h (fun _ hz => c_X4_finds hz) rfl rfl (rm_ok (by decide) (by decide)) ⟨Nat.zero_le _, Nat.zero_le _⟩ rfl (List.Perm.refl _) (fun _ => List.Perm.refl _) rfl (Nat.le_of_ble_eq_true rfl) (fun _ => rfl) (fun z13 h => ?_)
          refine wa_goto fx 101 dX4_always_96 (by decide) ?_
          exact fn_i (mo_ws g ad) fx hf (sn1 h) (sn2 h) dX4_always_101
      · refine wa_iload_n fx 1 dX4_always_45 rfl ?_
        refine wa_if_lt fx 65 dX4_always_46 (by decide) h (fun h => ?_) (fun h => ?_)
        · refine wa_sub [0, 2] rfl ?_
          exact B65 (f_X4_always_l34 n) ih x9 w10 h
        · refine wa_aload_n fx 0 dX4_always_49 rfl ?_
          refine wa_iload fx 2 dX4_always_50 rfl ?_
          refine wa_iconst fx (4 : Int32) dX4_always_52 (by decide) ?_
          refine wa_V (b := ad 0) (rmc := (rmh 2)) (As := [.int x9, .int (4 : Int32)]) (st := []) (wc := (mo_ws g ad w10)) (wr := ([] : va_W)) (wcz := fun _ => (mo_ws g ad w10)) (w2 := fun _ => (mo_ws g ad w10)) (o := fun z20 => some (.int z20)) (s2 := fun z20 => [.int z20]) (ci := 4) (q0 := 0) fx mm_X4_its q_6_10 dX4_always_53 h (fun _ hz => c_X4_its hz) rfl rfl (rm_ok (by decide) (by decide)) ⟨Nat.zero_le _, Nat.zero_le _⟩ rfl (List.Perm.refl _) (fun _ => (List.Perm.refl _)) rfl (Nat.le_of_ble_eq_true rfl) (fun _ => rfl) (fun z20 h => ?_)
          refine wa_aload_n fx 0 dX4_always_56 rfl ?_
          refine wa_iload_n fx 1 dX4_always_57 rfl ?_
          refine wa_iconst fx (4 : Int32) dX4_always_58 (by decide) ?_
          refine wa_V (b := ad 0) (rmc := (rmh 2)) (As := [.int x8, .int (4 : Int32)]) (st := [.int z20]) (wc := (mo_ws g ad w10)) (wr := ([] : va_W)) (wcz := fun _ => (mo_ws g ad w10)) (w2 := fun _ => (mo_ws g ad w10)) (o := fun z21 => some (.int z21)) (s2 := fun z21 => [.int z21, .int z20]) (ci := 4) (q0 := 0) fx mm_X4_its q_6_10 dX4_always_59 h (fun _ hz => c_X4_its hz) rfl rfl (rm_ok (by decide) (by decide)) ⟨Nat.zero_le _, Nat.zero_le _⟩ rfl (List.Perm.refl _) (fun _ => (List.Perm.refl _)) rfl (Nat.le_of_ble_eq_true rfl) (fun _ => rfl) (fun z21 h => ?_)
          refine wa_icmp_le fx 70 dX4_always_62 (by decide) h (fun h => ?_) (fun h => ?_)
          · refine wa_iload_n fx 1 dX4_always_70 rfl ?_
            refine wa_sub [0, 2] rfl ?_
            exact B71 (f_X4_always_l34 n) ih x9 x8 w10 h
          · refine wa_sub [0, 2] rfl ?_
            exact B65 (f_X4_always_l34 n) ih x9 w10 h
  refine wa_iload_n fx 1 dX4_always_0 rfl ?_
  refine wa_i2l fx dX4_always_1 ?_
  refine wa_lconst fx (0 : Int64) dX4_always_2 (by decide) ?_
  refine wa_ldc2 fx q_16_13 dX4_always_3 ?_
  refine wa_S (rmc := (rmh 1)) (As := [.long (Int32.toInt64 a1), .long (0 : Int64), .long (60 : Int64)]) (st := []) (wc := (no_ws ())) (wr := (mo_ws g ad st)) (wcz := fun _ => (no_ws ())) (w2 := fun _ => (mo_ws g ad st)) (o := fun z1 => some (.int z1)) (s2 := fun z1 => [.int z1]) fx mm_X4_in q_5_5 dX4_always_6 h (fun _ hz => c_X4_in hz) (rm_ok (by decide) (by decide)) ⟨Nat.zero_le _, Nat.zero_le _⟩ rfl (List.Perm.of_eq (List.append_nil _).symm) (fun _ => (List.Perm.of_eq (List.append_nil _).symm)) rfl (Nat.le_of_ble_eq_true rfl) (fun _ => rfl) (fun z1 h => ?_)
  refine wa_if_ne fx 19 dX4_always_9 (by decide) h (fun h => ?_) (fun h => ?_)
  · refine wa_aload_n fx 0 dX4_always_12 rfl ?_
    refine wa_ldc fx q_5_4 dX4_always_13 ?_
    refine wa_V (b := ad 0) (rmc := (rmh 1)) (As := [.int (-1000000001 : Int32)]) (st := []) (wc := (mo_ws g ad st)) (wr := ([] : va_W)) (wcz := fun z22 => mo_ws g ad z22.2) (w2 := fun z22 => mo_ws g ad z22.2) (o := fun z22 => some (.int z22.1)) (s2 := fun z22 => [.int z22.1]) (ci := 4) (q0 := 0) fx mm_X4_finds q_5_16 dX4_always_15 h (fun _ hz => c_X4_finds hz) rfl rfl (rm_ok (by decide) (by decide)) ⟨Nat.zero_le _, Nat.zero_le _⟩ rfl (List.Perm.refl _) (fun _ => List.Perm.refl _) rfl (Nat.le_of_ble_eq_true rfl) (fun _ => rfl) (fun z22 h => ?_)
    exact fn_i (mo_ws g ad) fx hf (sn1 h) (sn2 h) dX4_always_18
  · refine wa_aload_n fx 0 dX4_always_19 rfl ?_
    refine wa_V (b := ad 0) (rmc := (rmh 1)) (As := []) (st := []) (wc := (mo_ws g ad st)) (wr := ([] : va_W)) (wcz := fun z2 => mo_ws g ad z2) (w2 := fun z2 => mo_ws g ad z2) (o := fun _ => none) (s2 := fun z2 => []) (ci := 4) (q0 := 0) fx mm_X4_laysAside q_19_8 dX4_always_20 h (fun _ hz => c_X4_laysAside hz) rfl rfl (rm_ok (by decide) (by decide)) ⟨Nat.zero_le _, Nat.zero_le _⟩ rfl (List.Perm.refl _) (fun _ => List.Perm.refl _) rfl (Nat.le_of_ble_eq_true rfl) (fun _ => rfl) (fun z2 h => ?_)
    refine wa_aload_n fx 0 dX4_always_23 rfl ?_
    refine wa_iload_n fx 1 dX4_always_24 rfl ?_
    refine wa_V (b := ad 0) (rmc := (rmh 9)) (As := [.int a1]) (st := []) (wc := (mo_ws g ad z2)) (wr := ([] : va_W)) (wcz := fun z3 => mo_ws g ad z3.2) (w2 := fun z3 => mo_ws g ad z3.2) (o := fun z3 => some (.int z3.1)) (s2 := fun z3 => [.int z3.1]) (ci := 4) (q0 := 0) fx mm_X4_hoursGo q_16_15 dX4_always_25 h (fun _ hz => c_X4_hoursGo hz) rfl rfl (rm_ok (by decide) (by decide)) ⟨Nat.zero_le _, Nat.zero_le _⟩ rfl (List.Perm.refl _) (fun _ => List.Perm.refl _) rfl (Nat.le_of_ble_eq_true rfl) (fun _ => rfl) (fun z3 h => ?_)
    refine wa_istore_nN fx (fun x4 => [(2, .int x4), (0, .ref (ad 0)), (1, .int a1)]) dX4_always_28 rfl (by decide) (fun _ => rfl) h (fun x4 h => ?_)
    refine wa_iconst fx (-1 : Int32) dX4_always_29 (by decide) ?_
    refine wa_istore_n fx [(3, .int (-1 : Int32)), (2, .int x4), (0, .ref (ad 0)), (1, .int a1)] dX4_always_30 rfl (by decide) rfl ?_
    refine wa_iconst fx (0 : Int32) dX4_always_31 (by decide) ?_
    refine wa_istore fx [(4, .int (0 : Int32)), (3, .int (-1 : Int32)), (2, .int x4), (0, .ref (ad 0)), (1, .int a1)] dX4_always_32 (by decide) rfl ?_
    refine wa_sub [3, 1, 0] rfl ?_
    exact B34 200 (-1 : Int32) (0 : Int32) z3.2 h
def f_X4_beside_b164 (k22 : (Int32) → (Int32) → (Int32) → (Int32) → (StT) → Option (Int32 × (StT))) (x28 : Int32) (x29 : Int32) (x30 : Int32) (x31 : Int32) (w32 : StT) : Option (Int32 × (StT)) := nm (x31 + (1 : Int32)) fun x33 => k22 x28 x29 x30 x33 w32
def f_X4_beside_b158 (k44 : (Int32) → (Int32) → (Int32) → (Int32) → (Int32) → (StT) → Option (Int32 × (StT))) (x79 : Int32) (x80 : Int32) (x81 : Int32) (x82 : Int32) (x83 : Int32) (w84 : StT) : Option (Int32 × (StT)) := nm (x83 + (2 : Int32)) fun x85 => k44 x79 x80 x81 x82 x85 w84
def f_X4_beside_b157 (k44 : (Int32) → (Int32) → (Int32) → (Int32) → (Int32) → (StT) → Option (Int32 × (StT))) (x73 : Int32) (x74 : Int32) (x75 : Int32) (x76 : Int32) (x77 : Int32) (w78 : StT) : Option (Int32 × (StT)) := f_X4_beside_b158 k44 x73 x74 x77 x75 x76 w78
def f_X4_beside_b145 (k44 : (Int32) → (Int32) → (Int32) → (Int32) → (Int32) → (StT) → Option (Int32 × (StT))) (x65 : Int32) (x66 : Int32) (x67 : Int32) (x68 : Int32) (x69 : Int32) (x70 : Int32) (x71 : Int32) (w72 : StT) : Option (Int32 × (StT)) := if x70 = 0 then (f_X4_beside_b157 k44 x65 x71 x67 x68 x66 w72) else (f_X4_beside_b157 k44 x65 x71 x67 x68 x69 w72)
def f_X4_beside_b132 (k44 : (Int32) → (Int32) → (Int32) → (Int32) → (Int32) → (StT) → Option (Int32 × (StT))) (x57 : Int32) (x58 : Int32) (x59 : Int32) (x60 : Int32) (x61 : Int32) (x62 : Int32) (x63 : Int32) (w64 : StT) : Option (Int32 × (StT)) := if x63 = 0 then (f_X4_beside_b145 k44 x57 x59 x60 x61 x62 x63 x58 w64) else (f_X4_beside_b145 k44 x57 x59 x60 x61 x62 x63 x60 w64)
def f_X4_beside_b127 (k44 : (Int32) → (Int32) → (Int32) → (Int32) → (Int32) → (StT) → Option (Int32 × (StT))) (x50 : Int32) (x51 : Int32) (x52 : Int32) (x53 : Int32) (x54 : Int32) (x55 : Int32) (w56 : StT) : Option (Int32 × (StT)) := f_X4_beside_b132 k44 x50 x51 x52 x53 x54 x55 (1 : Int32) w56
def f_X4_beside_b108 (k44 : (Int32) → (Int32) → (Int32) → (Int32) → (Int32) → (StT) → Option (Int32 × (StT))) (x43 : Int32) (x44 : Int32) (x45 : Int32) (x46 : Int32) (x47 : Int32) (w48 : StT) : Option (Int32 × (StT)) := Option.bind (f_X4_sits w48 x43 x47) fun z49 => if x44 < 0 then (f_X4_beside_b127 k44 x43 x44 x45 x46 x47 z49 w48) else (if z49 ≤ x45 then (f_X4_beside_b132 k44 x43 x44 x45 x46 x47 z49 (0 : Int32) w48) else (f_X4_beside_b127 k44 x43 x44 x45 x46 x47 z49 w48))
def f_X4_beside_b94 (k44 : (Int32) → (Int32) → (Int32) → (Int32) → (Int32) → (StT) → Option (Int32 × (StT))) (x36 : Int32) (x37 : Int32) (x38 : Int32) (x39 : Int32) (x40 : Int32) (x41 : Int32) (w42 : StT) : Option (Int32 × (StT)) := if x41 = (-1 : Int32) then (f_X4_beside_b108 k44 x36 x37 x38 x39 x40 w42) else (if x41 = x36 then (f_X4_beside_b108 k44 x36 x37 x38 x39 x40 w42) else (f_X4_beside_b158 k44 x36 x37 x38 x39 x40 w42))
def f_X4_beside_l44 (k22 : (Int32) → (Int32) → (Int32) → (Int32) → (StT) → Option (Int32 × (StT))) : Nat → (Int32) → (Int32) → (Int32) → (Int32) → (Int32) → (StT) → Option (Int32 × (StT))
  | 0, _, _, _, _, _, _ => none
  | n + 1, x21, x22, x23, x24, x25, w26 => Option.bind (f_X4_its w26 x24 (5 : Int32)) fun z27 => if (z27 + (1 : Int32)) < x25 then (f_X4_beside_b164 k22 x21 x22 x23 x24 w26) else (if x24 = x21 then (f_X4_beside_b164 k22 x21 x22 x23 x24 w26) else (Option.bind (f_X4_its w26 x24 (5 : Int32)) fun z34 => if z34 = (-1 : Int32) then (f_X4_beside_b164 k22 x21 x22 x23 x24 w26) else (Option.bind (f_X4_isChair x25) fun z35 => if z35 = 0 then (f_X4_beside_b94 (f_X4_beside_l44 k22 n) x21 x22 x23 x24 x25 x24 w26) else (Option.bind (f_X4_whoIn w26 x25) fun z86 => f_X4_beside_b94 (f_X4_beside_l44 k22 n) x21 x22 x23 x24 x25 z86 w26))))
def f_X4_beside_l22 : Nat → (Int32) → (Int32) → (Int32) → (Int32) → (StT) → Option (Int32 × (StT))
  | 0, _, _, _, _, _ => none
  | n + 1, x7, x8, x9, x10, w11 => ck (0 : Int32) 66 (if (w11.1 0 (Int32.toNatClampNeg (0 : Int32))) ≤ x10 then (if 0 ≤ x8 then (some (x8, w11)) else (Option.bind (f_X4_finds w11 (-1000000004 : Int32)) fun z12 => some (z12.1, z12.2))) else (Option.bind (f_X4_its w11 x10 (5 : Int32)) fun z13 => nm (z13 - (1 : Int32)) fun x14 => f_X4_beside_l44 (f_X4_beside_l22 n) 200 x7 x8 x9 x10 x14 w11))
def f_X4_beside  (st : StT) (a1 : Int32) : Option (Int32 × (StT)) := Option.bind (f_X4_isPerson st a1) fun z1 => if z1 = 0 then (Option.bind (f_X4_finds st (-1000000001 : Int32)) fun z87 => some (z87.1, z87.2)) else (f_X4_beside_l22 200 a1 (-1 : Int32) (0 : Int32) (0 : Int32) st)
set_option maxHeartbeats 4000000 in
set_option maxRecDepth 100000 in
theorem c_X4_beside {g : GT} {l : Launch} {ad : Nat → Nat}   {st : StT} {a1 : Int32} {r : Int32 × (StT)} (h : f_X4_beside st a1 = some r) : Ct g l yX4_beside (wd yX4_beside cX4_beside 9 (some .int)) (rmh 6) [.ref (ad 0), .int a1] (mo_ws g ad st) (mo_ws g ad r.2) (some (.int r.1)) := by
  refine Ct.of (lv := [(0, .ref (ad 0)), (1, .int a1)]) (by decide) (Nat.le_of_ble_eq_true rfl) rfl (fun K hl fx hf => ?_)
  subst hl
  rw [f_X4_beside] at h
  have B164 : ∀ (k22 : (Int32) → (Int32) → (Int32) → (Int32) → (StT) → Option (Int32 × (StT))) (Hk22 : ∀ (y2 : Int32) (y3 : Int32) (y4 : Int32) (y5 : Int32) (w6 : StT), k22 y2 y3 y4 y5 w6 = some r → WA g K 9 0 0 22 [(0, .ref (ad 0)), (1, .int y2), (2, .int y3), (3, .int y4), (4, .int y5)] [] (mo_ws g ad w6)) (x28 : Int32) (x29 : Int32) (x30 : Int32) (x31 : Int32) (w32 : StT), f_X4_beside_b164 k22 x28 x29 x30 x31 w32 = some r → WA g K 9 0 0 164 [(0, .ref (ad 0)), (1, .int x28), (2, .int x29), (3, .int x30), (4, .int x31)] [] (mo_ws g ad w32) := by
    intro  k22 Hk22 x28 x29 x30 x31 w32 h
    rw [f_X4_beside_b164] at h
    refine wa_iinc fx 4 (fun x33 => [(4, .int x33), (0, .ref (ad 0)), (1, .int x28), (2, .int x29), (3, .int x30)]) dX4_beside_164 rfl (by rfl) (by decide) (fun _ => rfl) h (fun x33 h => ?_)
    refine wa_goto fx 22 dX4_beside_167 (by decide) ?_
    refine wa_sub [1, 2, 3, 4, 0] rfl ?_
    exact Hk22 x28 x29 x30 x33 w32 h
  have B158 : ∀ (k44 : (Int32) → (Int32) → (Int32) → (Int32) → (Int32) → (StT) → Option (Int32 × (StT))) (Hk44 : ∀ (y15 : Int32) (y16 : Int32) (y17 : Int32) (y18 : Int32) (y19 : Int32) (w20 : StT), k44 y15 y16 y17 y18 y19 w20 = some r → WA g K 9 0 0 44 [(0, .ref (ad 0)), (1, .int y15), (2, .int y16), (3, .int y17), (4, .int y18), (5, .int y19)] [] (mo_ws g ad w20)) (x79 : Int32) (x80 : Int32) (x81 : Int32) (x82 : Int32) (x83 : Int32) (w84 : StT), f_X4_beside_b158 k44 x79 x80 x81 x82 x83 w84 = some r → WA g K 9 0 0 158 [(0, .ref (ad 0)), (1, .int x79), (2, .int x80), (3, .int x81), (4, .int x82), (5, .int x83)] [] (mo_ws g ad w84) := by
    intro  k44 Hk44 x79 x80 x81 x82 x83 w84 h
    rw [f_X4_beside_b158] at h
    refine wa_iinc fx 5 (fun x85 => [(5, .int x85), (0, .ref (ad 0)), (1, .int x79), (2, .int x80), (3, .int x81), (4, .int x82)]) dX4_beside_158 rfl (by rfl) (by decide) (fun _ => rfl) h (fun x85 h => ?_)
    refine wa_goto fx 44 dX4_beside_161 (by decide) ?_
    refine wa_sub [1, 2, 3, 4, 5, 0] rfl ?_
    exact Hk44 x79 x80 x81 x82 x85 w84 h
  have B157 : ∀ (k44 : (Int32) → (Int32) → (Int32) → (Int32) → (Int32) → (StT) → Option (Int32 × (StT))) (Hk44 : ∀ (y15 : Int32) (y16 : Int32) (y17 : Int32) (y18 : Int32) (y19 : Int32) (w20 : StT), k44 y15 y16 y17 y18 y19 w20 = some r → WA g K 9 0 0 44 [(0, .ref (ad 0)), (1, .int y15), (2, .int y16), (3, .int y17), (4, .int y18), (5, .int y19)] [] (mo_ws g ad w20)) (x73 : Int32) (x74 : Int32) (x75 : Int32) (x76 : Int32) (x77 : Int32) (w78 : StT), f_X4_beside_b157 k44 x73 x74 x75 x76 x77 w78 = some r → WA g K 9 0 0 157 [(0, .ref (ad 0)), (1, .int x73), (2, .int x74), (4, .int x75), (5, .int x76)] [.int x77] (mo_ws g ad w78) := by
    intro  k44 Hk44 x73 x74 x75 x76 x77 w78 h
    rw [f_X4_beside_b157] at h
    refine wa_istore_n fx [(3, .int x77), (0, .ref (ad 0)), (1, .int x73), (2, .int x74), (4, .int x75), (5, .int x76)] dX4_beside_157 rfl (by decide) rfl ?_
    refine wa_sub [1, 2, 3, 0, 4, 5] rfl ?_
    exact B158 k44 Hk44 x73 x74 x77 x75 x76 w78 h
  have B145 : ∀ (k44 : (Int32) → (Int32) → (Int32) → (Int32) → (Int32) → (StT) → Option (Int32 × (StT))) (Hk44 : ∀ (y15 : Int32) (y16 : Int32) (y17 : Int32) (y18 : Int32) (y19 : Int32) (w20 : StT), k44 y15 y16 y17 y18 y19 w20 = some r → WA g K 9 0 0 44 [(0, .ref (ad 0)), (1, .int y15), (2, .int y16), (3, .int y17), (4, .int y18), (5, .int y19)] [] (mo_ws g ad w20)) (x65 : Int32) (x66 : Int32) (x67 : Int32) (x68 : Int32) (x69 : Int32) (x70 : Int32) (x71 : Int32) (w72 : StT), f_X4_beside_b145 k44 x65 x66 x67 x68 x69 x70 x71 w72 = some r → WA g K 9 0 0 145 [(0, .ref (ad 0)), (1, .int x65), (3, .int x66), (4, .int x67), (5, .int x68), (7, .int x69), (8, .int x70)] [.int x71] (mo_ws g ad w72) := by
    intro  k44 Hk44 x65 x66 x67 x68 x69 x70 x71 w72 h
    rw [f_X4_beside_b145] at h
    refine wa_istore_n fx [(2, .int x71), (0, .ref (ad 0)), (1, .int x65), (3, .int x66), (4, .int x67), (5, .int x68), (7, .int x69), (8, .int x70)] dX4_beside_145 rfl (by decide) rfl ?_
    refine wa_iload fx 7 dX4_beside_146 rfl ?_
    refine wa_if_eq fx 156 dX4_beside_148 (by decide) h (fun h => ?_) (fun h => ?_)
    · refine wa_iload_n fx 3 dX4_beside_156 rfl ?_
      refine wa_sub [1, 2, 0, 4, 5] rfl ?_
      exact B157 k44 Hk44 x65 x71 x67 x68 x66 w72 h
    · refine wa_iload fx 6 dX4_beside_151 rfl ?_
      refine wa_goto fx 157 dX4_beside_153 (by decide) ?_
      refine wa_sub [1, 2, 0, 4, 5] rfl ?_
      exact B157 k44 Hk44 x65 x71 x67 x68 x69 w72 h
  have B132 : ∀ (k44 : (Int32) → (Int32) → (Int32) → (Int32) → (Int32) → (StT) → Option (Int32 × (StT))) (Hk44 : ∀ (y15 : Int32) (y16 : Int32) (y17 : Int32) (y18 : Int32) (y19 : Int32) (w20 : StT), k44 y15 y16 y17 y18 y19 w20 = some r → WA g K 9 0 0 44 [(0, .ref (ad 0)), (1, .int y15), (2, .int y16), (3, .int y17), (4, .int y18), (5, .int y19)] [] (mo_ws g ad w20)) (x57 : Int32) (x58 : Int32) (x59 : Int32) (x60 : Int32) (x61 : Int32) (x62 : Int32) (x63 : Int32) (w64 : StT), f_X4_beside_b132 k44 x57 x58 x59 x60 x61 x62 x63 w64 = some r → WA g K 9 0 0 132 [(0, .ref (ad 0)), (1, .int x57), (2, .int x58), (3, .int x59), (4, .int x60), (5, .int x61), (7, .int x62)] [.int x63] (mo_ws g ad w64) := by
    intro  k44 Hk44 x57 x58 x59 x60 x61 x62 x63 w64 h
    rw [f_X4_beside_b132] at h
    refine wa_istore fx [(8, .int x63), (0, .ref (ad 0)), (1, .int x57), (2, .int x58), (3, .int x59), (4, .int x60), (5, .int x61), (7, .int x62)] dX4_beside_132 (by decide) rfl ?_
    refine wa_iload fx 0 dX4_beside_134 rfl ?_
    refine wa_if_eq fx 144 dX4_beside_136 (by decide) h (fun h => ?_) (fun h => ?_)
    · refine wa_iload_n fx 3 dX4_beside_144 rfl ?_
      refine wa_sub [1, 2, 4, 5, 6, 7, 0] rfl ?_
      exact B145 k44 Hk44 x57 x59 x60 x61 x62 x63 x58 w64 h
    · refine wa_iload fx 5 dX4_beside_139 rfl ?_
      refine wa_goto fx 145 dX4_beside_141 (by decide) ?_
      refine wa_sub [1, 2, 4, 5, 6, 7, 0] rfl ?_
      exact B145 k44 Hk44 x57 x59 x60 x61 x62 x63 x60 w64 h
  have B127 : ∀ (k44 : (Int32) → (Int32) → (Int32) → (Int32) → (Int32) → (StT) → Option (Int32 × (StT))) (Hk44 : ∀ (y15 : Int32) (y16 : Int32) (y17 : Int32) (y18 : Int32) (y19 : Int32) (w20 : StT), k44 y15 y16 y17 y18 y19 w20 = some r → WA g K 9 0 0 44 [(0, .ref (ad 0)), (1, .int y15), (2, .int y16), (3, .int y17), (4, .int y18), (5, .int y19)] [] (mo_ws g ad w20)) (x50 : Int32) (x51 : Int32) (x52 : Int32) (x53 : Int32) (x54 : Int32) (x55 : Int32) (w56 : StT), f_X4_beside_b127 k44 x50 x51 x52 x53 x54 x55 w56 = some r → WA g K 9 0 0 127 [(0, .ref (ad 0)), (1, .int x50), (2, .int x51), (3, .int x52), (4, .int x53), (5, .int x54), (7, .int x55)] [] (mo_ws g ad w56) := by
    intro  k44 Hk44 x50 x51 x52 x53 x54 x55 w56 h
    rw [f_X4_beside_b127] at h
    refine wa_iconst fx (1 : Int32) dX4_beside_127 (by decide) ?_
    refine wa_goto fx 132 dX4_beside_128 (by decide) ?_
    refine wa_sub [0, 1, 2, 3, 4, 5, 6] rfl ?_
    exact B132 k44 Hk44 x50 x51 x52 x53 x54 x55 (1 : Int32) w56 h
  have B108 : ∀ (k44 : (Int32) → (Int32) → (Int32) → (Int32) → (Int32) → (StT) → Option (Int32 × (StT))) (Hk44 : ∀ (y15 : Int32) (y16 : Int32) (y17 : Int32) (y18 : Int32) (y19 : Int32) (w20 : StT), k44 y15 y16 y17 y18 y19 w20 = some r → WA g K 9 0 0 44 [(0, .ref (ad 0)), (1, .int y15), (2, .int y16), (3, .int y17), (4, .int y18), (5, .int y19)] [] (mo_ws g ad w20)) (x43 : Int32) (x44 : Int32) (x45 : Int32) (x46 : Int32) (x47 : Int32) (w48 : StT), f_X4_beside_b108 k44 x43 x44 x45 x46 x47 w48 = some r → WA g K 9 0 0 108 [(0, .ref (ad 0)), (1, .int x43), (2, .int x44), (3, .int x45), (4, .int x46), (5, .int x47)] [] (mo_ws g ad w48) := by
    intro  k44 Hk44 x43 x44 x45 x46 x47 w48 h
    rw [f_X4_beside_b108] at h
    refine wa_aload_n fx 0 dX4_beside_108 rfl ?_
    refine wa_iload_n fx 1 dX4_beside_109 rfl ?_
    refine wa_iload fx 5 dX4_beside_110 rfl ?_
    refine wa_V (b := ad 0) (rmc := (rmh 5)) (As := [.int x43, .int x47]) (st := []) (wc := (mo_ws g ad w48)) (wr := ([] : va_W)) (wcz := fun _ => (mo_ws g ad w48)) (w2 := fun _ => (mo_ws g ad w48)) (o := fun z49 => some (.int z49)) (s2 := fun z49 => [.int z49]) (ci := 4) (q0 := 0) fx mm_X4_sits q_14_11 dX4_beside_112 h (fun _ hz => c_X4_sits hz) rfl rfl (rm_ok (by decide) (by decide)) ⟨Nat.zero_le _, Nat.zero_le _⟩ rfl (List.Perm.refl _) (fun _ => (List.Perm.refl _)) rfl (Nat.le_of_ble_eq_true rfl) (fun _ => rfl) (fun z49 h => ?_)
    refine wa_istore fx [(7, .int z49), (0, .ref (ad 0)), (1, .int x43), (2, .int x44), (3, .int x45), (4, .int x46), (5, .int x47)] dX4_beside_115 (by decide) rfl ?_
    refine wa_iload_n fx 3 dX4_beside_117 rfl ?_
    refine wa_if_lt fx 127 dX4_beside_118 (by decide) h (fun h => ?_) (fun h => ?_)
    · refine wa_sub [1, 2, 3, 4, 5, 6, 0] rfl ?_
      exact B127 k44 Hk44 x43 x44 x45 x46 x47 z49 w48 h
    · refine wa_iload fx 0 dX4_beside_121 rfl ?_
      refine wa_iload_n fx 4 dX4_beside_123 rfl ?_
      refine wa_icmp_le fx 131 dX4_beside_124 (by decide) h (fun h => ?_) (fun h => ?_)
      · refine wa_iconst fx (0 : Int32) dX4_beside_131 (by decide) ?_
        refine wa_sub [1, 2, 3, 4, 5, 6, 0] rfl ?_
        exact B132 k44 Hk44 x43 x44 x45 x46 x47 z49 (0 : Int32) w48 h
      · refine wa_sub [1, 2, 3, 4, 5, 6, 0] rfl ?_
        exact B127 k44 Hk44 x43 x44 x45 x46 x47 z49 w48 h
  have B94 : ∀ (k44 : (Int32) → (Int32) → (Int32) → (Int32) → (Int32) → (StT) → Option (Int32 × (StT))) (Hk44 : ∀ (y15 : Int32) (y16 : Int32) (y17 : Int32) (y18 : Int32) (y19 : Int32) (w20 : StT), k44 y15 y16 y17 y18 y19 w20 = some r → WA g K 9 0 0 44 [(0, .ref (ad 0)), (1, .int y15), (2, .int y16), (3, .int y17), (4, .int y18), (5, .int y19)] [] (mo_ws g ad w20)) (x36 : Int32) (x37 : Int32) (x38 : Int32) (x39 : Int32) (x40 : Int32) (x41 : Int32) (w42 : StT), f_X4_beside_b94 k44 x36 x37 x38 x39 x40 x41 w42 = some r → WA g K 9 0 0 94 [(0, .ref (ad 0)), (1, .int x36), (2, .int x37), (3, .int x38), (4, .int x39), (5, .int x40)] [.int x41] (mo_ws g ad w42) := by
    intro  k44 Hk44 x36 x37 x38 x39 x40 x41 w42 h
    rw [f_X4_beside_b94] at h
    refine wa_istore fx [(6, .int x41), (0, .ref (ad 0)), (1, .int x36), (2, .int x37), (3, .int x38), (4, .int x39), (5, .int x40)] dX4_beside_94 (by decide) rfl ?_
    refine wa_iload fx 0 dX4_beside_96 rfl ?_
    refine wa_iconst fx (-1 : Int32) dX4_beside_98 (by decide) ?_
    refine wa_icmp_eq fx 108 dX4_beside_99 (by decide) h (fun h => ?_) (fun h => ?_)
    · refine wa_sub [1, 2, 3, 4, 5, 6] rfl ?_
      exact B108 k44 Hk44 x36 x37 x38 x39 x40 w42 h
    · refine wa_iload fx 0 dX4_beside_102 rfl ?_
      refine wa_iload_n fx 2 dX4_beside_104 rfl ?_
      refine wa_icmp_ne fx 158 dX4_beside_105 (by decide) h (fun h => ?_) (fun h => ?_)
      · refine wa_sub [1, 2, 3, 4, 5, 6] rfl ?_
        exact B108 k44 Hk44 x36 x37 x38 x39 x40 w42 h
      · refine wa_sub [1, 2, 3, 4, 5, 6] rfl ?_
        exact B158 k44 Hk44 x36 x37 x38 x39 x40 w42 h
  have B44 : ∀ (k22 : (Int32) → (Int32) → (Int32) → (Int32) → (StT) → Option (Int32 × (StT))) (Hk22 : ∀ (y2 : Int32) (y3 : Int32) (y4 : Int32) (y5 : Int32) (w6 : StT), k22 y2 y3 y4 y5 w6 = some r → WA g K 9 0 0 22 [(0, .ref (ad 0)), (1, .int y2), (2, .int y3), (3, .int y4), (4, .int y5)] [] (mo_ws g ad w6)) (n : Nat) (x21 : Int32) (x22 : Int32) (x23 : Int32) (x24 : Int32) (x25 : Int32) (w26 : StT), f_X4_beside_l44 k22 n x21 x22 x23 x24 x25 w26 = some r → WA g K 9 0 0 44 [(0, .ref (ad 0)), (1, .int x21), (2, .int x22), (3, .int x23), (4, .int x24), (5, .int x25)] [] (mo_ws g ad w26) := by
    intro  k22 Hk22 n
    induction n with
    | zero => intro x21 x22 x23 x24 x25 w26 h; exact absurd h (by rw [f_X4_beside_l44]; exact nofun)
    | succ n ih =>
      intro x21 x22 x23 x24 x25 w26 h
      rw [f_X4_beside_l44] at h
      refine wa_iload fx 5 dX4_beside_44 rfl ?_
      refine wa_aload_n fx 0 dX4_beside_46 rfl ?_
      refine wa_iload fx 4 dX4_beside_47 rfl ?_
      refine wa_iconst fx (5 : Int32) dX4_beside_49 (by decide) ?_
      refine wa_V (b := ad 0) (rmc := (rmh 2)) (As := [.int x24, .int (5 : Int32)]) (st := [.int x25]) (wc := (mo_ws g ad w26)) (wr := ([] : va_W)) (wcz := fun _ => (mo_ws g ad w26)) (w2 := fun _ => (mo_ws g ad w26)) (o := fun z27 => some (.int z27)) (s2 := fun z27 => [.int z27, .int x25]) (ci := 4) (q0 := 0) fx mm_X4_its q_6_10 dX4_beside_50 h (fun _ hz => c_X4_its hz) rfl rfl (rm_ok (by decide) (by decide)) ⟨Nat.zero_le _, Nat.zero_le _⟩ rfl (List.Perm.refl _) (fun _ => (List.Perm.refl _)) rfl (Nat.le_of_ble_eq_true rfl) (fun _ => rfl) (fun z27 h => ?_)
      refine wa_iconst fx (1 : Int32) dX4_beside_53 (by decide) ?_
      refine wa_iadd fx dX4_beside_54 ?_
      refine wa_icmp_gt fx 164 dX4_beside_55 (by decide) h (fun h => ?_) (fun h => ?_)
      · refine wa_sub [0, 1, 2, 3, 4] rfl ?_
        exact B164 k22 Hk22 x21 x22 x23 x24 w26 h
      · refine wa_iload fx 4 dX4_beside_58 rfl ?_
        refine wa_iload_n fx 1 dX4_beside_60 rfl ?_
        refine wa_icmp_eq fx 164 dX4_beside_61 (by decide) h (fun h => ?_) (fun h => ?_)
        · refine wa_sub [0, 1, 2, 3, 4] rfl ?_
          exact B164 k22 Hk22 x21 x22 x23 x24 w26 h
        · refine wa_aload_n fx 0 dX4_beside_64 rfl ?_
          refine wa_iload fx 4 dX4_beside_65 rfl ?_
          refine wa_iconst fx (5 : Int32) dX4_beside_67 (by decide) ?_
          refine wa_V (b := ad 0) (rmc := (rmh 2)) (As := [.int x24, .int (5 : Int32)]) (st := []) (wc := (mo_ws g ad w26)) (wr := ([] : va_W)) (wcz := fun _ => (mo_ws g ad w26)) (w2 := fun _ => (mo_ws g ad w26)) (o := fun z34 => some (.int z34)) (s2 := fun z34 => [.int z34]) (ci := 4) (q0 := 0) fx mm_X4_its q_6_10 dX4_beside_68 h (fun _ hz => c_X4_its hz) rfl rfl (rm_ok (by decide) (by decide)) ⟨Nat.zero_le _, Nat.zero_le _⟩ rfl (List.Perm.refl _) (fun _ => (List.Perm.refl _)) rfl (Nat.le_of_ble_eq_true rfl) (fun _ => rfl) (fun z34 h => ?_)
          refine wa_iconst fx (-1 : Int32) dX4_beside_71 (by decide) ?_
          refine wa_icmp_eq fx 164 dX4_beside_72 (by decide) h (fun h => ?_) (fun h => ?_)
          · refine wa_sub [0, 1, 2, 3, 4] rfl ?_
            exact B164 k22 Hk22 x21 x22 x23 x24 w26 h
          · refine wa_iload fx 5 dX4_beside_75 rfl ?_
            refine wa_S (rmc := (rmh 2)) (As := [.int x25]) (st := []) (wc := (no_ws ())) (wr := (mo_ws g ad w26)) (wcz := fun _ => (no_ws ())) (w2 := fun _ => (mo_ws g ad w26)) (o := fun z35 => some (.int z35)) (s2 := fun z35 => [.int z35]) fx mm_X4_isChair q_5_8 dX4_beside_77 h (fun _ hz => c_X4_isChair hz) (rm_ok (by decide) (by decide)) ⟨Nat.zero_le _, Nat.zero_le _⟩ rfl (List.Perm.of_eq (List.append_nil _).symm) (fun _ => (List.Perm.of_eq (List.append_nil _).symm)) rfl (Nat.le_of_ble_eq_true rfl) (fun _ => rfl) (fun z35 h => ?_)
            refine wa_if_eq fx 92 dX4_beside_80 (by decide) h (fun h => ?_) (fun h => ?_)
            · refine wa_iload fx 4 dX4_beside_92 rfl ?_
              refine wa_sub [0, 1, 2, 3, 4, 5] rfl ?_
              exact B94 (f_X4_beside_l44 k22 n) ih x21 x22 x23 x24 x25 x24 w26 h
            · refine wa_aload_n fx 0 dX4_beside_83 rfl ?_
              refine wa_iload fx 5 dX4_beside_84 rfl ?_
              refine wa_V (b := ad 0) (rmc := (rmh 3)) (As := [.int x25]) (st := []) (wc := (mo_ws g ad w26)) (wr := ([] : va_W)) (wcz := fun _ => (mo_ws g ad w26)) (w2 := fun _ => (mo_ws g ad w26)) (o := fun z86 => some (.int z86)) (s2 := fun z86 => [.int z86]) (ci := 4) (q0 := 0) fx mm_X4_whoIn q_6_6 dX4_beside_86 h (fun _ hz => c_X4_whoIn hz) rfl rfl (rm_ok (by decide) (by decide)) ⟨Nat.zero_le _, Nat.zero_le _⟩ rfl (List.Perm.refl _) (fun _ => (List.Perm.refl _)) rfl (Nat.le_of_ble_eq_true rfl) (fun _ => rfl) (fun z86 h => ?_)
              refine wa_goto fx 94 dX4_beside_89 (by decide) ?_
              refine wa_sub [0, 1, 2, 3, 4, 5] rfl ?_
              exact B94 (f_X4_beside_l44 k22 n) ih x21 x22 x23 x24 x25 z86 w26 h
  have B22 : ∀  (n : Nat) (x7 : Int32) (x8 : Int32) (x9 : Int32) (x10 : Int32) (w11 : StT), f_X4_beside_l22 n x7 x8 x9 x10 w11 = some r → WA g K 9 0 0 22 [(0, .ref (ad 0)), (1, .int x7), (2, .int x8), (3, .int x9), (4, .int x10)] [] (mo_ws g ad w11) := by
    intro   n
    induction n with
    | zero => intro x7 x8 x9 x10 w11 h; exact absurd h (by rw [f_X4_beside_l22]; exact nofun)
    | succ n ih =>
      intro x7 x8 x9 x10 w11 h
      rw [f_X4_beside_l22] at h
      refine wa_iload fx 4 dX4_beside_22 rfl ?_
      refine wa_aload_n fx 0 dX4_beside_24 rfl ?_
      refine wa_get (v := .ref (ad 1)) fx wm_X4 0 rfl rfl 0 (by decide) q_3_15 rfl rfl dX4_beside_25 ?_
      refine wa_iconst fx (0 : Int32) dX4_beside_28 (by decide) ?_
      refine wa_iald (f := w11.1 0) fx 1 rfl dX4_beside_29 h (fun h => ?_)
      refine wa_icmp_ge fx 170 dX4_beside_30 (by decide) h (fun h => ?_) (fun h => ?_)
      · refine wa_iload_n fx 2 dX4_beside_170 rfl ?_
        refine wa_if_ge fx 183 dX4_beside_171 (by decide) h (fun h => ?_) (fun h => ?_)
        · refine wa_iload_n fx 2 dX4_beside_183 rfl ?_
          exact fn_i (mo_ws g ad) fx hf (sn1 h) (sn2 h) dX4_beside_184
        · refine wa_aload_n fx 0 dX4_beside_174 rfl ?_
          refine wa_ldc fx q_20_13 dX4_beside_175 ?_
          refine wa_V (b := ad 0) (rmc := (rmh 1)) (As := [.int (-1000000004 : Int32)]) (st := []) (wc := (mo_ws g ad w11)) (wr := ([] : va_W)) (wcz := fun z12 => mo_ws g ad z12.2) (w2 := fun z12 => mo_ws g ad z12.2) (o := fun z12 => some (.int z12.1)) (s2 := fun z12 => [.int z12.1]) (ci := 4) (q0 := 0) fx mm_X4_finds q_5_16 dX4_beside_177 h (fun _ hz => c_X4_finds hz) rfl rfl (rm_ok (by decide) (by decide)) ⟨Nat.zero_le _, Nat.zero_le _⟩ rfl (List.Perm.refl _) (fun _ => List.Perm.refl _) rfl (Nat.le_of_ble_eq_true rfl) (fun _ => rfl) (fun z12 h => ?_)
          refine wa_goto fx 184 dX4_beside_180 (by decide) ?_
          exact fn_i (mo_ws g ad) fx hf (sn1 h) (sn2 h) dX4_beside_184
      · refine wa_aload_n fx 0 dX4_beside_33 rfl ?_
        refine wa_iload fx 4 dX4_beside_34 rfl ?_
        refine wa_iconst fx (5 : Int32) dX4_beside_36 (by decide) ?_
        refine wa_V (b := ad 0) (rmc := (rmh 2)) (As := [.int x10, .int (5 : Int32)]) (st := []) (wc := (mo_ws g ad w11)) (wr := ([] : va_W)) (wcz := fun _ => (mo_ws g ad w11)) (w2 := fun _ => (mo_ws g ad w11)) (o := fun z13 => some (.int z13)) (s2 := fun z13 => [.int z13]) (ci := 4) (q0 := 0) fx mm_X4_its q_6_10 dX4_beside_37 h (fun _ hz => c_X4_its hz) rfl rfl (rm_ok (by decide) (by decide)) ⟨Nat.zero_le _, Nat.zero_le _⟩ rfl (List.Perm.refl _) (fun _ => (List.Perm.refl _)) rfl (Nat.le_of_ble_eq_true rfl) (fun _ => rfl) (fun z13 h => ?_)
        refine wa_iconst fx (1 : Int32) dX4_beside_40 (by decide) ?_
        refine wa_isub fx dX4_beside_41 ?_
        refine wa_istoreN fx (fun x14 => [(5, .int x14), (0, .ref (ad 0)), (1, .int x7), (2, .int x8), (3, .int x9), (4, .int x10)]) dX4_beside_42 (by decide) (fun _ => rfl) h (fun x14 h => ?_)
        refine wa_sub [1, 2, 3, 4, 5, 0] rfl ?_
        exact B44 (f_X4_beside_l22 n) ih 200 x7 x8 x9 x10 x14 w11 h
  refine wa_aload_n fx 0 dX4_beside_0 rfl ?_
  refine wa_iload_n fx 1 dX4_beside_1 rfl ?_
  refine wa_V (b := ad 0) (rmc := (rmh 2)) (As := [.int a1]) (st := []) (wc := (mo_ws g ad st)) (wr := ([] : va_W)) (wcz := fun _ => (mo_ws g ad st)) (w2 := fun _ => (mo_ws g ad st)) (o := fun z1 => some (.int z1)) (s2 := fun z1 => [.int z1]) (ci := 4) (q0 := 0) fx mm_X4_isPerson q_8_18 dX4_beside_2 h (fun _ hz => c_X4_isPerson hz) rfl rfl (rm_ok (by decide) (by decide)) ⟨Nat.zero_le _, Nat.zero_le _⟩ rfl (List.Perm.refl _) (fun _ => (List.Perm.refl _)) rfl (Nat.le_of_ble_eq_true rfl) (fun _ => rfl) (fun z1 h => ?_)
  refine wa_if_ne fx 15 dX4_beside_5 (by decide) h (fun h => ?_) (fun h => ?_)
  · refine wa_aload_n fx 0 dX4_beside_8 rfl ?_
    refine wa_ldc fx q_5_4 dX4_beside_9 ?_
    refine wa_V (b := ad 0) (rmc := (rmh 1)) (As := [.int (-1000000001 : Int32)]) (st := []) (wc := (mo_ws g ad st)) (wr := ([] : va_W)) (wcz := fun z87 => mo_ws g ad z87.2) (w2 := fun z87 => mo_ws g ad z87.2) (o := fun z87 => some (.int z87.1)) (s2 := fun z87 => [.int z87.1]) (ci := 4) (q0 := 0) fx mm_X4_finds q_5_16 dX4_beside_11 h (fun _ hz => c_X4_finds hz) rfl rfl (rm_ok (by decide) (by decide)) ⟨Nat.zero_le _, Nat.zero_le _⟩ rfl (List.Perm.refl _) (fun _ => List.Perm.refl _) rfl (Nat.le_of_ble_eq_true rfl) (fun _ => rfl) (fun z87 h => ?_)
    exact fn_i (mo_ws g ad) fx hf (sn1 h) (sn2 h) dX4_beside_14
  · refine wa_iconst fx (-1 : Int32) dX4_beside_15 (by decide) ?_
    refine wa_istore_n fx [(2, .int (-1 : Int32)), (0, .ref (ad 0)), (1, .int a1)] dX4_beside_16 rfl (by decide) rfl ?_
    refine wa_iconst fx (0 : Int32) dX4_beside_17 (by decide) ?_
    refine wa_istore_n fx [(3, .int (0 : Int32)), (2, .int (-1 : Int32)), (0, .ref (ad 0)), (1, .int a1)] dX4_beside_18 rfl (by decide) rfl ?_
    refine wa_iconst fx (0 : Int32) dX4_beside_19 (by decide) ?_
    refine wa_istore fx [(4, .int (0 : Int32)), (3, .int (0 : Int32)), (2, .int (-1 : Int32)), (0, .ref (ad 0)), (1, .int a1)] dX4_beside_20 (by decide) rfl ?_
    refine wa_sub [3, 4, 2, 1, 0] rfl ?_
    exact B22 200 a1 (-1 : Int32) (0 : Int32) (0 : Int32) st h
def f_X4_feed_l41 : Nat → (Int32) → (Int32) → (StT) → Option (Int32 × (StT))
  | 0, _, _, _ => none
  | n + 1, x6, x7, w8 => if x7 < 0 then (some ((w8.2.2 3), w8)) else (ck (w8.2.2 3) 120 (nm (setA w8 6 (upd (w8.1 6) (Int32.toNatClampNeg (w8.2.2 3)) ((x6 >>> (((8 : Int32) * x7) &&& 31)) &&& (255 : Int32)))) fun w9 => nm (setF w9 3 ((w9.2.2 3) + (1 : Int32))) fun w10 => nm (x7 + (-1 : Int32)) fun x11 => (f_X4_feed_l41 n) x6 x11 w10))
def f_X4_feed  (st : StT) (a1 : Int32) (a2 : Int32) : Option (Int32 × (StT)) := Option.bind (f_X4_in (Int32.toInt64 a2) (1 : Int64) (4 : Int64)) fun z1 => if z1 = 0 then (Option.bind (f_X4_finds st (-1000000001 : Int32)) fun z13 => some (z13.1, z13.2)) else (if ((st.2.2 3) + a2) ≤ (120 : Int32) then (nm (a2 - (1 : Int32)) fun x2 => f_X4_feed_l41 200 a1 x2 st) else (Option.bind (f_X4_finds st (-1000000002 : Int32)) fun z12 => some (z12.1, z12.2)))
set_option maxHeartbeats 4000000 in
set_option maxRecDepth 100000 in
theorem c_X4_feed {g : GT} {l : Launch} {ad : Nat → Nat}   {st : StT} {a1 : Int32} {a2 : Int32} {r : Int32 × (StT)} (h : f_X4_feed st a1 a2 = some r) : Ct g l yX4_feed (wd yX4_feed cX4_feed 4 (some .int)) (rmh 2) [.ref (ad 0), .int a1, .int a2] (mo_ws g ad st) (mo_ws g ad r.2) (some (.int r.1)) := by
  refine Ct.of (lv := [(0, .ref (ad 0)), (1, .int a1), (2, .int a2)]) (by decide) (Nat.le_of_ble_eq_true rfl) rfl (fun K hl fx hf => ?_)
  subst hl
  rw [f_X4_feed] at h
  have B41 : ∀  (n : Nat) (x6 : Int32) (x7 : Int32) (w8 : StT), f_X4_feed_l41 n x6 x7 w8 = some r → WA g K 4 0 0 41 [(0, .ref (ad 0)), (1, .int x6), (3, .int x7)] [] (mo_ws g ad w8) := by
    intro   n
    induction n with
    | zero => intro x6 x7 w8 h; exact absurd h (by rw [f_X4_feed_l41]; exact nofun)
    | succ n ih =>
      intro x6 x7 w8 h
      rw [f_X4_feed_l41] at h
      refine wa_iload_n fx 2 dX4_feed_41 rfl ?_
      refine wa_if_lt fx 80 dX4_feed_42 (by decide) h (fun h => ?_) (fun h => ?_)
      · refine wa_aload_n fx 0 dX4_feed_80 rfl ?_
        refine wa_get (v := .int (w8.2.2 3)) fx wm_X4 0 rfl rfl 10 (by decide) q_25_10 rfl rfl dX4_feed_81 ?_
        exact fn_i (mo_ws g ad) fx hf (sn1 h) (sn2 h) dX4_feed_84
      · refine wa_aload_n fx 0 dX4_feed_45 rfl ?_
        refine wa_get (v := .ref (ad 7)) fx wm_X4 0 rfl rfl 9 (by decide) q_3_21 rfl rfl dX4_feed_46 ?_
        refine wa_aload_n fx 0 dX4_feed_49 rfl ?_
        refine wa_get (v := .int (w8.2.2 3)) fx wm_X4 0 rfl rfl 10 (by decide) q_25_10 rfl rfl dX4_feed_50 ?_
        refine wa_iload_n fx 1 dX4_feed_53 rfl ?_
        refine wa_bipush fx (8 : Int32) dX4_feed_54 (by decide) ?_
        refine wa_iload_n fx 2 dX4_feed_56 rfl ?_
        refine wa_imul fx dX4_feed_57 ?_
        refine wa_ishr fx dX4_feed_58 ?_
        refine wa_sipush fx (255 : Int32) dX4_feed_59 (by decide) ?_
        refine wa_iand fx dX4_feed_62 ?_
        refine wa_iast (mo_ws g ad) (f := w8.1 6) fx 7 rfl dX4_feed_63 h rfl (fun w9 h => ?_)
        refine wa_aload_n fx 0 dX4_feed_64 rfl ?_
        refine wa_dup fx dX4_feed_65 rfl ?_
        refine wa_get (v := .int (w9.2.2 3)) fx wm_X4 0 rfl rfl 10 (by decide) q_25_10 rfl rfl dX4_feed_66 ?_
        refine wa_iconst fx (1 : Int32) dX4_feed_69 (by decide) ?_
        refine wa_iadd fx dX4_feed_70 ?_
        refine wa_put (mo_ws g ad) fx wm_X4 tyX4 tyX4_ok nmX4 0 rfl rfl 10 (by decide) q_25_10 rfl rfl rfl rfl (Nat.le_of_ble_eq_true rfl) dX4_feed_71 h rfl (fun w10 h => ?_)
        refine wa_iinc fx 2 (fun x11 => [(3, .int x11), (0, .ref (ad 0)), (1, .int x6)]) dX4_feed_74 rfl (by rfl) (by decide) (fun _ => rfl) h (fun x11 h => ?_)
        refine wa_goto fx 41 dX4_feed_77 (by decide) ?_
        refine wa_sub [1, 2, 0] rfl ?_
        exact ih x6 x11 w10 h
  refine wa_iload_n fx 2 dX4_feed_0 rfl ?_
  refine wa_i2l fx dX4_feed_1 ?_
  refine wa_lconst fx (1 : Int64) dX4_feed_2 (by decide) ?_
  refine wa_ldc2 fx q_25_9 dX4_feed_3 ?_
  refine wa_S (rmc := (rmh 1)) (As := [.long (Int32.toInt64 a2), .long (1 : Int64), .long (4 : Int64)]) (st := []) (wc := (no_ws ())) (wr := (mo_ws g ad st)) (wcz := fun _ => (no_ws ())) (w2 := fun _ => (mo_ws g ad st)) (o := fun z1 => some (.int z1)) (s2 := fun z1 => [.int z1]) fx mm_X4_in q_5_5 dX4_feed_6 h (fun _ hz => c_X4_in hz) (rm_ok (by decide) (by decide)) ⟨Nat.zero_le _, Nat.zero_le _⟩ rfl (List.Perm.of_eq (List.append_nil _).symm) (fun _ => (List.Perm.of_eq (List.append_nil _).symm)) rfl (Nat.le_of_ble_eq_true rfl) (fun _ => rfl) (fun z1 h => ?_)
  refine wa_if_ne fx 19 dX4_feed_9 (by decide) h (fun h => ?_) (fun h => ?_)
  · refine wa_aload_n fx 0 dX4_feed_12 rfl ?_
    refine wa_ldc fx q_5_4 dX4_feed_13 ?_
    refine wa_V (b := ad 0) (rmc := (rmh 1)) (As := [.int (-1000000001 : Int32)]) (st := []) (wc := (mo_ws g ad st)) (wr := ([] : va_W)) (wcz := fun z13 => mo_ws g ad z13.2) (w2 := fun z13 => mo_ws g ad z13.2) (o := fun z13 => some (.int z13.1)) (s2 := fun z13 => [.int z13.1]) (ci := 4) (q0 := 0) fx mm_X4_finds q_5_16 dX4_feed_15 h (fun _ hz => c_X4_finds hz) rfl rfl (rm_ok (by decide) (by decide)) ⟨Nat.zero_le _, Nat.zero_le _⟩ rfl (List.Perm.refl _) (fun _ => List.Perm.refl _) rfl (Nat.le_of_ble_eq_true rfl) (fun _ => rfl) (fun z13 h => ?_)
    exact fn_i (mo_ws g ad) fx hf (sn1 h) (sn2 h) dX4_feed_18
  · refine wa_aload_n fx 0 dX4_feed_19 rfl ?_
    refine wa_get (v := .int (st.2.2 3)) fx wm_X4 0 rfl rfl 10 (by decide) q_25_10 rfl rfl dX4_feed_20 ?_
    refine wa_iload_n fx 2 dX4_feed_23 rfl ?_
    refine wa_iadd fx dX4_feed_24 ?_
    refine wa_bipush fx (120 : Int32) dX4_feed_25 (by decide) ?_
    refine wa_icmp_le fx 37 dX4_feed_27 (by decide) h (fun h => ?_) (fun h => ?_)
    · refine wa_iload_n fx 2 dX4_feed_37 rfl ?_
      refine wa_iconst fx (1 : Int32) dX4_feed_38 (by decide) ?_
      refine wa_isub fx dX4_feed_39 ?_
      refine wa_istore_nN fx (fun x2 => [(3, .int x2), (0, .ref (ad 0)), (1, .int a1), (2, .int a2)]) dX4_feed_40 rfl (by decide) (fun _ => rfl) h (fun x2 h => ?_)
      refine wa_sub [1, 2, 0] rfl ?_
      exact B41 200 a1 x2 st h
    · refine wa_aload_n fx 0 dX4_feed_30 rfl ?_
      refine wa_ldc fx q_7_10 dX4_feed_31 ?_
      refine wa_V (b := ad 0) (rmc := (rmh 1)) (As := [.int (-1000000002 : Int32)]) (st := []) (wc := (mo_ws g ad st)) (wr := ([] : va_W)) (wcz := fun z12 => mo_ws g ad z12.2) (w2 := fun z12 => mo_ws g ad z12.2) (o := fun z12 => some (.int z12.1)) (s2 := fun z12 => [.int z12.1]) (ci := 4) (q0 := 0) fx mm_X4_finds q_5_16 dX4_feed_33 h (fun _ hz => c_X4_finds hz) rfl rfl (rm_ok (by decide) (by decide)) ⟨Nat.zero_le _, Nat.zero_le _⟩ rfl (List.Perm.refl _) (fun _ => List.Perm.refl _) rfl (Nat.le_of_ble_eq_true rfl) (fun _ => rfl) (fun z12 h => ?_)
      exact fn_i (mo_ws g ad) fx hf (sn1 h) (sn2 h) dX4_feed_36
def f_X4_wipe  (st : StT) : Option (Int32 × (StT)) := nm (st.2.2 3) fun x1 => nm (setF st 3 (0 : Int32)) fun w2 => some (x1, w2)
set_option maxHeartbeats 4000000 in
set_option maxRecDepth 100000 in
theorem c_X4_wipe {g : GT} {l : Launch} {ad : Nat → Nat}   {st : StT} {r : Int32 × (StT)} (h : f_X4_wipe st = some r) : Ct g l yX4_wipe (wd yX4_wipe cX4_wipe 2 (some .int)) (rmh 1) [.ref (ad 0)] (mo_ws g ad st) (mo_ws g ad r.2) (some (.int r.1)) := by
  refine Ct.of (lv := [(0, .ref (ad 0))]) (by decide) (Nat.le_of_ble_eq_true rfl) rfl (fun K hl fx hf => ?_)
  subst hl
  rw [f_X4_wipe] at h
  refine wa_aload_n fx 0 dX4_wipe_0 rfl ?_
  refine wa_get (v := .int (st.2.2 3)) fx wm_X4 0 rfl rfl 10 (by decide) q_25_10 rfl rfl dX4_wipe_1 ?_
  refine wa_istore_nN fx (fun x1 => [(1, .int x1), (0, .ref (ad 0))]) dX4_wipe_4 rfl (by decide) (fun _ => rfl) h (fun x1 h => ?_)
  refine wa_aload_n fx 1 dX4_wipe_5 rfl ?_
  refine wa_iconst fx (0 : Int32) dX4_wipe_6 (by decide) ?_
  refine wa_put (mo_ws g ad) fx wm_X4 tyX4 tyX4_ok nmX4 0 rfl rfl 10 (by decide) q_25_10 rfl rfl rfl rfl (Nat.le_of_ble_eq_true rfl) dX4_wipe_7 h rfl (fun w2 h => ?_)
  refine wa_iload_n fx 0 dX4_wipe_10 rfl ?_
  exact fn_i (mo_ws g ad) fx hf (sn1 h) (sn2 h) dX4_wipe_11
def f_X4_byteAt (st : StT) (a1 : Int32) : Option (Int32) := if (st.2.2 3) ≤ a1 then (some (-1 : Int32)) else (ck a1 120 (some (st.1 6 (Int32.toNatClampNeg a1))))
set_option maxHeartbeats 4000000 in
set_option maxRecDepth 100000 in
theorem c_X4_byteAt {g : GT} {l : Launch} {ad : Nat → Nat}   {st : StT} {a1 : Int32} {r : Int32} (h : f_X4_byteAt st a1 = some r) : Ct g l yX4_byteAt (wd yX4_byteAt cX4_byteAt 2 (some .int)) (rmh 1) [.ref (ad 0), .int a1] (mo_ws g ad st) (mo_ws g ad st) (some (.int r)) := by
  refine Ct.of (lv := [(0, .ref (ad 0)), (1, .int a1)]) (by decide) (Nat.le_of_ble_eq_true rfl) rfl (fun K hl fx hf => ?_)
  subst hl
  rw [f_X4_byteAt] at h
  refine wa_iload_n fx 1 dX4_byteAt_0 rfl ?_
  refine wa_aload_n fx 0 dX4_byteAt_1 rfl ?_
  refine wa_get (v := .int (st.2.2 3)) fx wm_X4 0 rfl rfl 10 (by decide) q_25_10 rfl rfl dX4_byteAt_2 ?_
  refine wa_icmp_ge fx 17 dX4_byteAt_5 (by decide) h (fun h => ?_) (fun h => ?_)
  · refine wa_iconst fx (-1 : Int32) dX4_byteAt_17 (by decide) ?_
    exact fn_i (mo_ws g ad) fx hf (Option.some.inj h) rfl dX4_byteAt_18
  · refine wa_aload_n fx 0 dX4_byteAt_8 rfl ?_
    refine wa_get (v := .ref (ad 7)) fx wm_X4 0 rfl rfl 9 (by decide) q_3_21 rfl rfl dX4_byteAt_9 ?_
    refine wa_iload_n fx 1 dX4_byteAt_12 rfl ?_
    refine wa_iald (f := st.1 6) fx 7 rfl dX4_byteAt_13 h (fun h => ?_)
    refine wa_goto fx 18 dX4_byteAt_14 (by decide) ?_
    exact fn_i (mo_ws g ad) fx hf (Option.some.inj h) rfl dX4_byteAt_18
def f_X4_isLetter  (a0 : Int32) : Option (Int32) := Option.bind (f_X4_in (Int32.toInt64 a0) (97 : Int64) (122 : Int64)) fun z1 => ckb z1 (some z1)
set_option maxHeartbeats 4000000 in
set_option maxRecDepth 100000 in
theorem c_X4_isLetter {g : GT} {l : Launch}   {a0 : Int32} {r : Int32} (h : f_X4_isLetter a0 = some r) : Ct g l yX4_isLetter (wd yX4_isLetter cX4_isLetter 1 (some .boolean)) (rmh 2) [.int a0] (no_ws ()) (no_ws ()) (some (.int r)) := by
  refine Ct.of (lv := [(0, .int a0)]) (by decide) (Nat.le_of_ble_eq_true rfl) rfl (fun K hl fx hf => ?_)
  subst hl
  rw [f_X4_isLetter] at h
  refine wa_iload_n fx 0 dX4_isLetter_0 rfl ?_
  refine wa_i2l fx dX4_isLetter_1 ?_
  refine wa_ldc2 fx q_31_16 dX4_isLetter_2 ?_
  refine wa_ldc2 fx q_31_17 dX4_isLetter_5 ?_
  refine wa_S (rmc := (rmh 1)) (As := [.long (Int32.toInt64 a0), .long (97 : Int64), .long (122 : Int64)]) (st := []) (wc := (no_ws ())) (wr := (no_ws ())) (wcz := fun _ => (no_ws ())) (w2 := fun _ => (no_ws ())) (o := fun z1 => some (.int z1)) (s2 := fun z1 => [.int z1]) fx mm_X4_in q_5_5 dX4_isLetter_8 h (fun _ hz => c_X4_in hz) (rm_ok (by decide) (by decide)) ⟨Nat.zero_le _, Nat.zero_le _⟩ rfl (List.Perm.of_eq (List.append_nil _).symm) (fun _ => (List.Perm.of_eq (List.append_nil _).symm)) rfl (Nat.le_of_ble_eq_true rfl) (fun _ => rfl) (fun z1 h => ?_)
  obtain ⟨hb, h⟩ := of_ckb h
  exact fn_z (no_ws) fx hf (nb_of hb) (Option.some.inj h) rfl dX4_isLetter_11
def f_X4_isDigit  (a0 : Int32) : Option (Int32) := Option.bind (f_X4_in (Int32.toInt64 a0) (48 : Int64) (57 : Int64)) fun z1 => ckb z1 (some z1)
set_option maxHeartbeats 4000000 in
set_option maxRecDepth 100000 in
theorem c_X4_isDigit {g : GT} {l : Launch}   {a0 : Int32} {r : Int32} (h : f_X4_isDigit a0 = some r) : Ct g l yX4_isDigit (wd yX4_isDigit cX4_isDigit 1 (some .boolean)) (rmh 2) [.int a0] (no_ws ()) (no_ws ()) (some (.int r)) := by
  refine Ct.of (lv := [(0, .int a0)]) (by decide) (Nat.le_of_ble_eq_true rfl) rfl (fun K hl fx hf => ?_)
  subst hl
  rw [f_X4_isDigit] at h
  refine wa_iload_n fx 0 dX4_isDigit_0 rfl ?_
  refine wa_i2l fx dX4_isDigit_1 ?_
  refine wa_ldc2 fx q_31_21 dX4_isDigit_2 ?_
  refine wa_ldc2 fx q_31_22 dX4_isDigit_5 ?_
  refine wa_S (rmc := (rmh 1)) (As := [.long (Int32.toInt64 a0), .long (48 : Int64), .long (57 : Int64)]) (st := []) (wc := (no_ws ())) (wr := (no_ws ())) (wcz := fun _ => (no_ws ())) (w2 := fun _ => (no_ws ())) (o := fun z1 => some (.int z1)) (s2 := fun z1 => [.int z1]) fx mm_X4_in q_5_5 dX4_isDigit_8 h (fun _ hz => c_X4_in hz) (rm_ok (by decide) (by decide)) ⟨Nat.zero_le _, Nat.zero_le _⟩ rfl (List.Perm.of_eq (List.append_nil _).symm) (fun _ => (List.Perm.of_eq (List.append_nil _).symm)) rfl (Nat.le_of_ble_eq_true rfl) (fun _ => rfl) (fun z1 h => ?_)
  obtain ⟨hb, h⟩ := of_ckb h
  exact fn_z (no_ws) fx hf (nb_of hb) (Option.some.inj h) rfl dX4_isDigit_11
def f_X4_token_b122 (k86 : (Int32) → (Int32) → (StT) → Option ((StT))) (x25 : Int32) (x26 : Int32) (w27 : StT) : Option ((StT)) := nm (setF w27 5 ((w27.2.2 5) + (1 : Int32))) fun w28 => k86 x25 x26 w28
def f_X4_token_b104 (k86 : (Int32) → (Int32) → (StT) → Option ((StT))) (x20 : Int32) (x21 : Int32) (w22 : StT) : Option ((StT)) := if x21 = 0 then (some w22) else (Option.bind (f_X4_byteAt w22 (w22.2.2 5)) fun z23 => Option.bind (f_X4_isDigit z23) fun z24 => if z24 = 0 then (some w22) else (f_X4_token_b122 k86 x20 x21 w22))
def f_X4_token_l86 : Nat → (Int32) → (Int32) → (StT) → Option ((StT))
  | 0, _, _, _ => none
  | n + 1, x17, x18, w19 => if x17 = 0 then (f_X4_token_b104 (f_X4_token_l86 n) x17 x18 w19) else (Option.bind (f_X4_byteAt w19 (w19.2.2 5)) fun z29 => Option.bind (f_X4_isLetter z29) fun z30 => if z30 = 0 then (f_X4_token_b104 (f_X4_token_l86 n) x17 x18 w19) else (f_X4_token_b122 (f_X4_token_l86 n) x17 x18 w19))
def f_X4_token_b83 (x9 : Int32) (x10 : Int32) (x11 : Int32) (w12 : StT) : Option ((StT)) := nm (setF w12 5 x11) fun w13 => f_X4_token_l86 200 x9 x10 w13
def f_X4_token_l8 : Nat → (StT) → Option ((StT))
  | 0, _ => none
  | n + 1, w3 => Option.bind (f_X4_byteAt w3 (w3.2.2 4)) fun z4 => if z4 = (32 : Int32) then (nm (setF w3 4 ((w3.2.2 4) + (1 : Int32))) fun w31 => (f_X4_token_l8 n)  w31) else (Option.bind (f_X4_byteAt w3 (w3.2.2 4)) fun z5 => Option.bind (f_X4_isLetter z5) fun z6 => Option.bind (f_X4_byteAt w3 (w3.2.2 4)) fun z7 => Option.bind (f_X4_isDigit z7) fun z8 => if (w3.2.2 3) ≤ (w3.2.2 4) then (f_X4_token_b83 z6 z8 (w3.2.2 4) w3) else (f_X4_token_b83 z6 z8 ((w3.2.2 4) + (1 : Int32)) w3))
def f_X4_token  (st : StT) : Option ((StT)) := nm (setF st 4 (st.2.2 5)) fun w1 => f_X4_token_l8 200 w1
set_option maxHeartbeats 4000000 in
set_option maxRecDepth 100000 in
theorem c_X4_token {g : GT} {l : Launch} {ad : Nat → Nat}   {st : StT} {r : (StT)} (h : f_X4_token st = some r) : Ct g l yX4_token (wd yX4_token cX4_token 3 none) (rmh 3) [.ref (ad 0)] (mo_ws g ad st) (mo_ws g ad r) none := by
  refine Ct.of (lv := [(0, .ref (ad 0))]) (by decide) (Nat.le_of_ble_eq_true rfl) rfl (fun K hl fx hf => ?_)
  subst hl
  rw [f_X4_token] at h
  have B122 : ∀ (k86 : (Int32) → (Int32) → (StT) → Option ((StT))) (Hk86 : ∀ (y14 : Int32) (y15 : Int32) (w16 : StT), k86 y14 y15 w16 = some r → WA g K 3 0 0 86 [(0, .ref (ad 0)), (1, .int y14), (2, .int y15)] [] (mo_ws g ad w16)) (x25 : Int32) (x26 : Int32) (w27 : StT), f_X4_token_b122 k86 x25 x26 w27 = some r → WA g K 3 0 0 122 [(0, .ref (ad 0)), (1, .int x25), (2, .int x26)] [] (mo_ws g ad w27) := by
    intro  k86 Hk86 x25 x26 w27 h
    rw [f_X4_token_b122] at h
    refine wa_aload_n fx 0 dX4_token_122 rfl ?_
    refine wa_dup fx dX4_token_123 rfl ?_
    refine wa_get (v := .int (w27.2.2 5)) fx wm_X4 0 rfl rfl 12 (by decide) q_30_23 rfl rfl dX4_token_124 ?_
    refine wa_iconst fx (1 : Int32) dX4_token_127 (by decide) ?_
    refine wa_iadd fx dX4_token_128 ?_
    refine wa_put (mo_ws g ad) fx wm_X4 tyX4 tyX4_ok nmX4 0 rfl rfl 12 (by decide) q_30_23 rfl rfl rfl rfl (Nat.le_of_ble_eq_true rfl) dX4_token_129 h rfl (fun w28 h => ?_)
    refine wa_goto fx 86 dX4_token_132 (by decide) ?_
    refine wa_sub [0, 1, 2] rfl ?_
    exact Hk86 x25 x26 w28 h
  have B104 : ∀ (k86 : (Int32) → (Int32) → (StT) → Option ((StT))) (Hk86 : ∀ (y14 : Int32) (y15 : Int32) (w16 : StT), k86 y14 y15 w16 = some r → WA g K 3 0 0 86 [(0, .ref (ad 0)), (1, .int y14), (2, .int y15)] [] (mo_ws g ad w16)) (x20 : Int32) (x21 : Int32) (w22 : StT), f_X4_token_b104 k86 x20 x21 w22 = some r → WA g K 3 0 0 104 [(0, .ref (ad 0)), (1, .int x20), (2, .int x21)] [] (mo_ws g ad w22) := by
    intro  k86 Hk86 x20 x21 w22 h
    rw [f_X4_token_b104] at h
    refine wa_iload_n fx 2 dX4_token_104 rfl ?_
    refine wa_if_eq fx 135 dX4_token_105 (by decide) h (fun h => ?_) (fun h => ?_)
    · exact fn_v (mo_ws g ad) fx hf (Option.some.inj h) dX4_token_135
    · refine wa_aload_n fx 0 dX4_token_108 rfl ?_
      refine wa_aload_n fx 0 dX4_token_109 rfl ?_
      refine wa_get (v := .int (w22.2.2 5)) fx wm_X4 0 rfl rfl 12 (by decide) q_30_23 rfl rfl dX4_token_110 ?_
      refine wa_V (b := ad 0) (rmc := (rmh 1)) (As := [.int (w22.2.2 5)]) (st := []) (wc := (mo_ws g ad w22)) (wr := ([] : va_W)) (wcz := fun _ => (mo_ws g ad w22)) (w2 := fun _ => (mo_ws g ad w22)) (o := fun z23 => some (.int z23)) (s2 := fun z23 => [.int z23]) (ci := 4) (q0 := 0) fx mm_X4_byteAt q_31_9 dX4_token_113 h (fun _ hz => c_X4_byteAt hz) rfl rfl (rm_ok (by decide) (by decide)) ⟨Nat.zero_le _, Nat.zero_le _⟩ rfl (List.Perm.refl _) (fun _ => (List.Perm.refl _)) rfl (Nat.le_of_ble_eq_true rfl) (fun _ => rfl) (fun z23 h => ?_)
      refine wa_S (rmc := (rmh 2)) (As := [.int z23]) (st := []) (wc := (no_ws ())) (wr := (mo_ws g ad w22)) (wcz := fun _ => (no_ws ())) (w2 := fun _ => (mo_ws g ad w22)) (o := fun z24 => some (.int z24)) (s2 := fun z24 => [.int z24]) fx mm_X4_isDigit q_31_18 dX4_token_116 h (fun _ hz => c_X4_isDigit hz) (rm_ok (by decide) (by decide)) ⟨Nat.zero_le _, Nat.zero_le _⟩ rfl (List.Perm.of_eq (List.append_nil _).symm) (fun _ => (List.Perm.of_eq (List.append_nil _).symm)) rfl (Nat.le_of_ble_eq_true rfl) (fun _ => rfl) (fun z24 h => ?_)
      refine wa_if_eq fx 135 dX4_token_119 (by decide) h (fun h => ?_) (fun h => ?_)
      · exact fn_v (mo_ws g ad) fx hf (Option.some.inj h) dX4_token_135
      · refine wa_sub [0, 1, 2] rfl ?_
        exact B122 k86 Hk86 x20 x21 w22 h
  have B86 : ∀  (n : Nat) (x17 : Int32) (x18 : Int32) (w19 : StT), f_X4_token_l86 n x17 x18 w19 = some r → WA g K 3 0 0 86 [(0, .ref (ad 0)), (1, .int x17), (2, .int x18)] [] (mo_ws g ad w19) := by
    intro   n
    induction n with
    | zero => intro x17 x18 w19 h; exact absurd h (by rw [f_X4_token_l86]; exact nofun)
    | succ n ih =>
      intro x17 x18 w19 h
      rw [f_X4_token_l86] at h
      refine wa_iload_n fx 1 dX4_token_86 rfl ?_
      refine wa_if_eq fx 104 dX4_token_87 (by decide) h (fun h => ?_) (fun h => ?_)
      · refine wa_sub [0, 1, 2] rfl ?_
        exact B104 (f_X4_token_l86 n) ih x17 x18 w19 h
      · refine wa_aload_n fx 0 dX4_token_90 rfl ?_
        refine wa_aload_n fx 0 dX4_token_91 rfl ?_
        refine wa_get (v := .int (w19.2.2 5)) fx wm_X4 0 rfl rfl 12 (by decide) q_30_23 rfl rfl dX4_token_92 ?_
        refine wa_V (b := ad 0) (rmc := (rmh 1)) (As := [.int (w19.2.2 5)]) (st := []) (wc := (mo_ws g ad w19)) (wr := ([] : va_W)) (wcz := fun _ => (mo_ws g ad w19)) (w2 := fun _ => (mo_ws g ad w19)) (o := fun z29 => some (.int z29)) (s2 := fun z29 => [.int z29]) (ci := 4) (q0 := 0) fx mm_X4_byteAt q_31_9 dX4_token_95 h (fun _ hz => c_X4_byteAt hz) rfl rfl (rm_ok (by decide) (by decide)) ⟨Nat.zero_le _, Nat.zero_le _⟩ rfl (List.Perm.refl _) (fun _ => (List.Perm.refl _)) rfl (Nat.le_of_ble_eq_true rfl) (fun _ => rfl) (fun z29 h => ?_)
        refine wa_S (rmc := (rmh 2)) (As := [.int z29]) (st := []) (wc := (no_ws ())) (wr := (mo_ws g ad w19)) (wcz := fun _ => (no_ws ())) (w2 := fun _ => (mo_ws g ad w19)) (o := fun z30 => some (.int z30)) (s2 := fun z30 => [.int z30]) fx mm_X4_isLetter q_31_13 dX4_token_98 h (fun _ hz => c_X4_isLetter hz) (rm_ok (by decide) (by decide)) ⟨Nat.zero_le _, Nat.zero_le _⟩ rfl (List.Perm.of_eq (List.append_nil _).symm) (fun _ => (List.Perm.of_eq (List.append_nil _).symm)) rfl (Nat.le_of_ble_eq_true rfl) (fun _ => rfl) (fun z30 h => ?_)
        refine wa_if_ne fx 122 dX4_token_101 (by decide) h (fun h => ?_) (fun h => ?_)
        · refine wa_sub [0, 1, 2] rfl ?_
          exact B104 (f_X4_token_l86 n) ih x17 x18 w19 h
        · refine wa_sub [0, 1, 2] rfl ?_
          exact B122 (f_X4_token_l86 n) ih x17 x18 w19 h
  have B83 : ∀  (x9 : Int32) (x10 : Int32) (x11 : Int32) (w12 : StT), f_X4_token_b83 x9 x10 x11 w12 = some r → WA g K 3 0 0 83 [(0, .ref (ad 0)), (1, .int x9), (2, .int x10)] [.int x11, .ref (ad 0)] (mo_ws g ad w12) := by
    intro   x9 x10 x11 w12 h
    rw [f_X4_token_b83] at h
    refine wa_put (mo_ws g ad) fx wm_X4 tyX4 tyX4_ok nmX4 0 rfl rfl 12 (by decide) q_30_23 rfl rfl rfl rfl (Nat.le_of_ble_eq_true rfl) dX4_token_83 h rfl (fun w13 h => ?_)
    refine wa_sub [0, 1, 2] rfl ?_
    exact B86 200 x9 x10 w13 h
  have B8 : ∀  (n : Nat) (w3 : StT), f_X4_token_l8 n w3 = some r → WA g K 3 0 0 8 [(0, .ref (ad 0))] [] (mo_ws g ad w3) := by
    intro   n
    induction n with
    | zero => intro w3 h; exact absurd h (by rw [f_X4_token_l8]; exact nofun)
    | succ n ih =>
      intro w3 h
      rw [f_X4_token_l8] at h
      refine wa_aload_n fx 0 dX4_token_8 rfl ?_
      refine wa_aload_n fx 0 dX4_token_9 rfl ?_
      refine wa_get (v := .int (w3.2.2 4)) fx wm_X4 0 rfl rfl 11 (by decide) q_31_0 rfl rfl dX4_token_10 ?_
      refine wa_V (b := ad 0) (rmc := (rmh 1)) (As := [.int (w3.2.2 4)]) (st := []) (wc := (mo_ws g ad w3)) (wr := ([] : va_W)) (wcz := fun _ => (mo_ws g ad w3)) (w2 := fun _ => (mo_ws g ad w3)) (o := fun z4 => some (.int z4)) (s2 := fun z4 => [.int z4]) (ci := 4) (q0 := 0) fx mm_X4_byteAt q_31_9 dX4_token_13 h (fun _ hz => c_X4_byteAt hz) rfl rfl (rm_ok (by decide) (by decide)) ⟨Nat.zero_le _, Nat.zero_le _⟩ rfl (List.Perm.refl _) (fun _ => (List.Perm.refl _)) rfl (Nat.le_of_ble_eq_true rfl) (fun _ => rfl) (fun z4 h => ?_)
      refine wa_bipush fx (32 : Int32) dX4_token_16 (by decide) ?_
      refine wa_icmp_ne fx 34 dX4_token_18 (by decide) h (fun h => ?_) (fun h => ?_)
      · refine wa_aload_n fx 0 dX4_token_21 rfl ?_
        refine wa_dup fx dX4_token_22 rfl ?_
        refine wa_get (v := .int (w3.2.2 4)) fx wm_X4 0 rfl rfl 11 (by decide) q_31_0 rfl rfl dX4_token_23 ?_
        refine wa_iconst fx (1 : Int32) dX4_token_26 (by decide) ?_
        refine wa_iadd fx dX4_token_27 ?_
        refine wa_put (mo_ws g ad) fx wm_X4 tyX4 tyX4_ok nmX4 0 rfl rfl 11 (by decide) q_31_0 rfl rfl rfl rfl (Nat.le_of_ble_eq_true rfl) dX4_token_28 h rfl (fun w31 h => ?_)
        refine wa_goto fx 8 dX4_token_31 (by decide) ?_
        refine wa_sub [0] rfl ?_
        exact ih  w31 h
      · refine wa_aload_n fx 0 dX4_token_34 rfl ?_
        refine wa_aload_n fx 0 dX4_token_35 rfl ?_
        refine wa_get (v := .int (w3.2.2 4)) fx wm_X4 0 rfl rfl 11 (by decide) q_31_0 rfl rfl dX4_token_36 ?_
        refine wa_V (b := ad 0) (rmc := (rmh 1)) (As := [.int (w3.2.2 4)]) (st := []) (wc := (mo_ws g ad w3)) (wr := ([] : va_W)) (wcz := fun _ => (mo_ws g ad w3)) (w2 := fun _ => (mo_ws g ad w3)) (o := fun z5 => some (.int z5)) (s2 := fun z5 => [.int z5]) (ci := 4) (q0 := 0) fx mm_X4_byteAt q_31_9 dX4_token_39 h (fun _ hz => c_X4_byteAt hz) rfl rfl (rm_ok (by decide) (by decide)) ⟨Nat.zero_le _, Nat.zero_le _⟩ rfl (List.Perm.refl _) (fun _ => (List.Perm.refl _)) rfl (Nat.le_of_ble_eq_true rfl) (fun _ => rfl) (fun z5 h => ?_)
        refine wa_S (rmc := (rmh 2)) (As := [.int z5]) (st := []) (wc := (no_ws ())) (wr := (mo_ws g ad w3)) (wcz := fun _ => (no_ws ())) (w2 := fun _ => (mo_ws g ad w3)) (o := fun z6 => some (.int z6)) (s2 := fun z6 => [.int z6]) fx mm_X4_isLetter q_31_13 dX4_token_42 h (fun _ hz => c_X4_isLetter hz) (rm_ok (by decide) (by decide)) ⟨Nat.zero_le _, Nat.zero_le _⟩ rfl (List.Perm.of_eq (List.append_nil _).symm) (fun _ => (List.Perm.of_eq (List.append_nil _).symm)) rfl (Nat.le_of_ble_eq_true rfl) (fun _ => rfl) (fun z6 h => ?_)
        refine wa_istore_n fx [(1, .int z6), (0, .ref (ad 0))] dX4_token_45 rfl (by decide) rfl ?_
        refine wa_aload_n fx 1 dX4_token_46 rfl ?_
        refine wa_aload_n fx 1 dX4_token_47 rfl ?_
        refine wa_get (v := .int (w3.2.2 4)) fx wm_X4 0 rfl rfl 11 (by decide) q_31_0 rfl rfl dX4_token_48 ?_
        refine wa_V (b := ad 0) (rmc := (rmh 1)) (As := [.int (w3.2.2 4)]) (st := []) (wc := (mo_ws g ad w3)) (wr := ([] : va_W)) (wcz := fun _ => (mo_ws g ad w3)) (w2 := fun _ => (mo_ws g ad w3)) (o := fun z7 => some (.int z7)) (s2 := fun z7 => [.int z7]) (ci := 4) (q0 := 0) fx mm_X4_byteAt q_31_9 dX4_token_51 h (fun _ hz => c_X4_byteAt hz) rfl rfl (rm_ok (by decide) (by decide)) ⟨Nat.zero_le _, Nat.zero_le _⟩ rfl (List.Perm.refl _) (fun _ => (List.Perm.refl _)) rfl (Nat.le_of_ble_eq_true rfl) (fun _ => rfl) (fun z7 h => ?_)
        refine wa_S (rmc := (rmh 2)) (As := [.int z7]) (st := []) (wc := (no_ws ())) (wr := (mo_ws g ad w3)) (wcz := fun _ => (no_ws ())) (w2 := fun _ => (mo_ws g ad w3)) (o := fun z8 => some (.int z8)) (s2 := fun z8 => [.int z8]) fx mm_X4_isDigit q_31_18 dX4_token_54 h (fun _ hz => c_X4_isDigit hz) (rm_ok (by decide) (by decide)) ⟨Nat.zero_le _, Nat.zero_le _⟩ rfl (List.Perm.of_eq (List.append_nil _).symm) (fun _ => (List.Perm.of_eq (List.append_nil _).symm)) rfl (Nat.le_of_ble_eq_true rfl) (fun _ => rfl) (fun z8 h => ?_)
        refine wa_istore_n fx [(2, .int z8), (1, .int z6), (0, .ref (ad 0))] dX4_token_57 rfl (by decide) rfl ?_
        refine wa_aload_n fx 2 dX4_token_58 rfl ?_
        refine wa_aload_n fx 2 dX4_token_59 rfl ?_
        refine wa_get (v := .int (w3.2.2 4)) fx wm_X4 0 rfl rfl 11 (by decide) q_31_0 rfl rfl dX4_token_60 ?_
        refine wa_aload_n fx 2 dX4_token_63 rfl ?_
        refine wa_get (v := .int (w3.2.2 3)) fx wm_X4 0 rfl rfl 10 (by decide) q_25_10 rfl rfl dX4_token_64 ?_
        refine wa_icmp_ge fx 79 dX4_token_67 (by decide) h (fun h => ?_) (fun h => ?_)
        · refine wa_aload_n fx 2 dX4_token_79 rfl ?_
          refine wa_get (v := .int (w3.2.2 4)) fx wm_X4 0 rfl rfl 11 (by decide) q_31_0 rfl rfl dX4_token_80 ?_
          refine wa_sub [2, 1, 0] rfl ?_
          exact B83 z6 z8 (w3.2.2 4) w3 h
        · refine wa_aload_n fx 2 dX4_token_70 rfl ?_
          refine wa_get (v := .int (w3.2.2 4)) fx wm_X4 0 rfl rfl 11 (by decide) q_31_0 rfl rfl dX4_token_71 ?_
          refine wa_iconst fx (1 : Int32) dX4_token_74 (by decide) ?_
          refine wa_iadd fx dX4_token_75 ?_
          refine wa_goto fx 83 dX4_token_76 (by decide) ?_
          refine wa_sub [2, 1, 0] rfl ?_
          exact B83 z6 z8 ((w3.2.2 4) + (1 : Int32)) w3 h
  refine wa_aload_n fx 0 dX4_token_0 rfl ?_
  refine wa_aload_n fx 0 dX4_token_1 rfl ?_
  refine wa_get (v := .int (st.2.2 5)) fx wm_X4 0 rfl rfl 12 (by decide) q_30_23 rfl rfl dX4_token_2 ?_
  refine wa_put (mo_ws g ad) fx wm_X4 tyX4 tyX4_ok nmX4 0 rfl rfl 11 (by decide) q_31_0 rfl rfl rfl rfl (Nat.le_of_ble_eq_true rfl) dX4_token_5 h rfl (fun w1 h => ?_)
  refine wa_sub [0] rfl ?_
  exact B8 200 w1 h
def f_X4_must_b17 (x2 : Int32) (w3 : StT) : Option ((StT)) := ckb x2 (nm (setF w3 7 x2) fun w4 => if (w4.2.2 7) = 0 then (Option.bind (f_X4_token w4) fun z5 => some z5) else (some w4))
def f_X4_must_b12 (w1 : StT) : Option ((StT)) := f_X4_must_b17 (1 : Int32) w1
def f_X4_must  (st : StT) (a1 : Int32) : Option ((StT)) := if (st.2.2 7) = 0 then (if a1 = 0 then (f_X4_must_b12 st) else (f_X4_must_b17 (0 : Int32) st)) else (f_X4_must_b12 st)
set_option maxHeartbeats 4000000 in
set_option maxRecDepth 100000 in
theorem c_X4_must {g : GT} {l : Launch} {ad : Nat → Nat}   {st : StT} {a1 : Int32} {r : (StT)} (h : f_X4_must st a1 = some r) : Ct g l yX4_must (wd yX4_must cX4_must 2 none) (rmh 4) [.ref (ad 0), .int a1] (mo_ws g ad st) (mo_ws g ad r) none := by
  refine Ct.of (lv := [(0, .ref (ad 0)), (1, .int a1)]) (by decide) (Nat.le_of_ble_eq_true rfl) rfl (fun K hl fx hf => ?_)
  subst hl
  rw [f_X4_must] at h
  have B17 : ∀  (x2 : Int32) (w3 : StT), f_X4_must_b17 x2 w3 = some r → WA g K 2 0 0 17 [(0, .ref (ad 0))] [.int x2, .ref (ad 0)] (mo_ws g ad w3) := by
    intro   x2 w3 h
    rw [f_X4_must_b17] at h
    obtain ⟨hb, h⟩ := of_ckb h
    refine wa_put (mo_ws g ad) fx wm_X4 tyX4 tyX4_ok nmX4 0 rfl rfl 14 (by decide) q_30_22 rfl rfl (nb_of hb) (fb_of hb) (Nat.le_of_ble_eq_true rfl) dX4_must_17 h rfl (fun w4 h => ?_)
    refine wa_aload_n fx 0 dX4_must_20 rfl ?_
    refine wa_get (v := .int (w4.2.2 7)) fx wm_X4 0 rfl rfl 14 (by decide) q_30_22 rfl rfl dX4_must_21 ?_
    refine wa_if_ne fx 31 dX4_must_24 (by decide) h (fun h => ?_) (fun h => ?_)
    · refine wa_aload_n fx 0 dX4_must_27 rfl ?_
      refine wa_V (b := ad 0) (rmc := (rmh 3)) (As := []) (st := []) (wc := (mo_ws g ad w4)) (wr := ([] : va_W)) (wcz := fun z5 => mo_ws g ad z5) (w2 := fun z5 => mo_ws g ad z5) (o := fun _ => none) (s2 := fun z5 => []) (ci := 4) (q0 := 0) fx mm_X4_token q_31_5 dX4_must_28 h (fun _ hz => c_X4_token hz) rfl rfl (rm_ok (by decide) (by decide)) ⟨Nat.zero_le _, Nat.zero_le _⟩ rfl (List.Perm.refl _) (fun _ => List.Perm.refl _) rfl (Nat.le_of_ble_eq_true rfl) (fun _ => rfl) (fun z5 h => ?_)
      exact fn_v (mo_ws g ad) fx hf (Option.some.inj h) dX4_must_31
    · exact fn_v (mo_ws g ad) fx hf (Option.some.inj h) dX4_must_31
  have B12 : ∀  (w1 : StT), f_X4_must_b12 w1 = some r → WA g K 2 0 0 12 [(0, .ref (ad 0))] [.ref (ad 0)] (mo_ws g ad w1) := by
    intro   w1 h
    rw [f_X4_must_b12] at h
    refine wa_iconst fx (1 : Int32) dX4_must_12 (by decide) ?_
    refine wa_goto fx 17 dX4_must_13 (by decide) ?_
    refine wa_sub [0] rfl ?_
    exact B17 (1 : Int32) w1 h
  refine wa_aload_n fx 0 dX4_must_0 rfl ?_
  refine wa_aload_n fx 0 dX4_must_1 rfl ?_
  refine wa_get (v := .int (st.2.2 7)) fx wm_X4 0 rfl rfl 14 (by decide) q_30_22 rfl rfl dX4_must_2 ?_
  refine wa_if_ne fx 12 dX4_must_5 (by decide) h (fun h => ?_) (fun h => ?_)
  · refine wa_iload_n fx 1 dX4_must_8 rfl ?_
    refine wa_if_ne fx 16 dX4_must_9 (by decide) h (fun h => ?_) (fun h => ?_)
    · refine wa_sub [0] rfl ?_
      exact B12 st h
    · refine wa_iconst fx (0 : Int32) dX4_must_16 (by decide) ?_
      refine wa_sub [0] rfl ?_
      exact B17 (0 : Int32) st h
  · refine wa_sub [0] rfl ?_
    exact B12 st h
def f_X4_word_b43 (k7 : (Int64) → (Int32) → Option (Int64)) (st : StT) (x8 : Int32) (x9 : Int64) : Option (Int64) := nm (x8 + (1 : Int32)) fun x10 => k7 x9 x10
def f_X4_word_l7 (st : StT) : Nat → (Int64) → (Int32) → Option (Int64)
  | 0, _, _ => none
  | n + 1, x4, x5 => if (st.2.2 5) ≤ x5 then (if (st.2.2 7) = 0 then (Option.bind (f_X4_byteAt st (st.2.2 4)) fun z6 => Option.bind (f_X4_isLetter z6) fun z7 => if z7 = 0 then (some (0 : Int64)) else (some x4)) else (some (0 : Int64))) else (if (lg_cmp x4 (36028797018963967 : Int64)) ≤ 0 then (ck x5 120 (f_X4_word_b43 (f_X4_word_l7 st n) st x5 (((32 : Int64) * x4) + (Int32.toInt64 ((st.1 6 (Int32.toNatClampNeg x5)) - (96 : Int32)))))) else (f_X4_word_b43 (f_X4_word_l7 st n) st x5 x4))
def f_X4_word (st : StT)  : Option (Int64) := nm (st.2.2 4) fun x1 => f_X4_word_l7 st 200 (0 : Int64) x1
set_option maxHeartbeats 4000000 in
set_option maxRecDepth 100000 in
theorem c_X4_word {g : GT} {l : Launch} {ad : Nat → Nat}   {st : StT}  {r : Int64} (h : f_X4_word st = some r) : Ct g l yX4_word (wd yX4_word cX4_word 4 (some .long)) (rmh 3) [.ref (ad 0)] (mo_ws g ad st) (mo_ws g ad st) (some (.long r)) := by
  refine Ct.of (lv := [(0, .ref (ad 0))]) (by decide) (Nat.le_of_ble_eq_true rfl) rfl (fun K hl fx hf => ?_)
  subst hl
  rw [f_X4_word] at h
  have B43 : ∀ (k7 : (Int64) → (Int32) → Option (Int64)) (Hk7 : ∀ (y2 : Int64) (y3 : Int32), k7 y2 y3 = some r → WA g K 4 0 0 7 [(0, .ref (ad 0)), (1, .long y2), (3, .int y3)] [] (mo_ws g ad st)) (x8 : Int32) (x9 : Int64), f_X4_word_b43 k7 st x8 x9 = some r → WA g K 4 0 0 43 [(0, .ref (ad 0)), (3, .int x8)] [.long x9] (mo_ws g ad st) := by
    intro  k7 Hk7 x8 x9 h
    rw [f_X4_word_b43] at h
    refine wa_lstore_n fx [(1, .long x9), (0, .ref (ad 0)), (3, .int x8)] dX4_word_43 rfl (by decide) rfl ?_
    refine wa_iinc fx 2 (fun x10 => [(3, .int x10), (1, .long x9), (0, .ref (ad 0))]) dX4_word_44 rfl (by rfl) (by decide) (fun _ => rfl) h (fun x10 h => ?_)
    refine wa_goto fx 7 dX4_word_47 (by decide) ?_
    refine wa_sub [2, 1, 0] rfl ?_
    exact Hk7 x9 x10 h
  have B7 : ∀  (n : Nat) (x4 : Int64) (x5 : Int32), f_X4_word_l7 st n x4 x5 = some r → WA g K 4 0 0 7 [(0, .ref (ad 0)), (1, .long x4), (3, .int x5)] [] (mo_ws g ad st) := by
    intro   n
    induction n with
    | zero => intro x4 x5 h; exact absurd h (by rw [f_X4_word_l7]; exact nofun)
    | succ n ih =>
      intro x4 x5 h
      rw [f_X4_word_l7] at h
      refine wa_iload_n fx 2 dX4_word_7 rfl ?_
      refine wa_aload_n fx 0 dX4_word_8 rfl ?_
      refine wa_get (v := .int (st.2.2 5)) fx wm_X4 0 rfl rfl 12 (by decide) q_30_23 rfl rfl dX4_word_9 ?_
      refine wa_icmp_ge fx 50 dX4_word_12 (by decide) h (fun h => ?_) (fun h => ?_)
      · refine wa_aload_n fx 0 dX4_word_50 rfl ?_
        refine wa_get (v := .int (st.2.2 7)) fx wm_X4 0 rfl rfl 14 (by decide) q_30_22 rfl rfl dX4_word_51 ?_
        refine wa_if_ne fx 71 dX4_word_54 (by decide) h (fun h => ?_) (fun h => ?_)
        · refine wa_aload_n fx 0 dX4_word_57 rfl ?_
          refine wa_aload_n fx 0 dX4_word_58 rfl ?_
          refine wa_get (v := .int (st.2.2 4)) fx wm_X4 0 rfl rfl 11 (by decide) q_31_0 rfl rfl dX4_word_59 ?_
          refine wa_V (b := ad 0) (rmc := (rmh 1)) (As := [.int (st.2.2 4)]) (st := []) (wc := (mo_ws g ad st)) (wr := ([] : va_W)) (wcz := fun _ => (mo_ws g ad st)) (w2 := fun _ => (mo_ws g ad st)) (o := fun z6 => some (.int z6)) (s2 := fun z6 => [.int z6]) (ci := 4) (q0 := 0) fx mm_X4_byteAt q_31_9 dX4_word_62 h (fun _ hz => c_X4_byteAt hz) rfl rfl (rm_ok (by decide) (by decide)) ⟨Nat.zero_le _, Nat.zero_le _⟩ rfl (List.Perm.refl _) (fun _ => (List.Perm.refl _)) rfl (Nat.le_of_ble_eq_true rfl) (fun _ => rfl) (fun z6 h => ?_)
          refine wa_S (rmc := (rmh 2)) (As := [.int z6]) (st := []) (wc := (no_ws ())) (wr := (mo_ws g ad st)) (wcz := fun _ => (no_ws ())) (w2 := fun _ => (mo_ws g ad st)) (o := fun z7 => some (.int z7)) (s2 := fun z7 => [.int z7]) fx mm_X4_isLetter q_31_13 dX4_word_65 h (fun _ hz => c_X4_isLetter hz) (rm_ok (by decide) (by decide)) ⟨Nat.zero_le _, Nat.zero_le _⟩ rfl (List.Perm.of_eq (List.append_nil _).symm) (fun _ => (List.Perm.of_eq (List.append_nil _).symm)) rfl (Nat.le_of_ble_eq_true rfl) (fun _ => rfl) (fun z7 h => ?_)
          refine wa_if_ne fx 75 dX4_word_68 (by decide) h (fun h => ?_) (fun h => ?_)
          · refine wa_lconst fx (0 : Int64) dX4_word_71 (by decide) ?_
            refine wa_goto fx 76 dX4_word_72 (by decide) ?_
            exact fn_l (mo_ws g ad) fx hf (Option.some.inj h) rfl dX4_word_76
          · refine wa_lload_n fx 1 dX4_word_75 rfl ?_
            exact fn_l (mo_ws g ad) fx hf (Option.some.inj h) rfl dX4_word_76
        · refine wa_lconst fx (0 : Int64) dX4_word_71 (by decide) ?_
          refine wa_goto fx 76 dX4_word_72 (by decide) ?_
          exact fn_l (mo_ws g ad) fx hf (Option.some.inj h) rfl dX4_word_76
      · refine wa_lload_n fx 1 dX4_word_15 rfl ?_
        refine wa_ldc2 fx q_32_20 dX4_word_16 ?_
        refine wa_lcmp fx dX4_word_19 ?_
        refine wa_if_le fx 27 dX4_word_20 (by decide) h (fun h => ?_) (fun h => ?_)
        · refine wa_ldc2 fx q_32_21 dX4_word_27 ?_
          refine wa_lload_n fx 1 dX4_word_30 rfl ?_
          refine wa_lmul fx dX4_word_31 ?_
          refine wa_aload_n fx 0 dX4_word_32 rfl ?_
          refine wa_get (v := .ref (ad 7)) fx wm_X4 0 rfl rfl 9 (by decide) q_3_21 rfl rfl dX4_word_33 ?_
          refine wa_iload_n fx 2 dX4_word_36 rfl ?_
          refine wa_iald (f := st.1 6) fx 7 rfl dX4_word_37 h (fun h => ?_)
          refine wa_bipush fx (96 : Int32) dX4_word_38 (by decide) ?_
          refine wa_isub fx dX4_word_40 ?_
          refine wa_i2l fx dX4_word_41 ?_
          refine wa_ladd fx dX4_word_42 ?_
          refine wa_sub [0, 2] rfl ?_
          exact B43 (f_X4_word_l7 st n) ih x5 (((32 : Int64) * x4) + (Int32.toInt64 ((st.1 6 (Int32.toNatClampNeg x5)) - (96 : Int32)))) h
        · refine wa_lload_n fx 1 dX4_word_23 rfl ?_
          refine wa_goto fx 43 dX4_word_24 (by decide) ?_
          refine wa_sub [0, 2] rfl ?_
          exact B43 (f_X4_word_l7 st n) ih x5 x4 h
  refine wa_lconst fx (0 : Int64) dX4_word_0 (by decide) ?_
  refine wa_lstore_n fx [(1, .long (0 : Int64)), (0, .ref (ad 0))] dX4_word_1 rfl (by decide) rfl ?_
  refine wa_aload_n fx 1 dX4_word_2 rfl ?_
  refine wa_get (v := .int (st.2.2 4)) fx wm_X4 0 rfl rfl 11 (by decide) q_31_0 rfl rfl dX4_word_3 ?_
  refine wa_istore_nN fx (fun x1 => [(3, .int x1), (1, .long (0 : Int64)), (0, .ref (ad 0))]) dX4_word_6 rfl (by decide) (fun _ => rfl) h (fun x1 h => ?_)
  refine wa_sub [2, 1, 0] rfl ?_
  exact B7 200 (0 : Int64) x1 h
def f_X4_number_b79 (x16 : Int32) (x17 : Int32) (x18 : Int32) (x19 : Int32) (w20 : StT) : Option ((StT)) := nm (setF w20 6 x19) fun w21 => if x18 = 0 then (Option.bind (f_X4_must w21 (0 : Int32)) fun z22 => some z22) else (Option.bind (f_X4_in (Int32.toInt64 x19) (Int32.toInt64 x16) (Int32.toInt64 x17)) fun z23 => if z23 = 0 then (Option.bind (f_X4_must w21 (0 : Int32)) fun z24 => some z24) else (Option.bind (f_X4_must w21 (1 : Int32)) fun z25 => some z25))
def f_X4_number_b71 (k29 : (Int32) → (Int32) → (Int32) → (Int32) → (Int32) → (StT) → Option ((StT))) (x26 : Int32) (x27 : Int32) (x28 : Int32) (x29 : Int32) (x30 : Int32) (w31 : StT) : Option ((StT)) := nm (x29 + (1 : Int32)) fun x32 => k29 x26 x27 x28 x30 x32 w31
def f_X4_number_l29 : Nat → (Int32) → (Int32) → (Int32) → (Int32) → (Int32) → (StT) → Option ((StT))
  | 0, _, _, _, _, _, _ => none
  | n + 1, x10, x11, x12, x13, x14, w15 => if (w15.2.2 5) ≤ x14 then (f_X4_number_b79 x10 x11 x12 x13 w15) else (if x12 = 0 then (f_X4_number_b79 x10 x11 x12 x13 w15) else (if x13 ≤ (999 : Int32) then (ck x14 120 (f_X4_number_b71 (f_X4_number_l29 n) x10 x11 x12 x14 ((((10 : Int32) * x13) + (w15.1 6 (Int32.toNatClampNeg x14))) - (48 : Int32)) w15)) else (f_X4_number_b71 (f_X4_number_l29 n) x10 x11 x12 x14 x13 w15)))
def f_X4_number  (st : StT) (a1 : Int32) (a2 : Int32) : Option ((StT)) := if (st.2.2 7) = 0 then (Option.bind (f_X4_byteAt st (st.2.2 4)) fun z1 => Option.bind (f_X4_isDigit z1) fun z2 => nm (st.2.2 4) fun x3 => f_X4_number_l29 200 a1 a2 z2 (0 : Int32) x3 st) else (some st)
set_option maxHeartbeats 4000000 in
set_option maxRecDepth 100000 in
theorem c_X4_number {g : GT} {l : Launch} {ad : Nat → Nat}   {st : StT} {a1 : Int32} {a2 : Int32} {r : (StT)} (h : f_X4_number st a1 a2 = some r) : Ct g l yX4_number (wd yX4_number cX4_number 6 none) (rmh 5) [.ref (ad 0), .int a1, .int a2] (mo_ws g ad st) (mo_ws g ad r) none := by
  refine Ct.of (lv := [(0, .ref (ad 0)), (1, .int a1), (2, .int a2)]) (by decide) (Nat.le_of_ble_eq_true rfl) rfl (fun K hl fx hf => ?_)
  subst hl
  rw [f_X4_number] at h
  have B79 : ∀  (x16 : Int32) (x17 : Int32) (x18 : Int32) (x19 : Int32) (w20 : StT), f_X4_number_b79 x16 x17 x18 x19 w20 = some r → WA g K 6 0 0 79 [(0, .ref (ad 0)), (1, .int x16), (2, .int x17), (3, .int x18), (4, .int x19)] [] (mo_ws g ad w20) := by
    intro   x16 x17 x18 x19 w20 h
    rw [f_X4_number_b79] at h
    refine wa_aload_n fx 0 dX4_number_79 rfl ?_
    refine wa_iload fx 4 dX4_number_80 rfl ?_
    refine wa_put (mo_ws g ad) fx wm_X4 tyX4 tyX4_ok nmX4 0 rfl rfl 13 (by decide) q_33_13 rfl rfl rfl rfl (Nat.le_of_ble_eq_true rfl) dX4_number_82 h rfl (fun w21 h => ?_)
    refine wa_aload_n fx 0 dX4_number_85 rfl ?_
    refine wa_iload_n fx 3 dX4_number_86 rfl ?_
    refine wa_if_eq fx 107 dX4_number_87 (by decide) h (fun h => ?_) (fun h => ?_)
    · refine wa_iconst fx (0 : Int32) dX4_number_107 (by decide) ?_
      refine wa_V (b := ad 0) (rmc := (rmh 4)) (As := [.int (0 : Int32)]) (st := []) (wc := (mo_ws g ad w21)) (wr := ([] : va_W)) (wcz := fun z22 => mo_ws g ad z22) (w2 := fun z22 => mo_ws g ad z22) (o := fun _ => none) (s2 := fun z22 => []) (ci := 4) (q0 := 0) fx mm_X4_must q_33_5 dX4_number_108 h (fun _ hz => c_X4_must hz) rfl rfl (rm_ok (by decide) (by decide)) ⟨Nat.zero_le _, Nat.zero_le _⟩ rfl (List.Perm.refl _) (fun _ => List.Perm.refl _) rfl (Nat.le_of_ble_eq_true rfl) (fun _ => rfl) (fun z22 h => ?_)
      exact fn_v (mo_ws g ad) fx hf (Option.some.inj h) dX4_number_111
    · refine wa_iload fx 4 dX4_number_90 rfl ?_
      refine wa_i2l fx dX4_number_92 ?_
      refine wa_iload_n fx 1 dX4_number_93 rfl ?_
      refine wa_i2l fx dX4_number_94 ?_
      refine wa_iload_n fx 2 dX4_number_95 rfl ?_
      refine wa_i2l fx dX4_number_96 ?_
      refine wa_S (rmc := (rmh 1)) (As := [.long (Int32.toInt64 x19), .long (Int32.toInt64 x16), .long (Int32.toInt64 x17)]) (st := [.ref (ad 0)]) (wc := (no_ws ())) (wr := (mo_ws g ad w21)) (wcz := fun _ => (no_ws ())) (w2 := fun _ => (mo_ws g ad w21)) (o := fun z23 => some (.int z23)) (s2 := fun z23 => [.int z23, .ref (ad 0)]) fx mm_X4_in q_5_5 dX4_number_97 h (fun _ hz => c_X4_in hz) (rm_ok (by decide) (by decide)) ⟨Nat.zero_le _, Nat.zero_le _⟩ rfl (List.Perm.of_eq (List.append_nil _).symm) (fun _ => (List.Perm.of_eq (List.append_nil _).symm)) rfl (Nat.le_of_ble_eq_true rfl) (fun _ => rfl) (fun z23 h => ?_)
      refine wa_if_eq fx 107 dX4_number_100 (by decide) h (fun h => ?_) (fun h => ?_)
      · refine wa_iconst fx (0 : Int32) dX4_number_107 (by decide) ?_
        refine wa_V (b := ad 0) (rmc := (rmh 4)) (As := [.int (0 : Int32)]) (st := []) (wc := (mo_ws g ad w21)) (wr := ([] : va_W)) (wcz := fun z24 => mo_ws g ad z24) (w2 := fun z24 => mo_ws g ad z24) (o := fun _ => none) (s2 := fun z24 => []) (ci := 4) (q0 := 0) fx mm_X4_must q_33_5 dX4_number_108 h (fun _ hz => c_X4_must hz) rfl rfl (rm_ok (by decide) (by decide)) ⟨Nat.zero_le _, Nat.zero_le _⟩ rfl (List.Perm.refl _) (fun _ => List.Perm.refl _) rfl (Nat.le_of_ble_eq_true rfl) (fun _ => rfl) (fun z24 h => ?_)
        exact fn_v (mo_ws g ad) fx hf (Option.some.inj h) dX4_number_111
      · refine wa_iconst fx (1 : Int32) dX4_number_103 (by decide) ?_
        refine wa_goto fx 108 dX4_number_104 (by decide) ?_
        refine wa_V (b := ad 0) (rmc := (rmh 4)) (As := [.int (1 : Int32)]) (st := []) (wc := (mo_ws g ad w21)) (wr := ([] : va_W)) (wcz := fun z25 => mo_ws g ad z25) (w2 := fun z25 => mo_ws g ad z25) (o := fun _ => none) (s2 := fun z25 => []) (ci := 4) (q0 := 0) fx mm_X4_must q_33_5 dX4_number_108 h (fun _ hz => c_X4_must hz) rfl rfl (rm_ok (by decide) (by decide)) ⟨Nat.zero_le _, Nat.zero_le _⟩ rfl (List.Perm.refl _) (fun _ => List.Perm.refl _) rfl (Nat.le_of_ble_eq_true rfl) (fun _ => rfl) (fun z25 h => ?_)
        exact fn_v (mo_ws g ad) fx hf (Option.some.inj h) dX4_number_111
  have B71 : ∀ (k29 : (Int32) → (Int32) → (Int32) → (Int32) → (Int32) → (StT) → Option ((StT))) (Hk29 : ∀ (y4 : Int32) (y5 : Int32) (y6 : Int32) (y7 : Int32) (y8 : Int32) (w9 : StT), k29 y4 y5 y6 y7 y8 w9 = some r → WA g K 6 0 0 29 [(0, .ref (ad 0)), (1, .int y4), (2, .int y5), (3, .int y6), (4, .int y7), (5, .int y8)] [] (mo_ws g ad w9)) (x26 : Int32) (x27 : Int32) (x28 : Int32) (x29 : Int32) (x30 : Int32) (w31 : StT), f_X4_number_b71 k29 x26 x27 x28 x29 x30 w31 = some r → WA g K 6 0 0 71 [(0, .ref (ad 0)), (1, .int x26), (2, .int x27), (3, .int x28), (5, .int x29)] [.int x30] (mo_ws g ad w31) := by
    intro  k29 Hk29 x26 x27 x28 x29 x30 w31 h
    rw [f_X4_number_b71] at h
    refine wa_istore fx [(4, .int x30), (0, .ref (ad 0)), (1, .int x26), (2, .int x27), (3, .int x28), (5, .int x29)] dX4_number_71 (by decide) rfl ?_
    refine wa_iinc fx 5 (fun x32 => [(5, .int x32), (4, .int x30), (0, .ref (ad 0)), (1, .int x26), (2, .int x27), (3, .int x28)]) dX4_number_73 rfl (by rfl) (by decide) (fun _ => rfl) h (fun x32 h => ?_)
    refine wa_goto fx 29 dX4_number_76 (by decide) ?_
    refine wa_sub [2, 3, 4, 5, 1, 0] rfl ?_
    exact Hk29 x26 x27 x28 x30 x32 w31 h
  have B29 : ∀  (n : Nat) (x10 : Int32) (x11 : Int32) (x12 : Int32) (x13 : Int32) (x14 : Int32) (w15 : StT), f_X4_number_l29 n x10 x11 x12 x13 x14 w15 = some r → WA g K 6 0 0 29 [(0, .ref (ad 0)), (1, .int x10), (2, .int x11), (3, .int x12), (4, .int x13), (5, .int x14)] [] (mo_ws g ad w15) := by
    intro   n
    induction n with
    | zero => intro x10 x11 x12 x13 x14 w15 h; exact absurd h (by rw [f_X4_number_l29]; exact nofun)
    | succ n ih =>
      intro x10 x11 x12 x13 x14 w15 h
      rw [f_X4_number_l29] at h
      refine wa_iload fx 5 dX4_number_29 rfl ?_
      refine wa_aload_n fx 0 dX4_number_31 rfl ?_
      refine wa_get (v := .int (w15.2.2 5)) fx wm_X4 0 rfl rfl 12 (by decide) q_30_23 rfl rfl dX4_number_32 ?_
      refine wa_icmp_ge fx 79 dX4_number_35 (by decide) h (fun h => ?_) (fun h => ?_)
      · refine wa_sub [0, 1, 2, 3, 4] rfl ?_
        exact B79 x10 x11 x12 x13 w15 h
      · refine wa_iload_n fx 3 dX4_number_38 rfl ?_
        refine wa_if_eq fx 79 dX4_number_39 (by decide) h (fun h => ?_) (fun h => ?_)
        · refine wa_sub [0, 1, 2, 3, 4] rfl ?_
          exact B79 x10 x11 x12 x13 w15 h
        · refine wa_iload fx 4 dX4_number_42 rfl ?_
          refine wa_sipush fx (999 : Int32) dX4_number_44 (by decide) ?_
          refine wa_icmp_le fx 55 dX4_number_47 (by decide) h (fun h => ?_) (fun h => ?_)
          · refine wa_bipush fx (10 : Int32) dX4_number_55 (by decide) ?_
            refine wa_iload fx 4 dX4_number_57 rfl ?_
            refine wa_imul fx dX4_number_59 ?_
            refine wa_aload_n fx 0 dX4_number_60 rfl ?_
            refine wa_get (v := .ref (ad 7)) fx wm_X4 0 rfl rfl 9 (by decide) q_3_21 rfl rfl dX4_number_61 ?_
            refine wa_iload fx 5 dX4_number_64 rfl ?_
            refine wa_iald (f := w15.1 6) fx 7 rfl dX4_number_66 h (fun h => ?_)
            refine wa_iadd fx dX4_number_67 ?_
            refine wa_bipush fx (48 : Int32) dX4_number_68 (by decide) ?_
            refine wa_isub fx dX4_number_70 ?_
            refine wa_sub [0, 1, 2, 3, 5] rfl ?_
            exact B71 (f_X4_number_l29 n) ih x10 x11 x12 x14 ((((10 : Int32) * x13) + (w15.1 6 (Int32.toNatClampNeg x14))) - (48 : Int32)) w15 h
          · refine wa_iload fx 4 dX4_number_50 rfl ?_
            refine wa_goto fx 71 dX4_number_52 (by decide) ?_
            refine wa_sub [0, 1, 2, 3, 5] rfl ?_
            exact B71 (f_X4_number_l29 n) ih x10 x11 x12 x14 x13 w15 h
  refine wa_aload_n fx 0 dX4_number_0 rfl ?_
  refine wa_get (v := .int (st.2.2 7)) fx wm_X4 0 rfl rfl 14 (by decide) q_30_22 rfl rfl dX4_number_1 ?_
  refine wa_if_eq fx 8 dX4_number_4 (by decide) h (fun h => ?_) (fun h => ?_)
  · refine wa_aload_n fx 0 dX4_number_8 rfl ?_
    refine wa_aload_n fx 0 dX4_number_9 rfl ?_
    refine wa_get (v := .int (st.2.2 4)) fx wm_X4 0 rfl rfl 11 (by decide) q_31_0 rfl rfl dX4_number_10 ?_
    refine wa_V (b := ad 0) (rmc := (rmh 1)) (As := [.int (st.2.2 4)]) (st := []) (wc := (mo_ws g ad st)) (wr := ([] : va_W)) (wcz := fun _ => (mo_ws g ad st)) (w2 := fun _ => (mo_ws g ad st)) (o := fun z1 => some (.int z1)) (s2 := fun z1 => [.int z1]) (ci := 4) (q0 := 0) fx mm_X4_byteAt q_31_9 dX4_number_13 h (fun _ hz => c_X4_byteAt hz) rfl rfl (rm_ok (by decide) (by decide)) ⟨Nat.zero_le _, Nat.zero_le _⟩ rfl (List.Perm.refl _) (fun _ => (List.Perm.refl _)) rfl (Nat.le_of_ble_eq_true rfl) (fun _ => rfl) (fun z1 h => ?_)
    refine wa_S (rmc := (rmh 2)) (As := [.int z1]) (st := []) (wc := (no_ws ())) (wr := (mo_ws g ad st)) (wcz := fun _ => (no_ws ())) (w2 := fun _ => (mo_ws g ad st)) (o := fun z2 => some (.int z2)) (s2 := fun z2 => [.int z2]) fx mm_X4_isDigit q_31_18 dX4_number_16 h (fun _ hz => c_X4_isDigit hz) (rm_ok (by decide) (by decide)) ⟨Nat.zero_le _, Nat.zero_le _⟩ rfl (List.Perm.of_eq (List.append_nil _).symm) (fun _ => (List.Perm.of_eq (List.append_nil _).symm)) rfl (Nat.le_of_ble_eq_true rfl) (fun _ => rfl) (fun z2 h => ?_)
    refine wa_istore_n fx [(3, .int z2), (0, .ref (ad 0)), (1, .int a1), (2, .int a2)] dX4_number_19 rfl (by decide) rfl ?_
    refine wa_iconst fx (0 : Int32) dX4_number_20 (by decide) ?_
    refine wa_istore fx [(4, .int (0 : Int32)), (3, .int z2), (0, .ref (ad 0)), (1, .int a1), (2, .int a2)] dX4_number_21 (by decide) rfl ?_
    refine wa_aload_n fx 2 dX4_number_23 rfl ?_
    refine wa_get (v := .int (st.2.2 4)) fx wm_X4 0 rfl rfl 11 (by decide) q_31_0 rfl rfl dX4_number_24 ?_
    refine wa_istoreN fx (fun x3 => [(5, .int x3), (4, .int (0 : Int32)), (3, .int z2), (0, .ref (ad 0)), (1, .int a1), (2, .int a2)]) dX4_number_27 (by decide) (fun _ => rfl) h (fun x3 h => ?_)
    refine wa_sub [3, 4, 5, 2, 1, 0] rfl ?_
    exact B29 200 a1 a2 z2 (0 : Int32) x3 st h
  · exact fn_v (mo_ws g ad) fx hf (Option.some.inj h) dX4_number_7
