def f_X3_goesAsTold_l2 (k : Nat) : Nat → (Int32) → (Int32) → (Nat → StT) → Option (Int32 × (Nat → StT))
  | 0, _, _, _ => none
  | n + 1, x4, x5, w6 => if ((w6 (5 + k)).2.2 1) ≤ x5 then (some ((1 : Int32), w6)) else (ck x5 40 (ck x4 8 (if (lg_cmp ((w6 (5 + k)).2.1 0 (Int32.toNatClampNeg x5)) (Int32.toInt64 ((w6 2).1 8 (Int32.toNatClampNeg x4)))) = 0 then (Option.bind (f_X0_passOne (w6 2)) fun z7 => nm (gset w6 2 z7.2) fun w8 => nm (x5 + (1 : Int32)) fun x9 => (f_X3_goesAsTold_l2 k n) x4 x9 w8) else (some ((0 : Int32), w6)))))
def f_X3_goesAsTold (k : Nat) (G : Nat → StT) (a2 : Int32) : Option (Int32 × (Nat → StT)) := f_X3_goesAsTold_l2 k 200 a2 (0 : Int32) G
set_option maxHeartbeats 4000000 in
set_option maxRecDepth 100000 in
theorem c_X3_goesAsTold {g : GT} {l : Launch} {ad : Nat → Nat} {k : Nat} (hk_k : k < 4) {G : Nat → StT} {a2 : Int32} {r : Int32 × (Nat → StT)} (h : f_X3_goesAsTold k G a2 = some r) : Ct g l yX3_goesAsTold (wd yX3_goesAsTold cX3_goesAsTold 4 (some .boolean)) (rmh 6) [.ref (ad 0), .ref (adr ad (34 + 2 * k) 0), .int a2] (wc_ws g ad G) (wc_ws g ad r.2) (some (.int r.1)) := by
  refine Ct.of (lv := [(0, .ref (ad 0)), (1, .ref (adr ad (34 + 2 * k) 0)), (2, .int a2)]) (by decide) (Nat.le_of_ble_eq_true rfl) rfl (fun K hl fx hf => ?_)
  subst hl
  rw [f_X3_goesAsTold] at h
  have B2 : ∀  (n : Nat) (x4 : Int32) (x5 : Int32) (w6 : Nat → StT), f_X3_goesAsTold_l2 k n x4 x5 w6 = some r → WA g K 4 0 0 2 [(0, .ref (ad 0)), (1, .ref (adr ad (34 + 2 * k) 0)), (2, .int x4), (3, .int x5)] [] (wc_ws g ad w6) := by
    intro   n
    induction n with
    | zero => intro x4 x5 w6 h; exact absurd h (by rw [f_X3_goesAsTold_l2]; exact nofun)
    | succ n ih =>
      intro x4 x5 w6 h
      rw [f_X3_goesAsTold_l2] at h
      refine wa_iload_n fx 3 dX3_goesAsTold_2 rfl ?_
      refine wa_aload_n fx 1 dX3_goesAsTold_3 rfl ?_
      refine wa_get (v := .int ((w6 (5 + k)).2.2 1)) fx wm_X1 (36 + 2 * k) (gs_o g ad w6 hk_k) rfl 2 (by decide) q_35_12 rfl rfl dX3_goesAsTold_4 ?_
      refine wa_icmp_ge fx 46 dX3_goesAsTold_7 (by decide) h (fun h => ?_) (fun h => ?_)
      · refine wa_iconst fx (1 : Int32) dX3_goesAsTold_46 (by decide) ?_
        exact fn_z (wc_ws g ad) fx hf (by decide) (sn1 h) (sn2 h) dX3_goesAsTold_47
      · refine wa_aload_n fx 1 dX3_goesAsTold_10 rfl ?_
        refine wa_get (v := .ref ((adr ad (34 + 2 * k)) 1)) fx wm_X1 (36 + 2 * k) (gs_o g ad w6 hk_k) rfl 0 (by decide) q_35_13 rfl rfl dX3_goesAsTold_11 ?_
        refine wa_iload_n fx 3 dX3_goesAsTold_14 rfl ?_
        refine wa_lald (f := (w6 (5 + k)).2.1 0) fx (37 + 2 * k) (gs_n g ad w6 hk_k) dX3_goesAsTold_15 h (fun h => ?_)
        refine wa_aload_n fx 0 dX3_goesAsTold_16 rfl ?_
        refine wa_get (v := .ref ((adr ad 11) 0)) fx wm_X3 0 rfl rfl 1 (by decide) q_1_17 rfl rfl dX3_goesAsTold_17 ?_
        refine wa_get (v := .ref ((adr ad 11) 9)) fx wm_X0 14 rfl rfl 8 (by decide) q_8_4 rfl rfl dX3_goesAsTold_20 ?_
        refine wa_iload_n fx 2 dX3_goesAsTold_23 rfl ?_
        refine wa_iald (f := (w6 2).1 8) fx 23 rfl dX3_goesAsTold_24 h (fun h => ?_)
        refine wa_i2l fx dX3_goesAsTold_25 ?_
        refine wa_lcmp fx dX3_goesAsTold_26 ?_
        refine wa_if_eq fx 32 dX3_goesAsTold_27 (by decide) h (fun h => ?_) (fun h => ?_)
        · refine wa_aload_n fx 0 dX3_goesAsTold_32 rfl ?_
          refine wa_get (v := .ref ((adr ad 11) 0)) fx wm_X3 0 rfl rfl 1 (by decide) q_1_17 rfl rfl dX3_goesAsTold_33 ?_
          refine wa_V (b := (adr ad 11) 0) (rmc := (rmh 5)) (As := []) (st := []) (wc := (rm_ws g (adr ad 11) (w6 2))) (wr := (wr2 g ad w6)) (wcz := fun z7 => rm_ws g (adr ad 11) z7.2) (w2 := fun z7 => wc_ws g ad (gset w6 2 z7.2)) (o := fun z7 => some (.int z7.1)) (s2 := fun z7 => [.int z7.1]) (ci := 0) (q0 := 0) fx mm_X0_passOne q_20_8 dX3_goesAsTold_36 h (fun _ hz => c_X0_passOne hz) rfl rfl (rm_ok (by decide) (by decide)) ⟨Nat.zero_le _, Nat.zero_le _⟩ rfl (sq2 g ad w6) (fun _ => sp2 g ad w6 _) rfl (Nat.le_of_ble_eq_true rfl) (fun _ => rfl) (fun z7 h => ?_)
          refine nm_w (wc_ws g ad) h (fun w8 h => ?_)
          refine wa_pop fx dX3_goesAsTold_39 rfl ?_
          refine wa_iinc fx 3 (fun x9 => [(3, .int x9), (0, .ref (ad 0)), (1, .ref (adr ad (34 + 2 * k) 0)), (2, .int x4)]) dX3_goesAsTold_40 rfl (by rfl) (by decide) (fun _ => rfl) h (fun x9 h => ?_)
          refine wa_goto fx 2 dX3_goesAsTold_43 (by decide) ?_
          refine wa_sub [1, 2, 3, 0] rfl ?_
          exact ih x4 x9 w8 h
        · refine wa_iconst fx (0 : Int32) dX3_goesAsTold_30 (by decide) ?_
          exact fn_z (wc_ws g ad) fx hf (by decide) (sn1 h) (sn2 h) dX3_goesAsTold_31
  refine wa_iconst fx (0 : Int32) dX3_goesAsTold_0 (by decide) ?_
  refine wa_istore_n fx [(3, .int (0 : Int32)), (0, .ref (ad 0)), (1, .ref (adr ad (34 + 2 * k) 0)), (2, .int a2)] dX3_goesAsTold_1 rfl (by decide) rfl ?_
  refine wa_sub [1, 2, 3, 0] rfl ?_
  exact B2 200 a2 (0 : Int32) G h
def f_X3_read_b115 (k2 : Nat) (k63 : (Int32) → (Int32) → (Int32) → (Int32) → (Nat → StT) → Option (Int32 × (Nat → StT))) (x29 : Int32) (x30 : Int32) (x31 : Int32) (x32 : Int32) (w33 : Nat → StT) : Option (Int32 × (Nat → StT)) := nm (x32 + (1 : Int32)) fun x34 => k63 x29 x30 x31 x34 w33
def f_X3_read_l63 (k2 : Nat) (k53 : (Int32) → (Int32) → (Int32) → (Nat → StT) → Option (Int32 × (Nat → StT))) : Nat → (Int32) → (Int32) → (Int32) → (Int32) → (Nat → StT) → Option (Int32 × (Nat → StT))
  | 0, _, _, _, _, _ => none
  | n + 1, x18, x19, x20, x21, w22 => if (8 : Int32) ≤ x21 then (nm (x20 + (1 : Int32)) fun x23 => k53 x18 x19 x23 w22) else (Option.bind (f_X0_become (w22 2, w22 1)) fun z24 => nm (gset (gset w22 2 z24.1) 1 z24.2) fun w25 => ck x18 8 (nm (gset w25 2 (setA (w25 2) 3 (upd ((w25 2).1 3) (Int32.toNatClampNeg x18) x20))) fun w26 => ck x18 8 (nm (gset w26 2 (setA (w26 2) 5 (upd ((w26 2).1 5) (Int32.toNatClampNeg x18) x21))) fun w27 => Option.bind (f_X3_goesAsTold k2 w27 x18) fun z28 => if z28.1 = 0 then (f_X3_read_b115 k2 (f_X3_read_l63 k2 k53 n) x18 x19 x20 x21 z28.2) else (nm (x19 + (1 : Int32)) fun x35 => f_X3_read_b115 k2 (f_X3_read_l63 k2 k53 n) x18 x35 x20 x21 z28.2))))
def f_X3_read_l53 (k2 : Nat) : Nat → (Int32) → (Int32) → (Int32) → (Nat → StT) → Option (Int32 × (Nat → StT))
  | 0, _, _, _, _ => none
  | n + 1, x9, x10, x11, w12 => if (6 : Int32) ≤ x11 then (some (x10, w12)) else (f_X3_read_l63 k2 (f_X3_read_l53 k2 n) 200 x9 x10 x11 (-1 : Int32) w12)
def f_X3_read  (G : Nat → StT) (a1 : Int32) (a2 : Int32) : Option (Int32 × (Nat → StT)) := Option.bind (f_X3_isSheet a1) fun z1 => if z1 = 0 then (Option.bind (f_X3_finding G (0 : Int32)) fun z38 => some (z38.1, z38.2)) else (ck a1 4 (nm (Int32.toNatClampNeg a1) fun k2 => Option.bind (f_X1_isMissing (G (5 + k2))) fun z3 => if z3 = 0 then (Option.bind (f_X3_isThere G a2) fun z4 => if z4 = 0 then (Option.bind (f_X3_finding G (0 : Int32)) fun z36 => some (z36.1, z36.2)) else (f_X3_read_l53 k2 200 a2 (0 : Int32) (0 : Int32) G)) else (Option.bind (f_X3_finding G (5 : Int32)) fun z37 => some (z37.1, z37.2))))
set_option maxHeartbeats 4000000 in
set_option maxRecDepth 100000 in
theorem c_X3_read {g : GT} {l : Launch} {ad : Nat → Nat}   {G : Nat → StT} {a1 : Int32} {a2 : Int32} {r : Int32 × (Nat → StT)} (h : f_X3_read G a1 a2 = some r) : Ct g l yX3_read (wd yX3_read cX3_read 7 (some .int)) (rmh 7) [.ref (ad 0), .int a1, .int a2] (wc_ws g ad G) (wc_ws g ad r.2) (some (.int r.1)) := by
  refine Ct.of (lv := [(0, .ref (ad 0)), (1, .int a1), (2, .int a2)]) (by decide) (Nat.le_of_ble_eq_true rfl) rfl (fun K hl fx hf => ?_)
  subst hl
  rw [f_X3_read] at h
  have B115 : ∀ (k2 : Nat) (hk_k2 : k2 < 4) (k63 : (Int32) → (Int32) → (Int32) → (Int32) → (Nat → StT) → Option (Int32 × (Nat → StT))) (Hk63 : ∀ (y13 : Int32) (y14 : Int32) (y15 : Int32) (y16 : Int32) (w17 : Nat → StT), k63 y13 y14 y15 y16 w17 = some r → WA g K 7 0 0 63 [(0, .ref (ad 0)), (2, .int y13), (3, .ref (adr ad (34 + 2 * k2) 0)), (4, .int y14), (5, .int y15), (6, .int y16)] [] (wc_ws g ad w17)) (x29 : Int32) (x30 : Int32) (x31 : Int32) (x32 : Int32) (w33 : Nat → StT), f_X3_read_b115 k2 k63 x29 x30 x31 x32 w33 = some r → WA g K 7 0 0 115 [(0, .ref (ad 0)), (2, .int x29), (3, .ref (adr ad (34 + 2 * k2) 0)), (4, .int x30), (5, .int x31), (6, .int x32)] [] (wc_ws g ad w33) := by
    intro k2 hk_k2 k63 Hk63 x29 x30 x31 x32 w33 h
    rw [f_X3_read_b115] at h
    refine wa_iinc fx 5 (fun x34 => [(6, .int x34), (0, .ref (ad 0)), (2, .int x29), (3, .ref (adr ad (34 + 2 * k2) 0)), (4, .int x30), (5, .int x31)]) dX3_read_115 rfl (by rfl) (by decide) (fun _ => rfl) h (fun x34 h => ?_)
    refine wa_goto fx 63 dX3_read_118 (by decide) ?_
    refine wa_sub [1, 2, 3, 4, 5, 0] rfl ?_
    exact Hk63 x29 x30 x31 x34 w33 h
  have B63 : ∀ (k2 : Nat) (hk_k2 : k2 < 4) (k53 : (Int32) → (Int32) → (Int32) → (Nat → StT) → Option (Int32 × (Nat → StT))) (Hk53 : ∀ (y5 : Int32) (y6 : Int32) (y7 : Int32) (w8 : Nat → StT), k53 y5 y6 y7 w8 = some r → WA g K 7 0 0 53 [(0, .ref (ad 0)), (2, .int y5), (3, .ref (adr ad (34 + 2 * k2) 0)), (4, .int y6), (5, .int y7)] [] (wc_ws g ad w8)) (n : Nat) (x18 : Int32) (x19 : Int32) (x20 : Int32) (x21 : Int32) (w22 : Nat → StT), f_X3_read_l63 k2 k53 n x18 x19 x20 x21 w22 = some r → WA g K 7 0 0 63 [(0, .ref (ad 0)), (2, .int x18), (3, .ref (adr ad (34 + 2 * k2) 0)), (4, .int x19), (5, .int x20), (6, .int x21)] [] (wc_ws g ad w22) := by
    intro k2 hk_k2 k53 Hk53 n
    induction n with
    | zero => intro x18 x19 x20 x21 w22 h; exact absurd h (by rw [f_X3_read_l63]; exact nofun)
    | succ n ih =>
      intro x18 x19 x20 x21 w22 h
      rw [f_X3_read_l63] at h
      refine wa_iload fx 5 dX3_read_63 rfl ?_
      refine wa_bipush fx (8 : Int32) dX3_read_65 (by decide) ?_
      refine wa_icmp_ge fx 121 dX3_read_67 (by decide) h (fun h => ?_) (fun h => ?_)
      · refine wa_iinc fx 4 (fun x23 => [(5, .int x23), (0, .ref (ad 0)), (2, .int x18), (3, .ref (adr ad (34 + 2 * k2) 0)), (4, .int x19), (6, .int x21)]) dX3_read_121 rfl (by rfl) (by decide) (fun _ => rfl) h (fun x23 h => ?_)
        refine wa_goto fx 53 dX3_read_124 (by decide) ?_
        refine wa_sub [1, 2, 3, 4, 0] rfl ?_
        exact Hk53 x18 x19 x23 w22 h
      · refine wa_aload_n fx 0 dX3_read_70 rfl ?_
        refine wa_get (v := .ref ((adr ad 11) 0)) fx wm_X3 0 rfl rfl 1 (by decide) q_1_17 rfl rfl dX3_read_71 ?_
        refine wa_aload_n fx 0 dX3_read_74 rfl ?_
        refine wa_get (v := .ref ((adr ad 1) 0)) fx wm_X3 0 rfl rfl 0 (by decide) q_1_16 rfl rfl dX3_read_75 ?_
        refine wa_V (b := (adr ad 11) 0) (rmc := (rmh 2)) (As := [.ref ((adr ad 1) 0)]) (st := []) (wc := (bb_ws g (adr ad 11) (adr ad 1) (w22 2, w22 1))) (wr := (wr21 g ad w22)) (wcz := fun z24 => bb_ws g (adr ad 11) (adr ad 1) z24) (w2 := fun z24 => wc_ws g ad (gset (gset w22 2 z24.1) 1 z24.2)) (o := fun _ => none) (s2 := fun z24 => []) (ci := 0) (q0 := 0) fx mm_X0_become q_18_20 dX3_read_78 h (fun _ hz => c_X0_become hz) rfl rfl (rm_ok (by decide) (by decide)) ⟨Nat.zero_le _, Nat.zero_le _⟩ rfl (sq21 g ad w22) (fun _ => sp21 g ad w22 _) rfl (Nat.le_of_ble_eq_true rfl) (fun _ => rfl) (fun z24 h => ?_)
        refine nm_w (wc_ws g ad) h (fun w25 h => ?_)
        refine wa_aload_n fx 0 dX3_read_81 rfl ?_
        refine wa_get (v := .ref ((adr ad 11) 0)) fx wm_X3 0 rfl rfl 1 (by decide) q_1_17 rfl rfl dX3_read_82 ?_
        refine wa_get (v := .ref ((adr ad 11) 4)) fx wm_X0 14 rfl rfl 3 (by decide) q_7_23 rfl rfl dX3_read_85 ?_
        refine wa_iload_n fx 1 dX3_read_88 rfl ?_
        refine wa_iload fx 4 dX3_read_89 rfl ?_
        refine wa_iast (wc_ws g ad) (f := (w25 2).1 3) fx 18 rfl dX3_read_91 h rfl (fun w26 h => ?_)
        refine wa_aload_n fx 0 dX3_read_92 rfl ?_
        refine wa_get (v := .ref ((adr ad 11) 0)) fx wm_X3 0 rfl rfl 1 (by decide) q_1_17 rfl rfl dX3_read_93 ?_
        refine wa_get (v := .ref ((adr ad 11) 6)) fx wm_X0 14 rfl rfl 5 (by decide) q_8_1 rfl rfl dX3_read_96 ?_
        refine wa_iload_n fx 1 dX3_read_99 rfl ?_
        refine wa_iload fx 5 dX3_read_100 rfl ?_
        refine wa_iast (wc_ws g ad) (f := (w26 2).1 5) fx 20 rfl dX3_read_102 h rfl (fun w27 h => ?_)
        refine wa_aload_n fx 0 dX3_read_103 rfl ?_
        refine wa_aload_n fx 2 dX3_read_104 rfl ?_
        refine wa_iload_n fx 1 dX3_read_105 rfl ?_
        refine wa_V (b := ad 0) (rmc := (rmh 6)) (As := [.ref (adr ad (34 + 2 * k2) 0), .int x18]) (st := []) (wc := (wc_ws g ad w27)) (wr := ([] : va_W)) (wcz := fun z28 => wc_ws g ad z28.2) (w2 := fun z28 => wc_ws g ad z28.2) (o := fun z28 => some (.int z28.1)) (s2 := fun z28 => [.int z28.1]) (ci := 3) (q0 := 0) fx mm_X3_goesAsTold q_38_1 dX3_read_106 h (fun _ hz => c_X3_goesAsTold hk_k2 hz) rfl rfl (rm_ok (by decide) (by decide)) ⟨Nat.zero_le _, Nat.zero_le _⟩ rfl (List.Perm.refl _) (fun _ => List.Perm.refl _) rfl (Nat.le_of_ble_eq_true rfl) (fun _ => rfl) (fun z28 h => ?_)
        refine wa_if_eq fx 115 dX3_read_109 (by decide) h (fun h => ?_) (fun h => ?_)
        · refine wa_sub [0, 1, 2, 3, 4, 5] rfl ?_
          exact B115 k2 hk_k2 (f_X3_read_l63 k2 k53 n) ih x18 x19 x20 x21 z28.2 h
        · refine wa_iinc fx 3 (fun x35 => [(4, .int x35), (0, .ref (ad 0)), (2, .int x18), (3, .ref (adr ad (34 + 2 * k2) 0)), (5, .int x20), (6, .int x21)]) dX3_read_112 rfl (by rfl) (by decide) (fun _ => rfl) h (fun x35 h => ?_)
          refine wa_sub [1, 2, 3, 0, 4, 5] rfl ?_
          exact B115 k2 hk_k2 (f_X3_read_l63 k2 k53 n) ih x18 x35 x20 x21 z28.2 h
  have B53 : ∀ (k2 : Nat) (hk_k2 : k2 < 4)  (n : Nat) (x9 : Int32) (x10 : Int32) (x11 : Int32) (w12 : Nat → StT), f_X3_read_l53 k2 n x9 x10 x11 w12 = some r → WA g K 7 0 0 53 [(0, .ref (ad 0)), (2, .int x9), (3, .ref (adr ad (34 + 2 * k2) 0)), (4, .int x10), (5, .int x11)] [] (wc_ws g ad w12) := by
    intro k2 hk_k2  n
    induction n with
    | zero => intro x9 x10 x11 w12 h; exact absurd h (by rw [f_X3_read_l53]; exact nofun)
    | succ n ih =>
      intro x9 x10 x11 w12 h
      rw [f_X3_read_l53] at h
      refine wa_iload fx 4 dX3_read_53 rfl ?_
      refine wa_bipush fx (6 : Int32) dX3_read_55 (by decide) ?_
      refine wa_icmp_ge fx 127 dX3_read_57 (by decide) h (fun h => ?_) (fun h => ?_)
      · refine wa_iload fx 3 dX3_read_127 rfl ?_
        exact fn_i (wc_ws g ad) fx hf (sn1 h) (sn2 h) dX3_read_129
      · refine wa_iconst fx (-1 : Int32) dX3_read_60 (by decide) ?_
        refine wa_istore fx [(6, .int (-1 : Int32)), (0, .ref (ad 0)), (2, .int x9), (3, .ref (adr ad (34 + 2 * k2) 0)), (4, .int x10), (5, .int x11)] dX3_read_61 (by decide) rfl ?_
        refine wa_sub [1, 2, 3, 4, 5, 0] rfl ?_
        exact B63 k2 hk_k2 (f_X3_read_l53 k2 n) ih 200 x9 x10 x11 (-1 : Int32) w12 h
  refine wa_iload_n fx 1 dX3_read_0 rfl ?_
  refine wa_S (rmc := (rmh 2)) (As := [.int a1]) (st := []) (wc := (no_ws ())) (wr := (wc_ws g ad G)) (wcz := fun _ => (no_ws ())) (w2 := fun _ => (wc_ws g ad G)) (o := fun z1 => some (.int z1)) (s2 := fun z1 => [.int z1]) fx mm_X3_isSheet q_34_12 dX3_read_1 h (fun _ hz => c_X3_isSheet hz) (rm_ok (by decide) (by decide)) ⟨Nat.zero_le _, Nat.zero_le _⟩ rfl (List.Perm.of_eq (List.append_nil _).symm) (fun _ => (List.Perm.of_eq (List.append_nil _).symm)) rfl (Nat.le_of_ble_eq_true rfl) (fun _ => rfl) (fun z1 h => ?_)
  refine wa_if_ne fx 13 dX3_read_4 (by decide) h (fun h => ?_) (fun h => ?_)
  · refine wa_aload_n fx 0 dX3_read_7 rfl ?_
    refine wa_iconst fx (0 : Int32) dX3_read_8 (by decide) ?_
    refine wa_V (b := ad 0) (rmc := (rmh 1)) (As := [.int (0 : Int32)]) (st := []) (wc := (wc_ws g ad G)) (wr := ([] : va_W)) (wcz := fun z38 => wc_ws g ad z38.2) (w2 := fun z38 => wc_ws g ad z38.2) (o := fun z38 => some (.int z38.1)) (s2 := fun z38 => [.int z38.1]) (ci := 3) (q0 := 0) fx mm_X3_finding q_4_17 dX3_read_9 h (fun _ hz => c_X3_finding hz) rfl rfl (rm_ok (by decide) (by decide)) ⟨Nat.zero_le _, Nat.zero_le _⟩ rfl (List.Perm.refl _) (fun _ => List.Perm.refl _) rfl (Nat.le_of_ble_eq_true rfl) (fun _ => rfl) (fun z38 h => ?_)
    exact fn_i (wc_ws g ad) fx hf (sn1 h) (sn2 h) dX3_read_12
  · refine wa_aload_n fx 0 dX3_read_13 rfl ?_
    refine wa_get (v := .ref (ad 33)) fx wm_X3 0 rfl rfl 5 (by decide) q_2_1 rfl rfl dX3_read_14 ?_
    refine wa_iload_n fx 1 dX3_read_17 rfl ?_
    refine wa_aaldN ad fx dX3_read_18 h (fun k2 hk_k2 h => ?_)
    refine wa_astore_n fx [(3, .ref (adr ad (34 + 2 * k2) 0)), (0, .ref (ad 0)), (1, .int a1), (2, .int a2)] dX3_read_19 rfl (by decide) rfl ?_
    refine wa_aload_n fx 0 dX3_read_20 rfl ?_
    refine wa_V (b := adr ad (34 + 2 * k2) 0) (rmc := (rmh 1)) (As := []) (st := []) (wc := (sh_ws g (adr ad (34 + 2 * k2)) (G (5 + k2)))) (wr := (wrs g ad G k2)) (wcz := fun _ => (sh_ws g (adr ad (34 + 2 * k2)) (G (5 + k2)))) (w2 := fun _ => (wc_ws g ad G)) (o := fun z3 => some (.int z3)) (s2 := fun z3 => [.int z3]) (ci := 1) (q0 := 0) fx mm_X1_isMissing q_35_14 dX3_read_21 h (fun _ hz => c_X1_isMissing hz) rfl rfl (rm_ok (by decide) (by decide)) ⟨Nat.zero_le _, Nat.zero_le _⟩ rfl (sqs g ad G hk_k2) (fun _ => (sqs g ad G hk_k2)) rfl (Nat.le_of_ble_eq_true rfl) (fun _ => rfl) (fun z3 h => ?_)
    refine wa_if_eq fx 33 dX3_read_24 (by decide) h (fun h => ?_) (fun h => ?_)
    · refine wa_aload_n fx 1 dX3_read_33 rfl ?_
      refine wa_iload_n fx 3 dX3_read_34 rfl ?_
      refine wa_V (b := ad 0) (rmc := (rmh 2)) (As := [.int a2]) (st := []) (wc := (wc_ws g ad G)) (wr := ([] : va_W)) (wcz := fun _ => (wc_ws g ad G)) (w2 := fun _ => (wc_ws g ad G)) (o := fun z4 => some (.int z4)) (s2 := fun z4 => [.int z4]) (ci := 3) (q0 := 0) fx mm_X3_isThere q_8_5 dX3_read_35 h (fun _ hz => c_X3_isThere hz) rfl rfl (rm_ok (by decide) (by decide)) ⟨Nat.zero_le _, Nat.zero_le _⟩ rfl (List.Perm.refl _) (fun _ => (List.Perm.refl _)) rfl (Nat.le_of_ble_eq_true rfl) (fun _ => rfl) (fun z4 h => ?_)
      refine wa_if_ne fx 47 dX3_read_38 (by decide) h (fun h => ?_) (fun h => ?_)
      · refine wa_aload_n fx 1 dX3_read_41 rfl ?_
        refine wa_iconst fx (0 : Int32) dX3_read_42 (by decide) ?_
        refine wa_V (b := ad 0) (rmc := (rmh 1)) (As := [.int (0 : Int32)]) (st := []) (wc := (wc_ws g ad G)) (wr := ([] : va_W)) (wcz := fun z36 => wc_ws g ad z36.2) (w2 := fun z36 => wc_ws g ad z36.2) (o := fun z36 => some (.int z36.1)) (s2 := fun z36 => [.int z36.1]) (ci := 3) (q0 := 0) fx mm_X3_finding q_4_17 dX3_read_43 h (fun _ hz => c_X3_finding hz) rfl rfl (rm_ok (by decide) (by decide)) ⟨Nat.zero_le _, Nat.zero_le _⟩ rfl (List.Perm.refl _) (fun _ => List.Perm.refl _) rfl (Nat.le_of_ble_eq_true rfl) (fun _ => rfl) (fun z36 h => ?_)
        exact fn_i (wc_ws g ad) fx hf (sn1 h) (sn2 h) dX3_read_46
      · refine wa_iconst fx (0 : Int32) dX3_read_47 (by decide) ?_
        refine wa_istore fx [(4, .int (0 : Int32)), (3, .ref (adr ad (34 + 2 * k2) 0)), (0, .ref (ad 0)), (1, .int a1), (2, .int a2)] dX3_read_48 (by decide) rfl ?_
        refine wa_iconst fx (0 : Int32) dX3_read_50 (by decide) ?_
        refine wa_istore fx [(5, .int (0 : Int32)), (4, .int (0 : Int32)), (3, .ref (adr ad (34 + 2 * k2) 0)), (0, .ref (ad 0)), (1, .int a1), (2, .int a2)] dX3_read_51 (by decide) rfl ?_
        refine wa_sub [3, 5, 2, 1, 0] rfl ?_
        exact B53 k2 hk_k2 200 a2 (0 : Int32) (0 : Int32) G h
    · refine wa_aload_n fx 1 dX3_read_27 rfl ?_
      refine wa_iconst fx (5 : Int32) dX3_read_28 (by decide) ?_
      refine wa_V (b := ad 0) (rmc := (rmh 1)) (As := [.int (5 : Int32)]) (st := []) (wc := (wc_ws g ad G)) (wr := ([] : va_W)) (wcz := fun z37 => wc_ws g ad z37.2) (w2 := fun z37 => wc_ws g ad z37.2) (o := fun z37 => some (.int z37.1)) (s2 := fun z37 => [.int z37.1]) (ci := 3) (q0 := 0) fx mm_X3_finding q_4_17 dX3_read_29 h (fun _ hz => c_X3_finding hz) rfl rfl (rm_ok (by decide) (by decide)) ⟨Nat.zero_le _, Nat.zero_le _⟩ rfl (List.Perm.refl _) (fun _ => List.Perm.refl _) rfl (Nat.le_of_ble_eq_true rfl) (fun _ => rfl) (fun z37 h => ?_)
      exact fn_i (wc_ws g ad) fx hf (sn1 h) (sn2 h) dX3_read_32
def f_X3_image  (G : Nat → StT) : Option (Int32 × (Nat → StT)) := Option.bind (f_X0_become (G 3, G 1)) fun z1 => nm (gset (gset G 3 z1.1) 1 z1.2) fun w2 => nm (gset w2 0 (setF (w2 0) 0 (1 : Int32))) fun w3 => some ((1 : Int32), w3)
set_option maxHeartbeats 4000000 in
set_option maxRecDepth 100000 in
theorem c_X3_image {g : GT} {l : Launch} {ad : Nat → Nat}   {G : Nat → StT} {r : Int32 × (Nat → StT)} (h : f_X3_image G = some r) : Ct g l yX3_image (wd yX3_image cX3_image 1 (some .int)) (rmh 3) [.ref (ad 0)] (wc_ws g ad G) (wc_ws g ad r.2) (some (.int r.1)) := by
  refine Ct.of (lv := [(0, .ref (ad 0))]) (by decide) (Nat.le_of_ble_eq_true rfl) rfl (fun K hl fx hf => ?_)
  subst hl
  rw [f_X3_image] at h
  refine wa_aload_n fx 0 dX3_image_0 rfl ?_
  refine wa_get (v := .ref ((adr ad 21) 0)) fx wm_X3 0 rfl rfl 2 (by decide) q_1_18 rfl rfl dX3_image_1 ?_
  refine wa_aload_n fx 0 dX3_image_4 rfl ?_
  refine wa_get (v := .ref ((adr ad 1) 0)) fx wm_X3 0 rfl rfl 0 (by decide) q_1_16 rfl rfl dX3_image_5 ?_
  refine wa_V (b := (adr ad 21) 0) (rmc := (rmh 2)) (As := [.ref ((adr ad 1) 0)]) (st := []) (wc := (bb_ws g (adr ad 21) (adr ad 1) (G 3, G 1))) (wr := (wr31 g ad G)) (wcz := fun z1 => bb_ws g (adr ad 21) (adr ad 1) z1) (w2 := fun z1 => wc_ws g ad (gset (gset G 3 z1.1) 1 z1.2)) (o := fun _ => none) (s2 := fun z1 => []) (ci := 0) (q0 := 0) fx mm_X0_become q_18_20 dX3_image_8 h (fun _ hz => c_X0_become hz) rfl rfl (rm_ok (by decide) (by decide)) ⟨Nat.zero_le _, Nat.zero_le _⟩ rfl (sq31 g ad G) (fun _ => sp31 g ad G _) rfl (Nat.le_of_ble_eq_true rfl) (fun _ => rfl) (fun z1 h => ?_)
  refine nm_w (wc_ws g ad) h (fun w2 h => ?_)
  refine wa_aload_n fx 0 dX3_image_11 rfl ?_
  refine wa_iconst fx (1 : Int32) dX3_image_12 (by decide) ?_
  refine wa_put (wc_ws g ad) fx wm_X3 tyX3 tyX3_ok nmX3 0 rfl rfl 3 (by decide) q_1_19 rfl rfl (by decide) (by decide) (Nat.le_of_ble_eq_true rfl) dX3_image_13 h rfl (fun w3 h => ?_)
  refine wa_iconst fx (1 : Int32) dX3_image_16 (by decide) ?_
  exact fn_i (wc_ws g ad) fx hf (sn1 h) (sn2 h) dX3_image_17
def f_X3_undo  (G : Nat → StT) : Option (Int32 × (Nat → StT)) := if ((G 0).2.2 0) = 0 then (Option.bind (f_X3_finding G (3 : Int32)) fun z3 => some (z3.1, z3.2)) else (Option.bind (f_X0_become (G 1, G 3)) fun z1 => nm (gset (gset G 1 z1.1) 3 z1.2) fun w2 => some (((w2 1).2.2 0), w2))
set_option maxHeartbeats 4000000 in
set_option maxRecDepth 100000 in
theorem c_X3_undo {g : GT} {l : Launch} {ad : Nat → Nat}   {G : Nat → StT} {r : Int32 × (Nat → StT)} (h : f_X3_undo G = some r) : Ct g l yX3_undo (wd yX3_undo cX3_undo 1 (some .int)) (rmh 3) [.ref (ad 0)] (wc_ws g ad G) (wc_ws g ad r.2) (some (.int r.1)) := by
  refine Ct.of (lv := [(0, .ref (ad 0))]) (by decide) (Nat.le_of_ble_eq_true rfl) rfl (fun K hl fx hf => ?_)
  subst hl
  rw [f_X3_undo] at h
  refine wa_aload_n fx 0 dX3_undo_0 rfl ?_
  refine wa_get (v := .int ((G 0).2.2 0)) fx wm_X3 0 rfl rfl 3 (by decide) q_1_19 rfl rfl dX3_undo_1 ?_
  refine wa_if_ne fx 13 dX3_undo_4 (by decide) h (fun h => ?_) (fun h => ?_)
  · refine wa_aload_n fx 0 dX3_undo_7 rfl ?_
    refine wa_iconst fx (3 : Int32) dX3_undo_8 (by decide) ?_
    refine wa_V (b := ad 0) (rmc := (rmh 1)) (As := [.int (3 : Int32)]) (st := []) (wc := (wc_ws g ad G)) (wr := ([] : va_W)) (wcz := fun z3 => wc_ws g ad z3.2) (w2 := fun z3 => wc_ws g ad z3.2) (o := fun z3 => some (.int z3.1)) (s2 := fun z3 => [.int z3.1]) (ci := 3) (q0 := 0) fx mm_X3_finding q_4_17 dX3_undo_9 h (fun _ hz => c_X3_finding hz) rfl rfl (rm_ok (by decide) (by decide)) ⟨Nat.zero_le _, Nat.zero_le _⟩ rfl (List.Perm.refl _) (fun _ => List.Perm.refl _) rfl (Nat.le_of_ble_eq_true rfl) (fun _ => rfl) (fun z3 h => ?_)
    exact fn_i (wc_ws g ad) fx hf (sn1 h) (sn2 h) dX3_undo_12
  · refine wa_aload_n fx 0 dX3_undo_13 rfl ?_
    refine wa_get (v := .ref ((adr ad 1) 0)) fx wm_X3 0 rfl rfl 0 (by decide) q_1_16 rfl rfl dX3_undo_14 ?_
    refine wa_aload_n fx 0 dX3_undo_17 rfl ?_
    refine wa_get (v := .ref ((adr ad 21) 0)) fx wm_X3 0 rfl rfl 2 (by decide) q_1_18 rfl rfl dX3_undo_18 ?_
    refine wa_V (b := (adr ad 1) 0) (rmc := (rmh 2)) (As := [.ref ((adr ad 21) 0)]) (st := []) (wc := (bb_ws g (adr ad 1) (adr ad 21) (G 1, G 3))) (wr := (wr13 g ad G)) (wcz := fun z1 => bb_ws g (adr ad 1) (adr ad 21) z1) (w2 := fun z1 => wc_ws g ad (gset (gset G 1 z1.1) 3 z1.2)) (o := fun _ => none) (s2 := fun z1 => []) (ci := 0) (q0 := 0) fx mm_X0_become q_18_20 dX3_undo_21 h (fun _ hz => c_X0_become hz) rfl rfl (rm_ok (by decide) (by decide)) ⟨Nat.zero_le _, Nat.zero_le _⟩ rfl (sq13 g ad G) (fun _ => sp13 g ad G _) rfl (Nat.le_of_ble_eq_true rfl) (fun _ => rfl) (fun z1 h => ?_)
    refine nm_w (wc_ws g ad) h (fun w2 h => ?_)
    refine wa_aload_n fx 0 dX3_undo_24 rfl ?_
    refine wa_get (v := .ref ((adr ad 1) 0)) fx wm_X3 0 rfl rfl 0 (by decide) q_1_16 rfl rfl dX3_undo_25 ?_
    refine wa_get (v := .int ((w2 1).2.2 0)) fx wm_X0 4 rfl rfl 9 (by decide) q_6_21 rfl rfl dX3_undo_28 ?_
    exact fn_i (wc_ws g ad) fx hf (sn1 h) (sn2 h) dX3_undo_31
def f_X3_tear_b12 (x1 : Int32) (w2 : Nat → StT) : Option (Int32 × (Nat → StT)) := nm (gset w2 0 (setF (w2 0) 0 (0 : Int32))) fun w3 => some (x1, w3)
def f_X3_tear  (G : Nat → StT) : Option (Int32 × (Nat → StT)) := if ((G 0).2.2 0) = 0 then (f_X3_tear_b12 (0 : Int32) G) else (f_X3_tear_b12 (1 : Int32) G)
set_option maxHeartbeats 4000000 in
set_option maxRecDepth 100000 in
theorem c_X3_tear {g : GT} {l : Launch} {ad : Nat → Nat}   {G : Nat → StT} {r : Int32 × (Nat → StT)} (h : f_X3_tear G = some r) : Ct g l yX3_tear (wd yX3_tear cX3_tear 2 (some .int)) (rmh 1) [.ref (ad 0)] (wc_ws g ad G) (wc_ws g ad r.2) (some (.int r.1)) := by
  refine Ct.of (lv := [(0, .ref (ad 0))]) (by decide) (Nat.le_of_ble_eq_true rfl) rfl (fun K hl fx hf => ?_)
  subst hl
  rw [f_X3_tear] at h
  have B12 : ∀  (x1 : Int32) (w2 : Nat → StT), f_X3_tear_b12 x1 w2 = some r → WA g K 2 0 0 12 [(0, .ref (ad 0))] [.int x1] (wc_ws g ad w2) := by
    intro   x1 w2 h
    rw [f_X3_tear_b12] at h
    refine wa_istore_n fx [(1, .int x1), (0, .ref (ad 0))] dX3_tear_12 rfl (by decide) rfl ?_
    refine wa_aload_n fx 1 dX3_tear_13 rfl ?_
    refine wa_iconst fx (0 : Int32) dX3_tear_14 (by decide) ?_
    refine wa_put (wc_ws g ad) fx wm_X3 tyX3 tyX3_ok nmX3 0 rfl rfl 3 (by decide) q_1_19 rfl rfl (by decide) (by decide) (Nat.le_of_ble_eq_true rfl) dX3_tear_15 h rfl (fun w3 h => ?_)
    refine wa_iload_n fx 0 dX3_tear_18 rfl ?_
    exact fn_i (wc_ws g ad) fx hf (sn1 h) (sn2 h) dX3_tear_19
  refine wa_aload_n fx 0 dX3_tear_0 rfl ?_
  refine wa_get (v := .int ((G 0).2.2 0)) fx wm_X3 0 rfl rfl 3 (by decide) q_1_19 rfl rfl dX3_tear_1 ?_
  refine wa_if_eq fx 11 dX3_tear_4 (by decide) h (fun h => ?_) (fun h => ?_)
  · refine wa_iconst fx (0 : Int32) dX3_tear_11 (by decide) ?_
    refine wa_sub [0] rfl ?_
    exact B12 (0 : Int32) G h
  · refine wa_iconst fx (1 : Int32) dX3_tear_7 (by decide) ?_
    refine wa_goto fx 12 dX3_tear_8 (by decide) ?_
    refine wa_sub [0] rfl ?_
    exact B12 (1 : Int32) G h
def f_X3_count  (G : Nat → StT) (a1 : Int32) : Option (Int32 × (Nat → StT)) := if a1 = (0 : Int32) then (some (((G 1).2.2 0), G)) else (if a1 = (1 : Int32) then (some (((G 4).2.2 0), G)) else (if a1 = (2 : Int32) then (Option.bind (f_X0_whoSits (G 1)) fun z1 => Option.bind (f_J6_bitCount_0f7a4 z1) fun z2 => some (z2, G)) else (if a1 = (3 : Int32) then (Option.bind (f_X0_pairsAtOdds (G 1)) fun z3 => some (z3, G)) else (Option.bind (f_X3_finding G (0 : Int32)) fun z4 => some (z4.1, z4.2)))))
set_option maxHeartbeats 4000000 in
set_option maxRecDepth 100000 in
theorem c_X3_count {g : GT} {l : Launch} {ad : Nat → Nat}   {G : Nat → StT} {a1 : Int32} {r : Int32 × (Nat → StT)} (h : f_X3_count G a1 = some r) : Ct g l yX3_count (wd yX3_count cX3_count 2 (some .int)) (rmh 3) [.ref (ad 0), .int a1] (wc_ws g ad G) (wc_ws g ad r.2) (some (.int r.1)) := by
  refine Ct.of (lv := [(0, .ref (ad 0)), (1, .int a1)]) (by decide) (Nat.le_of_ble_eq_true rfl) rfl (fun K hl fx hf => ?_)
  subst hl
  rw [f_X3_count] at h
  refine wa_iload_n fx 1 dX3_count_0 rfl ?_
  by_cases c0 : a1 = (0 : Int32)
  · have h := (if_pos c0).symm.trans h
    refine wa_tabI fx 32 (0 : Int) dX3_count_1 (by rw [c0] <;> rfl) (by decide) (by decide) (by rfl) (by decide) ?_
    refine wa_aload_n fx 0 dX3_count_32 rfl ?_
    refine wa_get (v := .ref ((adr ad 1) 0)) fx wm_X3 0 rfl rfl 0 (by decide) q_1_16 rfl rfl dX3_count_33 ?_
    refine wa_get (v := .int ((G 1).2.2 0)) fx wm_X0 4 rfl rfl 9 (by decide) q_6_21 rfl rfl dX3_count_36 ?_
    exact fn_i (wc_ws g ad) fx hf (sn1 h) (sn2 h) dX3_count_39
  · have h := (if_neg c0).symm.trans h
    by_cases c1 : a1 = (1 : Int32)
    · have h := (if_pos c1).symm.trans h
      refine wa_tabI fx 40 (1 : Int) dX3_count_1 (by rw [c1] <;> rfl) (by decide) (by decide) (by rfl) (by decide) ?_
      refine wa_aload_n fx 0 dX3_count_40 rfl ?_
      refine wa_get (v := .ref ((adr ad 31) 0)) fx wm_X3 0 rfl rfl 4 (by decide) q_1_23 rfl rfl dX3_count_41 ?_
      refine wa_get (v := .int ((G 4).2.2 0)) fx wm_X2 34 rfl rfl 1 (by decide) q_24_23 rfl rfl dX3_count_44 ?_
      exact fn_i (wc_ws g ad) fx hf (sn1 h) (sn2 h) dX3_count_47
    · have h := (if_neg c1).symm.trans h
      by_cases c2 : a1 = (2 : Int32)
      · have h := (if_pos c2).symm.trans h
        refine wa_tabI fx 48 (2 : Int) dX3_count_1 (by rw [c2] <;> rfl) (by decide) (by decide) (by rfl) (by decide) ?_
        refine wa_aload_n fx 0 dX3_count_48 rfl ?_
        refine wa_get (v := .ref ((adr ad 1) 0)) fx wm_X3 0 rfl rfl 0 (by decide) q_1_16 rfl rfl dX3_count_49 ?_
        refine wa_V (b := (adr ad 1) 0) (rmc := (rmh 1)) (As := []) (st := []) (wc := (rm_ws g (adr ad 1) (G 1))) (wr := (wr1 g ad G)) (wcz := fun _ => (rm_ws g (adr ad 1) (G 1))) (w2 := fun _ => (wc_ws g ad G)) (o := fun z1 => some (.int z1)) (s2 := fun z1 => [.int z1]) (ci := 0) (q0 := 0) fx mm_X0_whoSits q_17_12 dX3_count_52 h (fun _ hz => c_X0_whoSits hz) rfl rfl (rm_ok (by decide) (by decide)) ⟨Nat.zero_le _, Nat.zero_le _⟩ rfl (sq1 g ad G) (fun _ => (sq1 g ad G)) rfl (Nat.le_of_ble_eq_true rfl) (fun _ => rfl) (fun z1 h => ?_)
        refine wa_S (rmc := (rmh 1)) (As := [.int z1]) (st := []) (wc := (no_ws ())) (wr := (wc_ws g ad G)) (wcz := fun _ => (no_ws ())) (w2 := fun _ => (wc_ws g ad G)) (o := fun z2 => some (.int z2)) (s2 := fun z2 => [.int z2]) fx mm_J6_bitCount_0f7a4 q_39_18 dX3_count_55 h (fun _ hz => c_J6_bitCount_0f7a4 hz) (rm_ok (by decide) (by decide)) ⟨Nat.zero_le _, Nat.zero_le _⟩ rfl (List.Perm.of_eq (List.append_nil _).symm) (fun _ => (List.Perm.of_eq (List.append_nil _).symm)) rfl (Nat.le_of_ble_eq_true rfl) (fun _ => rfl) (fun z2 h => ?_)
        exact fn_i (wc_ws g ad) fx hf (sn1 h) (sn2 h) dX3_count_58
      · have h := (if_neg c2).symm.trans h
        by_cases c3 : a1 = (3 : Int32)
        · have h := (if_pos c3).symm.trans h
          refine wa_tabI fx 59 (3 : Int) dX3_count_1 (by rw [c3] <;> rfl) (by decide) (by decide) (by rfl) (by decide) ?_
          refine wa_aload_n fx 0 dX3_count_59 rfl ?_
          refine wa_get (v := .ref ((adr ad 1) 0)) fx wm_X3 0 rfl rfl 0 (by decide) q_1_16 rfl rfl dX3_count_60 ?_
          refine wa_V (b := (adr ad 1) 0) (rmc := (rmh 2)) (As := []) (st := []) (wc := (rm_ws g (adr ad 1) (G 1))) (wr := (wr1 g ad G)) (wcz := fun _ => (rm_ws g (adr ad 1) (G 1))) (w2 := fun _ => (wc_ws g ad G)) (o := fun z3 => some (.int z3)) (s2 := fun z3 => [.int z3]) (ci := 0) (q0 := 0) fx mm_X0_pairsAtOdds q_40_1 dX3_count_63 h (fun _ hz => c_X0_pairsAtOdds hz) rfl rfl (rm_ok (by decide) (by decide)) ⟨Nat.zero_le _, Nat.zero_le _⟩ rfl (sq1 g ad G) (fun _ => (sq1 g ad G)) rfl (Nat.le_of_ble_eq_true rfl) (fun _ => rfl) (fun z3 h => ?_)
          exact fn_i (wc_ws g ad) fx hf (sn1 h) (sn2 h) dX3_count_66
        · have h := (if_neg c3).symm.trans h
          refine wa_tabD fx 67 dX3_count_1 (by decide) [(0 : Int32), (1 : Int32), (2 : Int32), (3 : Int32)] (by decide) (List.forall_mem_cons.mpr ⟨c0, (List.forall_mem_cons.mpr ⟨c1, (List.forall_mem_cons.mpr ⟨c2, (List.forall_mem_cons.mpr ⟨c3, (fun _ hm => absurd hm List.not_mem_nil)⟩)⟩)⟩)⟩) ?_
          refine wa_aload_n fx 0 dX3_count_67 rfl ?_
          refine wa_iconst fx (0 : Int32) dX3_count_68 (by decide) ?_
          refine wa_V (b := ad 0) (rmc := (rmh 1)) (As := [.int (0 : Int32)]) (st := []) (wc := (wc_ws g ad G)) (wr := ([] : va_W)) (wcz := fun z4 => wc_ws g ad z4.2) (w2 := fun z4 => wc_ws g ad z4.2) (o := fun z4 => some (.int z4.1)) (s2 := fun z4 => [.int z4.1]) (ci := 3) (q0 := 0) fx mm_X3_finding q_4_17 dX3_count_69 h (fun _ hz => c_X3_finding hz) rfl rfl (rm_ok (by decide) (by decide)) ⟨Nat.zero_le _, Nat.zero_le _⟩ rfl (List.Perm.refl _) (fun _ => List.Perm.refl _) rfl (Nat.le_of_ble_eq_true rfl) (fun _ => rfl) (fun z4 h => ?_)
          exact fn_i (wc_ws g ad) fx hf (sn1 h) (sn2 h) dX3_count_72
def f_X3_status_l31 : Nat → (Int32) → (Int32) → (Nat → StT) → Option (Int32 × (Nat → StT))
  | 0, _, _, _ => none
  | n + 1, x5, x6, w7 => if (7 : Int32) ≤ x6 then (some (x5, w7)) else (ck x6 7 (nm (x5 + ((w7 0).1 0 (Int32.toNatClampNeg x6))) fun x8 => nm (x6 + (1 : Int32)) fun x9 => (f_X3_status_l31 n) x8 x9 w7))
def f_X3_status  (G : Nat → StT) (a1 : Int32) : Option (Int32 × (Nat → StT)) := Option.bind (f_X3_isWithin a1 (-1 : Int32) (6 : Int32)) fun z1 => if z1 = 0 then (Option.bind (f_X3_finding G (0 : Int32)) fun z10 => some (z10.1, z10.2)) else (if a1 < 0 then (f_X3_status_l31 200 (0 : Int32) (0 : Int32) G) else (ck a1 7 (some (((G 0).1 0 (Int32.toNatClampNeg a1)), G))))
set_option maxHeartbeats 4000000 in
set_option maxRecDepth 100000 in
theorem c_X3_status {g : GT} {l : Launch} {ad : Nat → Nat}   {G : Nat → StT} {a1 : Int32} {r : Int32 × (Nat → StT)} (h : f_X3_status G a1 = some r) : Ct g l yX3_status (wd yX3_status cX3_status 4 (some .int)) (rmh 2) [.ref (ad 0), .int a1] (wc_ws g ad G) (wc_ws g ad r.2) (some (.int r.1)) := by
  refine Ct.of (lv := [(0, .ref (ad 0)), (1, .int a1)]) (by decide) (Nat.le_of_ble_eq_true rfl) rfl (fun K hl fx hf => ?_)
  subst hl
  rw [f_X3_status] at h
  have B31 : ∀  (n : Nat) (x5 : Int32) (x6 : Int32) (w7 : Nat → StT), f_X3_status_l31 n x5 x6 w7 = some r → WA g K 4 0 0 31 [(0, .ref (ad 0)), (2, .int x5), (3, .int x6)] [] (wc_ws g ad w7) := by
    intro   n
    induction n with
    | zero => intro x5 x6 w7 h; exact absurd h (by rw [f_X3_status_l31]; exact nofun)
    | succ n ih =>
      intro x5 x6 w7 h
      rw [f_X3_status_l31] at h
      refine wa_iload_n fx 2 dX3_status_31 rfl ?_
      refine wa_bipush fx (7 : Int32) dX3_status_32 (by decide) ?_
      refine wa_icmp_ge fx 52 dX3_status_34 (by decide) h (fun h => ?_) (fun h => ?_)
      · refine wa_iload_n fx 1 dX3_status_52 rfl ?_
        exact fn_i (wc_ws g ad) fx hf (sn1 h) (sn2 h) dX3_status_53
      · refine wa_iload_n fx 1 dX3_status_37 rfl ?_
        refine wa_aload_n fx 0 dX3_status_38 rfl ?_
        refine wa_get (v := .ref (ad 42)) fx wm_X3 0 rfl rfl 6 (by decide) q_2_5 rfl rfl dX3_status_39 ?_
        refine wa_iload_n fx 2 dX3_status_42 rfl ?_
        refine wa_iald (f := (w7 0).1 0) fx 2 rfl dX3_status_43 h (fun h => ?_)
        refine wa_iadd fx dX3_status_44 ?_
        refine wa_istore_nN fx (fun x8 => [(2, .int x8), (0, .ref (ad 0)), (3, .int x6)]) dX3_status_45 rfl (by decide) (fun _ => rfl) h (fun x8 h => ?_)
        refine wa_iinc fx 2 (fun x9 => [(3, .int x9), (2, .int x8), (0, .ref (ad 0))]) dX3_status_46 rfl (by rfl) (by decide) (fun _ => rfl) h (fun x9 h => ?_)
        refine wa_goto fx 31 dX3_status_49 (by decide) ?_
        refine wa_sub [2, 1, 0] rfl ?_
        exact ih x8 x9 w7 h
  refine wa_iload_n fx 1 dX3_status_0 rfl ?_
  refine wa_iconst fx (-1 : Int32) dX3_status_1 (by decide) ?_
  refine wa_bipush fx (6 : Int32) dX3_status_2 (by decide) ?_
  refine wa_S (rmc := (rmh 1)) (As := [.int a1, .int (-1 : Int32), .int (6 : Int32)]) (st := []) (wc := (no_ws ())) (wr := (wc_ws g ad G)) (wcz := fun _ => (no_ws ())) (w2 := fun _ => (wc_ws g ad G)) (o := fun z1 => some (.int z1)) (s2 := fun z1 => [.int z1]) fx mm_X3_isWithin q_4_14 dX3_status_4 h (fun _ hz => c_X3_isWithin hz) (rm_ok (by decide) (by decide)) ⟨Nat.zero_le _, Nat.zero_le _⟩ rfl (List.Perm.of_eq (List.append_nil _).symm) (fun _ => (List.Perm.of_eq (List.append_nil _).symm)) rfl (Nat.le_of_ble_eq_true rfl) (fun _ => rfl) (fun z1 h => ?_)
  refine wa_if_ne fx 16 dX3_status_7 (by decide) h (fun h => ?_) (fun h => ?_)
  · refine wa_aload_n fx 0 dX3_status_10 rfl ?_
    refine wa_iconst fx (0 : Int32) dX3_status_11 (by decide) ?_
    refine wa_V (b := ad 0) (rmc := (rmh 1)) (As := [.int (0 : Int32)]) (st := []) (wc := (wc_ws g ad G)) (wr := ([] : va_W)) (wcz := fun z10 => wc_ws g ad z10.2) (w2 := fun z10 => wc_ws g ad z10.2) (o := fun z10 => some (.int z10.1)) (s2 := fun z10 => [.int z10.1]) (ci := 3) (q0 := 0) fx mm_X3_finding q_4_17 dX3_status_12 h (fun _ hz => c_X3_finding hz) rfl rfl (rm_ok (by decide) (by decide)) ⟨Nat.zero_le _, Nat.zero_le _⟩ rfl (List.Perm.refl _) (fun _ => List.Perm.refl _) rfl (Nat.le_of_ble_eq_true rfl) (fun _ => rfl) (fun z10 h => ?_)
    exact fn_i (wc_ws g ad) fx hf (sn1 h) (sn2 h) dX3_status_15
  · refine wa_iload_n fx 1 dX3_status_16 rfl ?_
    refine wa_if_lt fx 27 dX3_status_17 (by decide) h (fun h => ?_) (fun h => ?_)
    · refine wa_iconst fx (0 : Int32) dX3_status_27 (by decide) ?_
      refine wa_istore_n fx [(2, .int (0 : Int32)), (0, .ref (ad 0)), (1, .int a1)] dX3_status_28 rfl (by decide) rfl ?_
      refine wa_iconst fx (0 : Int32) dX3_status_29 (by decide) ?_
      refine wa_istore_n fx [(3, .int (0 : Int32)), (2, .int (0 : Int32)), (0, .ref (ad 0)), (1, .int a1)] dX3_status_30 rfl (by decide) rfl ?_
      refine wa_sub [2, 1, 0] rfl ?_
      exact B31 200 (0 : Int32) (0 : Int32) G h
    · refine wa_aload_n fx 0 dX3_status_20 rfl ?_
      refine wa_get (v := .ref (ad 42)) fx wm_X3 0 rfl rfl 6 (by decide) q_2_5 rfl rfl dX3_status_21 ?_
      refine wa_iload_n fx 1 dX3_status_24 rfl ?_
      refine wa_iald (f := (G 0).1 0) fx 2 rfl dX3_status_25 h (fun h => ?_)
      exact fn_i (wc_ws g ad) fx hf (sn1 h) (sn2 h) dX3_status_26
