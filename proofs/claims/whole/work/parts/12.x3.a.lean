def f_X3_finding  (G : Nat → StT) (a1 : Int32) : Option (Int32 × (Nat → StT)) := ck a1 7 (ck a1 7 (nm (gset G 0 (setA (G 0) 0 (upd ((G 0).1 0) (Int32.toNatClampNeg a1) (((G 0).1 0 (Int32.toNatClampNeg a1)) + (1 : Int32))))) fun w1 => some (((-1000000001 : Int32) - a1), w1)))
set_option maxHeartbeats 4000000 in
set_option maxRecDepth 100000 in
theorem c_X3_finding {g : GT} {l : Launch} {ad : Nat → Nat}   {G : Nat → StT} {a1 : Int32} {r : Int32 × (Nat → StT)} (h : f_X3_finding G a1 = some r) : Ct g l yX3_finding (wd yX3_finding cX3_finding 2 (some .int)) (rmh 1) [.ref (ad 0), .int a1] (wc_ws g ad G) (wc_ws g ad r.2) (some (.int r.1)) := by
  refine Ct.of (lv := [(0, .ref (ad 0)), (1, .int a1)]) (by decide) (Nat.le_of_ble_eq_true rfl) rfl (fun K hl fx hf => ?_)
  subst hl
  rw [f_X3_finding] at h
  refine wa_aload_n fx 0 dX3_finding_0 rfl ?_
  refine wa_get (v := .ref (ad 42)) fx wm_X3 0 rfl rfl 6 (by decide) q_2_5 rfl rfl dX3_finding_1 ?_
  refine wa_iload_n fx 1 dX3_finding_4 rfl ?_
  refine wa_dup2 fx dX3_finding_5 rfl rfl ?_
  refine wa_iald (f := (G 0).1 0) fx 2 rfl dX3_finding_6 h (fun h => ?_)
  refine wa_iconst fx (1 : Int32) dX3_finding_7 (by decide) ?_
  refine wa_iadd fx dX3_finding_8 ?_
  refine wa_iast (wc_ws g ad) (f := (G 0).1 0) fx 2 rfl dX3_finding_9 h rfl (fun w1 h => ?_)
  refine wa_ldc fx q_4_21 dX3_finding_10 ?_
  refine wa_iload_n fx 1 dX3_finding_12 rfl ?_
  refine wa_isub fx dX3_finding_13 ?_
  exact fn_i (wc_ws g ad) fx hf (sn1 h) (sn2 h) dX3_finding_14
def f_X3_chair_b58 (x8 : Int32) (x9 : Int32) (x10 : Int32) (x11 : Int32) (x12 : Int32) (w13 : Nat → StT) : Option (Int32 × (Nat → StT)) := Option.bind (f_X3_isWithin x12 x11 x10) fun z14 => if z14 = 0 then (Option.bind (f_X3_finding w13 (0 : Int32)) fun z17 => some (z17.1, z17.2)) else (ck x8 8 (nm ((w13 1).1 1 (Int32.toNatClampNeg x8)) fun x15 => ck x8 8 (nm (gset w13 1 (setA (w13 1) 1 (upd ((w13 1).1 1) (Int32.toNatClampNeg x8) x9))) fun w16 => some (x15, w16))))
def f_X3_chair_b43 (x4 : Int32) (x5 : Int32) (x6 : Int32) (w7 : Nat → StT) : Option (Int32 × (Nat → StT)) := if x5 = 0 then (f_X3_chair_b58 x4 x6 (20 : Int32) (0 : Int32) x6 w7) else (f_X3_chair_b58 x4 x6 (9 : Int32) (0 : Int32) x6 w7)
def f_X3_chair_b58v1 (x22 : Int32) (x23 : Int32) (x24 : Int32) (x25 : Int32) (x26 : Int32) (w27 : Nat → StT) : Option (Int32 × (Nat → StT)) := Option.bind (f_X3_isWithin x26 x25 x24) fun z28 => if z28 = 0 then (Option.bind (f_X3_finding w27 (0 : Int32)) fun z31 => some (z31.1, z31.2)) else (ck x22 8 (nm ((w27 1).1 0 (Int32.toNatClampNeg x22)) fun x29 => ck x22 8 (nm (gset w27 1 (setA (w27 1) 0 (upd ((w27 1).1 0) (Int32.toNatClampNeg x22) x23))) fun w30 => some (x29, w30))))
def f_X3_chair_b43v1 (x18 : Int32) (x19 : Int32) (x20 : Int32) (w21 : Nat → StT) : Option (Int32 × (Nat → StT)) := if x19 = 0 then (f_X3_chair_b58v1 x18 x20 (20 : Int32) (0 : Int32) x20 w21) else (f_X3_chair_b58v1 x18 x20 (9 : Int32) (0 : Int32) x20 w21)
def f_X3_chair  (G : Nat → StT) (a1 : Int32) (a2 : Int32) (a3 : Int32) : Option (Int32 × (Nat → StT)) := Option.bind (f_X3_isChair a1) fun z1 => if z1 = 0 then (Option.bind (f_X3_finding G (0 : Int32)) fun z2 => some (z2.1, z2.2)) else (Option.bind (f_X3_isWithin a2 (0 : Int32) (1 : Int32)) fun z3 => if z3 = 0 then (Option.bind (f_X3_finding G (0 : Int32)) fun z32 => some (z32.1, z32.2)) else (if a2 = 0 then (f_X3_chair_b43v1 a1 a2 a3 G) else (f_X3_chair_b43 a1 a2 a3 G)))
set_option maxHeartbeats 4000000 in
set_option maxRecDepth 100000 in
theorem c_X3_chair {g : GT} {l : Launch} {ad : Nat → Nat}   {G : Nat → StT} {a1 : Int32} {a2 : Int32} {a3 : Int32} {r : Int32 × (Nat → StT)} (h : f_X3_chair G a1 a2 a3 = some r) : Ct g l yX3_chair (wd yX3_chair cX3_chair 6 (some .int)) (rmh 3) [.ref (ad 0), .int a1, .int a2, .int a3] (wc_ws g ad G) (wc_ws g ad r.2) (some (.int r.1)) := by
  refine Ct.of (lv := [(0, .ref (ad 0)), (1, .int a1), (2, .int a2), (3, .int a3)]) (by decide) (Nat.le_of_ble_eq_true rfl) rfl (fun K hl fx hf => ?_)
  subst hl
  rw [f_X3_chair] at h
  have B58 : ∀  (x8 : Int32) (x9 : Int32) (x10 : Int32) (x11 : Int32) (x12 : Int32) (w13 : Nat → StT), f_X3_chair_b58 x8 x9 x10 x11 x12 w13 = some r → WA g K 6 0 0 58 [(0, .ref (ad 0)), (1, .int x8), (3, .int x9), (4, .ref ((adr ad 1) 2))] [.int x10, .int x11, .int x12] (wc_ws g ad w13) := by
    intro   x8 x9 x10 x11 x12 w13 h
    rw [f_X3_chair_b58] at h
    refine wa_S (rmc := (rmh 1)) (As := [.int x12, .int x11, .int x10]) (st := []) (wc := (no_ws ())) (wr := (wc_ws g ad w13)) (wcz := fun _ => (no_ws ())) (w2 := fun _ => (wc_ws g ad w13)) (o := fun z14 => some (.int z14)) (s2 := fun z14 => [.int z14]) fx mm_X3_isWithin q_4_14 dX3_chair_58 h (fun _ hz => c_X3_isWithin hz) (rm_ok (by decide) (by decide)) ⟨Nat.zero_le _, Nat.zero_le _⟩ rfl (List.Perm.of_eq (List.append_nil _).symm) (fun _ => (List.Perm.of_eq (List.append_nil _).symm)) rfl (Nat.le_of_ble_eq_true rfl) (fun _ => rfl) (fun z14 h => ?_)
    refine wa_if_ne fx 70 dX3_chair_61 (by decide) h (fun h => ?_) (fun h => ?_)
    · refine wa_aload_n fx 0 dX3_chair_64 rfl ?_
      refine wa_iconst fx (0 : Int32) dX3_chair_65 (by decide) ?_
      refine wa_V (b := ad 0) (rmc := (rmh 1)) (As := [.int (0 : Int32)]) (st := []) (wc := (wc_ws g ad w13)) (wr := ([] : va_W)) (wcz := fun z17 => wc_ws g ad z17.2) (w2 := fun z17 => wc_ws g ad z17.2) (o := fun z17 => some (.int z17.1)) (s2 := fun z17 => [.int z17.1]) (ci := 3) (q0 := 0) fx mm_X3_finding q_4_17 dX3_chair_66 h (fun _ hz => c_X3_finding hz) rfl rfl (rm_ok (by decide) (by decide)) ⟨Nat.zero_le _, Nat.zero_le _⟩ rfl (List.Perm.refl _) (fun _ => List.Perm.refl _) rfl (Nat.le_of_ble_eq_true rfl) (fun _ => rfl) (fun z17 h => ?_)
      exact fn_i (wc_ws g ad) fx hf (sn1 h) (sn2 h) dX3_chair_69
    · refine wa_aload fx 3 dX3_chair_70 rfl ?_
      refine wa_iload_n fx 1 dX3_chair_72 rfl ?_
      refine wa_iald (f := (w13 1).1 1) fx 6 rfl dX3_chair_73 h (fun h => ?_)
      refine wa_istoreN fx (fun x15 => [(5, .int x15), (0, .ref (ad 0)), (1, .int x8), (3, .int x9), (4, .ref ((adr ad 1) 2))]) dX3_chair_74 (by decide) (fun _ => rfl) h (fun x15 h => ?_)
      refine wa_aload fx 4 dX3_chair_76 rfl ?_
      refine wa_iload_n fx 2 dX3_chair_78 rfl ?_
      refine wa_iload_n fx 3 dX3_chair_79 rfl ?_
      refine wa_iast (wc_ws g ad) (f := (w13 1).1 1) fx 6 rfl dX3_chair_80 h rfl (fun w16 h => ?_)
      refine wa_iload fx 0 dX3_chair_81 rfl ?_
      exact fn_i (wc_ws g ad) fx hf (sn1 h) (sn2 h) dX3_chair_83
  have B43 : ∀  (x4 : Int32) (x5 : Int32) (x6 : Int32) (w7 : Nat → StT), f_X3_chair_b43 x4 x5 x6 w7 = some r → WA g K 6 0 0 43 [(0, .ref (ad 0)), (1, .int x4), (2, .int x5), (3, .int x6)] [.ref ((adr ad 1) 2)] (wc_ws g ad w7) := by
    intro   x4 x5 x6 w7 h
    rw [f_X3_chair_b43] at h
    refine wa_astore fx [(4, .ref ((adr ad 1) 2)), (0, .ref (ad 0)), (1, .int x4), (2, .int x5), (3, .int x6)] dX3_chair_43 (by decide) rfl ?_
    refine wa_iload_n fx 4 dX3_chair_45 rfl ?_
    refine wa_iconst fx (0 : Int32) dX3_chair_46 (by decide) ?_
    refine wa_iload_n fx 3 dX3_chair_47 rfl ?_
    refine wa_if_ne fx 56 dX3_chair_48 (by decide) h (fun h => ?_) (fun h => ?_)
    · refine wa_bipush fx (20 : Int32) dX3_chair_51 (by decide) ?_
      refine wa_goto fx 58 dX3_chair_53 (by decide) ?_
      refine wa_sub [1, 2, 4, 0] rfl ?_
      exact B58 x4 x6 (20 : Int32) (0 : Int32) x6 w7 h
    · refine wa_bipush fx (9 : Int32) dX3_chair_56 (by decide) ?_
      refine wa_sub [1, 2, 4, 0] rfl ?_
      exact B58 x4 x6 (9 : Int32) (0 : Int32) x6 w7 h
  have B58v1 : ∀  (x22 : Int32) (x23 : Int32) (x24 : Int32) (x25 : Int32) (x26 : Int32) (w27 : Nat → StT), f_X3_chair_b58v1 x22 x23 x24 x25 x26 w27 = some r → WA g K 6 0 0 58 [(0, .ref (ad 0)), (1, .int x22), (3, .int x23), (4, .ref ((adr ad 1) 1))] [.int x24, .int x25, .int x26] (wc_ws g ad w27) := by
    intro   x22 x23 x24 x25 x26 w27 h
    rw [f_X3_chair_b58v1] at h
    refine wa_S (rmc := (rmh 1)) (As := [.int x26, .int x25, .int x24]) (st := []) (wc := (no_ws ())) (wr := (wc_ws g ad w27)) (wcz := fun _ => (no_ws ())) (w2 := fun _ => (wc_ws g ad w27)) (o := fun z28 => some (.int z28)) (s2 := fun z28 => [.int z28]) fx mm_X3_isWithin q_4_14 dX3_chair_58 h (fun _ hz => c_X3_isWithin hz) (rm_ok (by decide) (by decide)) ⟨Nat.zero_le _, Nat.zero_le _⟩ rfl (List.Perm.of_eq (List.append_nil _).symm) (fun _ => (List.Perm.of_eq (List.append_nil _).symm)) rfl (Nat.le_of_ble_eq_true rfl) (fun _ => rfl) (fun z28 h => ?_)
    refine wa_if_ne fx 70 dX3_chair_61 (by decide) h (fun h => ?_) (fun h => ?_)
    · refine wa_aload_n fx 0 dX3_chair_64 rfl ?_
      refine wa_iconst fx (0 : Int32) dX3_chair_65 (by decide) ?_
      refine wa_V (b := ad 0) (rmc := (rmh 1)) (As := [.int (0 : Int32)]) (st := []) (wc := (wc_ws g ad w27)) (wr := ([] : va_W)) (wcz := fun z31 => wc_ws g ad z31.2) (w2 := fun z31 => wc_ws g ad z31.2) (o := fun z31 => some (.int z31.1)) (s2 := fun z31 => [.int z31.1]) (ci := 3) (q0 := 0) fx mm_X3_finding q_4_17 dX3_chair_66 h (fun _ hz => c_X3_finding hz) rfl rfl (rm_ok (by decide) (by decide)) ⟨Nat.zero_le _, Nat.zero_le _⟩ rfl (List.Perm.refl _) (fun _ => List.Perm.refl _) rfl (Nat.le_of_ble_eq_true rfl) (fun _ => rfl) (fun z31 h => ?_)
      exact fn_i (wc_ws g ad) fx hf (sn1 h) (sn2 h) dX3_chair_69
    · refine wa_aload fx 3 dX3_chair_70 rfl ?_
      refine wa_iload_n fx 1 dX3_chair_72 rfl ?_
      refine wa_iald (f := (w27 1).1 0) fx 5 rfl dX3_chair_73 h (fun h => ?_)
      refine wa_istoreN fx (fun x29 => [(5, .int x29), (0, .ref (ad 0)), (1, .int x22), (3, .int x23), (4, .ref ((adr ad 1) 1))]) dX3_chair_74 (by decide) (fun _ => rfl) h (fun x29 h => ?_)
      refine wa_aload fx 4 dX3_chair_76 rfl ?_
      refine wa_iload_n fx 2 dX3_chair_78 rfl ?_
      refine wa_iload_n fx 3 dX3_chair_79 rfl ?_
      refine wa_iast (wc_ws g ad) (f := (w27 1).1 0) fx 5 rfl dX3_chair_80 h rfl (fun w30 h => ?_)
      refine wa_iload fx 0 dX3_chair_81 rfl ?_
      exact fn_i (wc_ws g ad) fx hf (sn1 h) (sn2 h) dX3_chair_83
  have B43v1 : ∀  (x18 : Int32) (x19 : Int32) (x20 : Int32) (w21 : Nat → StT), f_X3_chair_b43v1 x18 x19 x20 w21 = some r → WA g K 6 0 0 43 [(0, .ref (ad 0)), (1, .int x18), (2, .int x19), (3, .int x20)] [.ref ((adr ad 1) 1)] (wc_ws g ad w21) := by
    intro   x18 x19 x20 w21 h
    rw [f_X3_chair_b43v1] at h
    refine wa_astore fx [(4, .ref ((adr ad 1) 1)), (0, .ref (ad 0)), (1, .int x18), (2, .int x19), (3, .int x20)] dX3_chair_43 (by decide) rfl ?_
    refine wa_iload_n fx 4 dX3_chair_45 rfl ?_
    refine wa_iconst fx (0 : Int32) dX3_chair_46 (by decide) ?_
    refine wa_iload_n fx 3 dX3_chair_47 rfl ?_
    refine wa_if_ne fx 56 dX3_chair_48 (by decide) h (fun h => ?_) (fun h => ?_)
    · refine wa_bipush fx (20 : Int32) dX3_chair_51 (by decide) ?_
      refine wa_goto fx 58 dX3_chair_53 (by decide) ?_
      refine wa_sub [1, 2, 4, 0] rfl ?_
      exact B58v1 x18 x20 (20 : Int32) (0 : Int32) x20 w21 h
    · refine wa_bipush fx (9 : Int32) dX3_chair_56 (by decide) ?_
      refine wa_sub [1, 2, 4, 0] rfl ?_
      exact B58v1 x18 x20 (9 : Int32) (0 : Int32) x20 w21 h
  refine wa_iload_n fx 1 dX3_chair_0 rfl ?_
  refine wa_S (rmc := (rmh 2)) (As := [.int a1]) (st := []) (wc := (no_ws ())) (wr := (wc_ws g ad G)) (wcz := fun _ => (no_ws ())) (w2 := fun _ => (wc_ws g ad G)) (o := fun z1 => some (.int z1)) (s2 := fun z1 => [.int z1]) fx mm_X3_isChair q_4_11 dX3_chair_1 h (fun _ hz => c_X3_isChair hz) (rm_ok (by decide) (by decide)) ⟨Nat.zero_le _, Nat.zero_le _⟩ rfl (List.Perm.of_eq (List.append_nil _).symm) (fun _ => (List.Perm.of_eq (List.append_nil _).symm)) rfl (Nat.le_of_ble_eq_true rfl) (fun _ => rfl) (fun z1 h => ?_)
  refine wa_if_eq fx 16 dX3_chair_4 (by decide) h (fun h => ?_) (fun h => ?_)
  · refine wa_aload_n fx 0 dX3_chair_16 rfl ?_
    refine wa_iconst fx (0 : Int32) dX3_chair_17 (by decide) ?_
    refine wa_V (b := ad 0) (rmc := (rmh 1)) (As := [.int (0 : Int32)]) (st := []) (wc := (wc_ws g ad G)) (wr := ([] : va_W)) (wcz := fun z2 => wc_ws g ad z2.2) (w2 := fun z2 => wc_ws g ad z2.2) (o := fun z2 => some (.int z2.1)) (s2 := fun z2 => [.int z2.1]) (ci := 3) (q0 := 0) fx mm_X3_finding q_4_17 dX3_chair_18 h (fun _ hz => c_X3_finding hz) rfl rfl (rm_ok (by decide) (by decide)) ⟨Nat.zero_le _, Nat.zero_le _⟩ rfl (List.Perm.refl _) (fun _ => List.Perm.refl _) rfl (Nat.le_of_ble_eq_true rfl) (fun _ => rfl) (fun z2 h => ?_)
    exact fn_i (wc_ws g ad) fx hf (sn1 h) (sn2 h) dX3_chair_21
  · refine wa_iload_n fx 2 dX3_chair_7 rfl ?_
    refine wa_iconst fx (0 : Int32) dX3_chair_8 (by decide) ?_
    refine wa_iconst fx (1 : Int32) dX3_chair_9 (by decide) ?_
    refine wa_S (rmc := (rmh 1)) (As := [.int a2, .int (0 : Int32), .int (1 : Int32)]) (st := []) (wc := (no_ws ())) (wr := (wc_ws g ad G)) (wcz := fun _ => (no_ws ())) (w2 := fun _ => (wc_ws g ad G)) (o := fun z3 => some (.int z3)) (s2 := fun z3 => [.int z3]) fx mm_X3_isWithin q_4_14 dX3_chair_10 h (fun _ hz => c_X3_isWithin hz) (rm_ok (by decide) (by decide)) ⟨Nat.zero_le _, Nat.zero_le _⟩ rfl (List.Perm.of_eq (List.append_nil _).symm) (fun _ => (List.Perm.of_eq (List.append_nil _).symm)) rfl (Nat.le_of_ble_eq_true rfl) (fun _ => rfl) (fun z3 h => ?_)
    refine wa_if_ne fx 22 dX3_chair_13 (by decide) h (fun h => ?_) (fun h => ?_)
    · refine wa_aload_n fx 0 dX3_chair_16 rfl ?_
      refine wa_iconst fx (0 : Int32) dX3_chair_17 (by decide) ?_
      refine wa_V (b := ad 0) (rmc := (rmh 1)) (As := [.int (0 : Int32)]) (st := []) (wc := (wc_ws g ad G)) (wr := ([] : va_W)) (wcz := fun z32 => wc_ws g ad z32.2) (w2 := fun z32 => wc_ws g ad z32.2) (o := fun z32 => some (.int z32.1)) (s2 := fun z32 => [.int z32.1]) (ci := 3) (q0 := 0) fx mm_X3_finding q_4_17 dX3_chair_18 h (fun _ hz => c_X3_finding hz) rfl rfl (rm_ok (by decide) (by decide)) ⟨Nat.zero_le _, Nat.zero_le _⟩ rfl (List.Perm.refl _) (fun _ => List.Perm.refl _) rfl (Nat.le_of_ble_eq_true rfl) (fun _ => rfl) (fun z32 h => ?_)
      exact fn_i (wc_ws g ad) fx hf (sn1 h) (sn2 h) dX3_chair_21
    · refine wa_iload_n fx 2 dX3_chair_22 rfl ?_
      refine wa_if_ne fx 36 dX3_chair_23 (by decide) h (fun h => ?_) (fun h => ?_)
      · refine wa_aload_n fx 0 dX3_chair_26 rfl ?_
        refine wa_get (v := .ref ((adr ad 1) 0)) fx wm_X3 0 rfl rfl 0 (by decide) q_1_16 rfl rfl dX3_chair_27 ?_
        refine wa_get (v := .ref ((adr ad 1) 1)) fx wm_X0 4 rfl rfl 0 (by decide) q_4_9 rfl rfl dX3_chair_30 ?_
        refine wa_goto fx 43 dX3_chair_33 (by decide) ?_
        refine wa_sub [0, 1, 2, 3] rfl ?_
        exact B43v1 a1 a2 a3 G h
      · refine wa_aload_n fx 0 dX3_chair_36 rfl ?_
        refine wa_get (v := .ref ((adr ad 1) 0)) fx wm_X3 0 rfl rfl 0 (by decide) q_1_16 rfl rfl dX3_chair_37 ?_
        refine wa_get (v := .ref ((adr ad 1) 2)) fx wm_X0 4 rfl rfl 1 (by decide) q_4_10 rfl rfl dX3_chair_40 ?_
        refine wa_sub [0, 1, 2, 3] rfl ?_
        exact B43 a1 a2 a3 G h
def f_X3_chairOf  (G : Nat → StT) (a1 : Int32) (a2 : Int32) : Option (Int32 × (Nat → StT)) := Option.bind (f_X3_isChair a1) fun z1 => if z1 = 0 then (Option.bind (f_X3_finding G (0 : Int32)) fun z3 => some (z3.1, z3.2)) else (if a2 = (0 : Int32) then (ck a1 8 (some (((G 1).1 0 (Int32.toNatClampNeg a1)), G))) else (if a2 = (1 : Int32) then (ck a1 8 (some (((G 1).1 1 (Int32.toNatClampNeg a1)), G))) else (if a2 = (2 : Int32) then (ck a1 8 (some (((G 1).1 2 (Int32.toNatClampNeg a1)), G))) else (Option.bind (f_X3_finding G (0 : Int32)) fun z2 => some (z2.1, z2.2)))))
set_option maxHeartbeats 4000000 in
set_option maxRecDepth 100000 in
theorem c_X3_chairOf {g : GT} {l : Launch} {ad : Nat → Nat}   {G : Nat → StT} {a1 : Int32} {a2 : Int32} {r : Int32 × (Nat → StT)} (h : f_X3_chairOf G a1 a2 = some r) : Ct g l yX3_chairOf (wd yX3_chairOf cX3_chairOf 3 (some .int)) (rmh 3) [.ref (ad 0), .int a1, .int a2] (wc_ws g ad G) (wc_ws g ad r.2) (some (.int r.1)) := by
  refine Ct.of (lv := [(0, .ref (ad 0)), (1, .int a1), (2, .int a2)]) (by decide) (Nat.le_of_ble_eq_true rfl) rfl (fun K hl fx hf => ?_)
  subst hl
  rw [f_X3_chairOf] at h
  refine wa_iload_n fx 1 dX3_chairOf_0 rfl ?_
  refine wa_S (rmc := (rmh 2)) (As := [.int a1]) (st := []) (wc := (no_ws ())) (wr := (wc_ws g ad G)) (wcz := fun _ => (no_ws ())) (w2 := fun _ => (wc_ws g ad G)) (o := fun z1 => some (.int z1)) (s2 := fun z1 => [.int z1]) fx mm_X3_isChair q_4_11 dX3_chairOf_1 h (fun _ hz => c_X3_isChair hz) (rm_ok (by decide) (by decide)) ⟨Nat.zero_le _, Nat.zero_le _⟩ rfl (List.Perm.of_eq (List.append_nil _).symm) (fun _ => (List.Perm.of_eq (List.append_nil _).symm)) rfl (Nat.le_of_ble_eq_true rfl) (fun _ => rfl) (fun z1 h => ?_)
  refine wa_if_ne fx 13 dX3_chairOf_4 (by decide) h (fun h => ?_) (fun h => ?_)
  · refine wa_aload_n fx 0 dX3_chairOf_7 rfl ?_
    refine wa_iconst fx (0 : Int32) dX3_chairOf_8 (by decide) ?_
    refine wa_V (b := ad 0) (rmc := (rmh 1)) (As := [.int (0 : Int32)]) (st := []) (wc := (wc_ws g ad G)) (wr := ([] : va_W)) (wcz := fun z3 => wc_ws g ad z3.2) (w2 := fun z3 => wc_ws g ad z3.2) (o := fun z3 => some (.int z3.1)) (s2 := fun z3 => [.int z3.1]) (ci := 3) (q0 := 0) fx mm_X3_finding q_4_17 dX3_chairOf_9 h (fun _ hz => c_X3_finding hz) rfl rfl (rm_ok (by decide) (by decide)) ⟨Nat.zero_le _, Nat.zero_le _⟩ rfl (List.Perm.refl _) (fun _ => List.Perm.refl _) rfl (Nat.le_of_ble_eq_true rfl) (fun _ => rfl) (fun z3 h => ?_)
    exact fn_i (wc_ws g ad) fx hf (sn1 h) (sn2 h) dX3_chairOf_12
  · refine wa_iload_n fx 2 dX3_chairOf_13 rfl ?_
    by_cases c0 : a2 = (0 : Int32)
    · have h := (if_pos c0).symm.trans h
      refine wa_tabI fx 40 (0 : Int) dX3_chairOf_14 (by rw [c0] <;> rfl) (by decide) (by decide) (by rfl) (by decide) ?_
      refine wa_aload_n fx 0 dX3_chairOf_40 rfl ?_
      refine wa_get (v := .ref ((adr ad 1) 0)) fx wm_X3 0 rfl rfl 0 (by decide) q_1_16 rfl rfl dX3_chairOf_41 ?_
      refine wa_get (v := .ref ((adr ad 1) 1)) fx wm_X0 4 rfl rfl 0 (by decide) q_4_9 rfl rfl dX3_chairOf_44 ?_
      refine wa_iload_n fx 1 dX3_chairOf_47 rfl ?_
      refine wa_iald (f := (G 1).1 0) fx 5 rfl dX3_chairOf_48 h (fun h => ?_)
      exact fn_i (wc_ws g ad) fx hf (sn1 h) (sn2 h) dX3_chairOf_49
    · have h := (if_neg c0).symm.trans h
      by_cases c1 : a2 = (1 : Int32)
      · have h := (if_pos c1).symm.trans h
        refine wa_tabI fx 50 (1 : Int) dX3_chairOf_14 (by rw [c1] <;> rfl) (by decide) (by decide) (by rfl) (by decide) ?_
        refine wa_aload_n fx 0 dX3_chairOf_50 rfl ?_
        refine wa_get (v := .ref ((adr ad 1) 0)) fx wm_X3 0 rfl rfl 0 (by decide) q_1_16 rfl rfl dX3_chairOf_51 ?_
        refine wa_get (v := .ref ((adr ad 1) 2)) fx wm_X0 4 rfl rfl 1 (by decide) q_4_10 rfl rfl dX3_chairOf_54 ?_
        refine wa_iload_n fx 1 dX3_chairOf_57 rfl ?_
        refine wa_iald (f := (G 1).1 1) fx 6 rfl dX3_chairOf_58 h (fun h => ?_)
        exact fn_i (wc_ws g ad) fx hf (sn1 h) (sn2 h) dX3_chairOf_59
      · have h := (if_neg c1).symm.trans h
        by_cases c2 : a2 = (2 : Int32)
        · have h := (if_pos c2).symm.trans h
          refine wa_tabI fx 60 (2 : Int) dX3_chairOf_14 (by rw [c2] <;> rfl) (by decide) (by decide) (by rfl) (by decide) ?_
          refine wa_aload_n fx 0 dX3_chairOf_60 rfl ?_
          refine wa_get (v := .ref ((adr ad 1) 0)) fx wm_X3 0 rfl rfl 0 (by decide) q_1_16 rfl rfl dX3_chairOf_61 ?_
          refine wa_get (v := .ref ((adr ad 1) 3)) fx wm_X0 4 rfl rfl 2 (by decide) q_6_0 rfl rfl dX3_chairOf_64 ?_
          refine wa_iload_n fx 1 dX3_chairOf_67 rfl ?_
          refine wa_iald (f := (G 1).1 2) fx 7 rfl dX3_chairOf_68 h (fun h => ?_)
          exact fn_i (wc_ws g ad) fx hf (sn1 h) (sn2 h) dX3_chairOf_69
        · have h := (if_neg c2).symm.trans h
          refine wa_tabD fx 70 dX3_chairOf_14 (by decide) [(0 : Int32), (1 : Int32), (2 : Int32)] (by decide) (List.forall_mem_cons.mpr ⟨c0, (List.forall_mem_cons.mpr ⟨c1, (List.forall_mem_cons.mpr ⟨c2, (fun _ hm => absurd hm List.not_mem_nil)⟩)⟩)⟩) ?_
          refine wa_aload_n fx 0 dX3_chairOf_70 rfl ?_
          refine wa_iconst fx (0 : Int32) dX3_chairOf_71 (by decide) ?_
          refine wa_V (b := ad 0) (rmc := (rmh 1)) (As := [.int (0 : Int32)]) (st := []) (wc := (wc_ws g ad G)) (wr := ([] : va_W)) (wcz := fun z2 => wc_ws g ad z2.2) (w2 := fun z2 => wc_ws g ad z2.2) (o := fun z2 => some (.int z2.1)) (s2 := fun z2 => [.int z2.1]) (ci := 3) (q0 := 0) fx mm_X3_finding q_4_17 dX3_chairOf_72 h (fun _ hz => c_X3_finding hz) rfl rfl (rm_ok (by decide) (by decide)) ⟨Nat.zero_le _, Nat.zero_le _⟩ rfl (List.Perm.refl _) (fun _ => List.Perm.refl _) rfl (Nat.le_of_ble_eq_true rfl) (fun _ => rfl) (fun z2 h => ?_)
          exact fn_i (wc_ws g ad) fx hf (sn1 h) (sn2 h) dX3_chairOf_75
def f_X3_person  (G : Nat → StT) (a1 : Int32) : Option (Int32 × (Nat → StT)) := Option.bind (f_X3_isKind a1) fun z1 => if z1 = 0 then (Option.bind (f_X3_finding G (0 : Int32)) fun z5 => some (z5.1, z5.2)) else (if ((G 1).2.2 0) < (8 : Int32) then (Option.bind (f_X0_enter (G 1) a1) fun z2 => nm (gset G 1 z2.2) fun w3 => some (z2.1, w3)) else (Option.bind (f_X3_finding G (1 : Int32)) fun z4 => some (z4.1, z4.2)))
set_option maxHeartbeats 4000000 in
set_option maxRecDepth 100000 in
theorem c_X3_person {g : GT} {l : Launch} {ad : Nat → Nat}   {G : Nat → StT} {a1 : Int32} {r : Int32 × (Nat → StT)} (h : f_X3_person G a1 = some r) : Ct g l yX3_person (wd yX3_person cX3_person 2 (some .int)) (rmh 3) [.ref (ad 0), .int a1] (wc_ws g ad G) (wc_ws g ad r.2) (some (.int r.1)) := by
  refine Ct.of (lv := [(0, .ref (ad 0)), (1, .int a1)]) (by decide) (Nat.le_of_ble_eq_true rfl) rfl (fun K hl fx hf => ?_)
  subst hl
  rw [f_X3_person] at h
  refine wa_iload_n fx 1 dX3_person_0 rfl ?_
  refine wa_S (rmc := (rmh 2)) (As := [.int a1]) (st := []) (wc := (no_ws ())) (wr := (wc_ws g ad G)) (wcz := fun _ => (no_ws ())) (w2 := fun _ => (wc_ws g ad G)) (o := fun z1 => some (.int z1)) (s2 := fun z1 => [.int z1]) fx mm_X3_isKind q_6_22 dX3_person_1 h (fun _ hz => c_X3_isKind hz) (rm_ok (by decide) (by decide)) ⟨Nat.zero_le _, Nat.zero_le _⟩ rfl (List.Perm.of_eq (List.append_nil _).symm) (fun _ => (List.Perm.of_eq (List.append_nil _).symm)) rfl (Nat.le_of_ble_eq_true rfl) (fun _ => rfl) (fun z1 h => ?_)
  refine wa_if_ne fx 13 dX3_person_4 (by decide) h (fun h => ?_) (fun h => ?_)
  · refine wa_aload_n fx 0 dX3_person_7 rfl ?_
    refine wa_iconst fx (0 : Int32) dX3_person_8 (by decide) ?_
    refine wa_V (b := ad 0) (rmc := (rmh 1)) (As := [.int (0 : Int32)]) (st := []) (wc := (wc_ws g ad G)) (wr := ([] : va_W)) (wcz := fun z5 => wc_ws g ad z5.2) (w2 := fun z5 => wc_ws g ad z5.2) (o := fun z5 => some (.int z5.1)) (s2 := fun z5 => [.int z5.1]) (ci := 3) (q0 := 0) fx mm_X3_finding q_4_17 dX3_person_9 h (fun _ hz => c_X3_finding hz) rfl rfl (rm_ok (by decide) (by decide)) ⟨Nat.zero_le _, Nat.zero_le _⟩ rfl (List.Perm.refl _) (fun _ => List.Perm.refl _) rfl (Nat.le_of_ble_eq_true rfl) (fun _ => rfl) (fun z5 h => ?_)
    exact fn_i (wc_ws g ad) fx hf (sn1 h) (sn2 h) dX3_person_12
  · refine wa_aload_n fx 0 dX3_person_13 rfl ?_
    refine wa_get (v := .ref ((adr ad 1) 0)) fx wm_X3 0 rfl rfl 0 (by decide) q_1_16 rfl rfl dX3_person_14 ?_
    refine wa_get (v := .int ((G 1).2.2 0)) fx wm_X0 4 rfl rfl 9 (by decide) q_6_21 rfl rfl dX3_person_17 ?_
    refine wa_bipush fx (8 : Int32) dX3_person_20 (by decide) ?_
    refine wa_icmp_lt fx 31 dX3_person_22 (by decide) h (fun h => ?_) (fun h => ?_)
    · refine wa_aload_n fx 0 dX3_person_31 rfl ?_
      refine wa_get (v := .ref ((adr ad 1) 0)) fx wm_X3 0 rfl rfl 0 (by decide) q_1_16 rfl rfl dX3_person_32 ?_
      refine wa_iload_n fx 1 dX3_person_35 rfl ?_
      refine wa_V (b := (adr ad 1) 0) (rmc := (rmh 1)) (As := [.int a1]) (st := []) (wc := (rm_ws g (adr ad 1) (G 1))) (wr := (wr1 g ad G)) (wcz := fun z2 => rm_ws g (adr ad 1) z2.2) (w2 := fun z2 => wc_ws g ad (gset G 1 z2.2)) (o := fun z2 => some (.int z2.1)) (s2 := fun z2 => [.int z2.1]) (ci := 0) (q0 := 0) fx mm_X0_enter q_7_1 dX3_person_36 h (fun _ hz => c_X0_enter hz) rfl rfl (rm_ok (by decide) (by decide)) ⟨Nat.zero_le _, Nat.zero_le _⟩ rfl (sq1 g ad G) (fun _ => sp1 g ad G _) rfl (Nat.le_of_ble_eq_true rfl) (fun _ => rfl) (fun z2 h => ?_)
      refine nm_w (wc_ws g ad) h (fun w3 h => ?_)
      exact fn_i (wc_ws g ad) fx hf (sn1 h) (sn2 h) dX3_person_39
    · refine wa_aload_n fx 0 dX3_person_25 rfl ?_
      refine wa_iconst fx (1 : Int32) dX3_person_26 (by decide) ?_
      refine wa_V (b := ad 0) (rmc := (rmh 1)) (As := [.int (1 : Int32)]) (st := []) (wc := (wc_ws g ad G)) (wr := ([] : va_W)) (wcz := fun z4 => wc_ws g ad z4.2) (w2 := fun z4 => wc_ws g ad z4.2) (o := fun z4 => some (.int z4.1)) (s2 := fun z4 => [.int z4.1]) (ci := 3) (q0 := 0) fx mm_X3_finding q_4_17 dX3_person_27 h (fun _ hz => c_X3_finding hz) rfl rfl (rm_ok (by decide) (by decide)) ⟨Nat.zero_le _, Nat.zero_le _⟩ rfl (List.Perm.refl _) (fun _ => List.Perm.refl _) rfl (Nat.le_of_ble_eq_true rfl) (fun _ => rfl) (fun z4 h => ?_)
      exact fn_i (wc_ws g ad) fx hf (sn1 h) (sn2 h) dX3_person_30
def f_X3_isThere (st : Nat → StT) (a1 : Int32) : Option (Int32) := Option.bind (f_X3_isWithin a1 (0 : Int32) (((st 1).2.2 0) - (1 : Int32))) fun z1 => ckb z1 (some z1)
set_option maxHeartbeats 4000000 in
set_option maxRecDepth 100000 in
theorem c_X3_isThere {g : GT} {l : Launch} {ad : Nat → Nat}   {st : Nat → StT} {a1 : Int32} {r : Int32} (h : f_X3_isThere st a1 = some r) : Ct g l yX3_isThere (wd yX3_isThere cX3_isThere 2 (some .boolean)) (rmh 2) [.ref (ad 0), .int a1] (wc_ws g ad st) (wc_ws g ad st) (some (.int r)) := by
  refine Ct.of (lv := [(0, .ref (ad 0)), (1, .int a1)]) (by decide) (Nat.le_of_ble_eq_true rfl) rfl (fun K hl fx hf => ?_)
  subst hl
  rw [f_X3_isThere] at h
  refine wa_iload_n fx 1 dX3_isThere_0 rfl ?_
  refine wa_iconst fx (0 : Int32) dX3_isThere_1 (by decide) ?_
  refine wa_aload_n fx 0 dX3_isThere_2 rfl ?_
  refine wa_get (v := .ref ((adr ad 1) 0)) fx wm_X3 0 rfl rfl 0 (by decide) q_1_16 rfl rfl dX3_isThere_3 ?_
  refine wa_get (v := .int ((st 1).2.2 0)) fx wm_X0 4 rfl rfl 9 (by decide) q_6_21 rfl rfl dX3_isThere_6 ?_
  refine wa_iconst fx (1 : Int32) dX3_isThere_9 (by decide) ?_
  refine wa_isub fx dX3_isThere_10 ?_
  refine wa_S (rmc := (rmh 1)) (As := [.int a1, .int (0 : Int32), .int (((st 1).2.2 0) - (1 : Int32))]) (st := []) (wc := (no_ws ())) (wr := (wc_ws g ad st)) (wcz := fun _ => (no_ws ())) (w2 := fun _ => (wc_ws g ad st)) (o := fun z1 => some (.int z1)) (s2 := fun z1 => [.int z1]) fx mm_X3_isWithin q_4_14 dX3_isThere_11 h (fun _ hz => c_X3_isWithin hz) (rm_ok (by decide) (by decide)) ⟨Nat.zero_le _, Nat.zero_le _⟩ rfl (List.Perm.of_eq (List.append_nil _).symm) (fun _ => (List.Perm.of_eq (List.append_nil _).symm)) rfl (Nat.le_of_ble_eq_true rfl) (fun _ => rfl) (fun z1 h => ?_)
  obtain ⟨hb, h⟩ := of_ckb h
  exact fn_z (wc_ws g ad) fx hf (nb_of hb) (Option.some.inj h) rfl dX3_isThere_14
def f_X3_of  (G : Nat → StT) (a1 : Int32) (a2 : Int32) : Option (Int32 × (Nat → StT)) := Option.bind (f_X3_isThere G a1) fun z1 => if z1 = 0 then (Option.bind (f_X3_finding G (0 : Int32)) fun z4 => some (z4.1, z4.2)) else (if a2 = (0 : Int32) then (ck a1 8 (some (((G 1).1 3 (Int32.toNatClampNeg a1)), G))) else (if a2 = (1 : Int32) then (ck a1 8 (some (((G 1).1 4 (Int32.toNatClampNeg a1)), G))) else (if a2 = (2 : Int32) then (ck a1 8 (some (((G 1).1 5 (Int32.toNatClampNeg a1)), G))) else (if a2 = (3 : Int32) then (ck a1 8 (some (((G 1).1 6 (Int32.toNatClampNeg a1)), G))) else (if a2 = (4 : Int32) then (ck a1 8 (some (((G 1).1 7 (Int32.toNatClampNeg a1)), G))) else (if a2 = (5 : Int32) then (ck a1 8 (some (((G 1).1 8 (Int32.toNatClampNeg a1)), G))) else (if a2 = (6 : Int32) then (Option.bind (f_X0_givesUp (G 1) a1) fun z2 => some (z2, G)) else (Option.bind (f_X3_finding G (0 : Int32)) fun z3 => some (z3.1, z3.2)))))))))
set_option maxHeartbeats 4000000 in
set_option maxRecDepth 100000 in
theorem c_X3_of {g : GT} {l : Launch} {ad : Nat → Nat}   {G : Nat → StT} {a1 : Int32} {a2 : Int32} {r : Int32 × (Nat → StT)} (h : f_X3_of G a1 a2 = some r) : Ct g l yX3_of (wd yX3_of cX3_of 3 (some .int)) (rmh 3) [.ref (ad 0), .int a1, .int a2] (wc_ws g ad G) (wc_ws g ad r.2) (some (.int r.1)) := by
  refine Ct.of (lv := [(0, .ref (ad 0)), (1, .int a1), (2, .int a2)]) (by decide) (Nat.le_of_ble_eq_true rfl) rfl (fun K hl fx hf => ?_)
  subst hl
  rw [f_X3_of] at h
  refine wa_aload_n fx 0 dX3_of_0 rfl ?_
  refine wa_iload_n fx 1 dX3_of_1 rfl ?_
  refine wa_V (b := ad 0) (rmc := (rmh 2)) (As := [.int a1]) (st := []) (wc := (wc_ws g ad G)) (wr := ([] : va_W)) (wcz := fun _ => (wc_ws g ad G)) (w2 := fun _ => (wc_ws g ad G)) (o := fun z1 => some (.int z1)) (s2 := fun z1 => [.int z1]) (ci := 3) (q0 := 0) fx mm_X3_isThere q_8_5 dX3_of_2 h (fun _ hz => c_X3_isThere hz) rfl rfl (rm_ok (by decide) (by decide)) ⟨Nat.zero_le _, Nat.zero_le _⟩ rfl (List.Perm.refl _) (fun _ => (List.Perm.refl _)) rfl (Nat.le_of_ble_eq_true rfl) (fun _ => rfl) (fun z1 h => ?_)
  refine wa_if_ne fx 14 dX3_of_5 (by decide) h (fun h => ?_) (fun h => ?_)
  · refine wa_aload_n fx 0 dX3_of_8 rfl ?_
    refine wa_iconst fx (0 : Int32) dX3_of_9 (by decide) ?_
    refine wa_V (b := ad 0) (rmc := (rmh 1)) (As := [.int (0 : Int32)]) (st := []) (wc := (wc_ws g ad G)) (wr := ([] : va_W)) (wcz := fun z4 => wc_ws g ad z4.2) (w2 := fun z4 => wc_ws g ad z4.2) (o := fun z4 => some (.int z4.1)) (s2 := fun z4 => [.int z4.1]) (ci := 3) (q0 := 0) fx mm_X3_finding q_4_17 dX3_of_10 h (fun _ hz => c_X3_finding hz) rfl rfl (rm_ok (by decide) (by decide)) ⟨Nat.zero_le _, Nat.zero_le _⟩ rfl (List.Perm.refl _) (fun _ => List.Perm.refl _) rfl (Nat.le_of_ble_eq_true rfl) (fun _ => rfl) (fun z4 h => ?_)
    exact fn_i (wc_ws g ad) fx hf (sn1 h) (sn2 h) dX3_of_13
  · refine wa_iload_n fx 2 dX3_of_14 rfl ?_
    by_cases c0 : a2 = (0 : Int32)
    · have h := (if_pos c0).symm.trans h
      refine wa_tabI fx 56 (0 : Int) dX3_of_15 (by rw [c0] <;> rfl) (by decide) (by decide) (by rfl) (by decide) ?_
      refine wa_aload_n fx 0 dX3_of_56 rfl ?_
      refine wa_get (v := .ref ((adr ad 1) 0)) fx wm_X3 0 rfl rfl 0 (by decide) q_1_16 rfl rfl dX3_of_57 ?_
      refine wa_get (v := .ref ((adr ad 1) 4)) fx wm_X0 4 rfl rfl 3 (by decide) q_7_23 rfl rfl dX3_of_60 ?_
      refine wa_iload_n fx 1 dX3_of_63 rfl ?_
      refine wa_iald (f := (G 1).1 3) fx 8 rfl dX3_of_64 h (fun h => ?_)
      exact fn_i (wc_ws g ad) fx hf (sn1 h) (sn2 h) dX3_of_65
    · have h := (if_neg c0).symm.trans h
      by_cases c1 : a2 = (1 : Int32)
      · have h := (if_pos c1).symm.trans h
        refine wa_tabI fx 66 (1 : Int) dX3_of_15 (by rw [c1] <;> rfl) (by decide) (by decide) (by rfl) (by decide) ?_
        refine wa_aload_n fx 0 dX3_of_66 rfl ?_
        refine wa_get (v := .ref ((adr ad 1) 0)) fx wm_X3 0 rfl rfl 0 (by decide) q_1_16 rfl rfl dX3_of_67 ?_
        refine wa_get (v := .ref ((adr ad 1) 5)) fx wm_X0 4 rfl rfl 4 (by decide) q_8_0 rfl rfl dX3_of_70 ?_
        refine wa_iload_n fx 1 dX3_of_73 rfl ?_
        refine wa_iald (f := (G 1).1 4) fx 9 rfl dX3_of_74 h (fun h => ?_)
        exact fn_i (wc_ws g ad) fx hf (sn1 h) (sn2 h) dX3_of_75
      · have h := (if_neg c1).symm.trans h
        by_cases c2 : a2 = (2 : Int32)
        · have h := (if_pos c2).symm.trans h
          refine wa_tabI fx 76 (2 : Int) dX3_of_15 (by rw [c2] <;> rfl) (by decide) (by decide) (by rfl) (by decide) ?_
          refine wa_aload_n fx 0 dX3_of_76 rfl ?_
          refine wa_get (v := .ref ((adr ad 1) 0)) fx wm_X3 0 rfl rfl 0 (by decide) q_1_16 rfl rfl dX3_of_77 ?_
          refine wa_get (v := .ref ((adr ad 1) 6)) fx wm_X0 4 rfl rfl 5 (by decide) q_8_1 rfl rfl dX3_of_80 ?_
          refine wa_iload_n fx 1 dX3_of_83 rfl ?_
          refine wa_iald (f := (G 1).1 5) fx 10 rfl dX3_of_84 h (fun h => ?_)
          exact fn_i (wc_ws g ad) fx hf (sn1 h) (sn2 h) dX3_of_85
        · have h := (if_neg c2).symm.trans h
          by_cases c3 : a2 = (3 : Int32)
          · have h := (if_pos c3).symm.trans h
            refine wa_tabI fx 86 (3 : Int) dX3_of_15 (by rw [c3] <;> rfl) (by decide) (by decide) (by rfl) (by decide) ?_
            refine wa_aload_n fx 0 dX3_of_86 rfl ?_
            refine wa_get (v := .ref ((adr ad 1) 0)) fx wm_X3 0 rfl rfl 0 (by decide) q_1_16 rfl rfl dX3_of_87 ?_
            refine wa_get (v := .ref ((adr ad 1) 7)) fx wm_X0 4 rfl rfl 6 (by decide) q_8_2 rfl rfl dX3_of_90 ?_
            refine wa_iload_n fx 1 dX3_of_93 rfl ?_
            refine wa_iald (f := (G 1).1 6) fx 11 rfl dX3_of_94 h (fun h => ?_)
            exact fn_i (wc_ws g ad) fx hf (sn1 h) (sn2 h) dX3_of_95
          · have h := (if_neg c3).symm.trans h
            by_cases c4 : a2 = (4 : Int32)
            · have h := (if_pos c4).symm.trans h
              refine wa_tabI fx 96 (4 : Int) dX3_of_15 (by rw [c4] <;> rfl) (by decide) (by decide) (by rfl) (by decide) ?_
              refine wa_aload_n fx 0 dX3_of_96 rfl ?_
              refine wa_get (v := .ref ((adr ad 1) 0)) fx wm_X3 0 rfl rfl 0 (by decide) q_1_16 rfl rfl dX3_of_97 ?_
              refine wa_get (v := .ref ((adr ad 1) 8)) fx wm_X0 4 rfl rfl 7 (by decide) q_8_3 rfl rfl dX3_of_100 ?_
              refine wa_iload_n fx 1 dX3_of_103 rfl ?_
              refine wa_iald (f := (G 1).1 7) fx 12 rfl dX3_of_104 h (fun h => ?_)
              exact fn_i (wc_ws g ad) fx hf (sn1 h) (sn2 h) dX3_of_105
            · have h := (if_neg c4).symm.trans h
              by_cases c5 : a2 = (5 : Int32)
              · have h := (if_pos c5).symm.trans h
                refine wa_tabI fx 106 (5 : Int) dX3_of_15 (by rw [c5] <;> rfl) (by decide) (by decide) (by rfl) (by decide) ?_
                refine wa_aload_n fx 0 dX3_of_106 rfl ?_
                refine wa_get (v := .ref ((adr ad 1) 0)) fx wm_X3 0 rfl rfl 0 (by decide) q_1_16 rfl rfl dX3_of_107 ?_
                refine wa_get (v := .ref ((adr ad 1) 9)) fx wm_X0 4 rfl rfl 8 (by decide) q_8_4 rfl rfl dX3_of_110 ?_
                refine wa_iload_n fx 1 dX3_of_113 rfl ?_
                refine wa_iald (f := (G 1).1 8) fx 13 rfl dX3_of_114 h (fun h => ?_)
                exact fn_i (wc_ws g ad) fx hf (sn1 h) (sn2 h) dX3_of_115
              · have h := (if_neg c5).symm.trans h
                by_cases c6 : a2 = (6 : Int32)
                · have h := (if_pos c6).symm.trans h
                  refine wa_tabI fx 116 (6 : Int) dX3_of_15 (by rw [c6] <;> rfl) (by decide) (by decide) (by rfl) (by decide) ?_
                  refine wa_aload_n fx 0 dX3_of_116 rfl ?_
                  refine wa_get (v := .ref ((adr ad 1) 0)) fx wm_X3 0 rfl rfl 0 (by decide) q_1_16 rfl rfl dX3_of_117 ?_
                  refine wa_iload_n fx 1 dX3_of_120 rfl ?_
                  refine wa_V (b := (adr ad 1) 0) (rmc := (rmh 1)) (As := [.int a1]) (st := []) (wc := (rm_ws g (adr ad 1) (G 1))) (wr := (wr1 g ad G)) (wcz := fun _ => (rm_ws g (adr ad 1) (G 1))) (w2 := fun _ => (wc_ws g ad G)) (o := fun z2 => some (.int z2)) (s2 := fun z2 => [.int z2]) (ci := 0) (q0 := 0) fx mm_X0_givesUp q_8_9 dX3_of_121 h (fun _ hz => c_X0_givesUp hz) rfl rfl (rm_ok (by decide) (by decide)) ⟨Nat.zero_le _, Nat.zero_le _⟩ rfl (sq1 g ad G) (fun _ => (sq1 g ad G)) rfl (Nat.le_of_ble_eq_true rfl) (fun _ => rfl) (fun z2 h => ?_)
                  exact fn_i (wc_ws g ad) fx hf (sn1 h) (sn2 h) dX3_of_124
                · have h := (if_neg c6).symm.trans h
                  refine wa_tabD fx 125 dX3_of_15 (by decide) [(0 : Int32), (1 : Int32), (2 : Int32), (3 : Int32), (4 : Int32), (5 : Int32), (6 : Int32)] (by decide) (List.forall_mem_cons.mpr ⟨c0, (List.forall_mem_cons.mpr ⟨c1, (List.forall_mem_cons.mpr ⟨c2, (List.forall_mem_cons.mpr ⟨c3, (List.forall_mem_cons.mpr ⟨c4, (List.forall_mem_cons.mpr ⟨c5, (List.forall_mem_cons.mpr ⟨c6, (fun _ hm => absurd hm List.not_mem_nil)⟩)⟩)⟩)⟩)⟩)⟩)⟩) ?_
                  refine wa_aload_n fx 0 dX3_of_125 rfl ?_
                  refine wa_iconst fx (0 : Int32) dX3_of_126 (by decide) ?_
                  refine wa_V (b := ad 0) (rmc := (rmh 1)) (As := [.int (0 : Int32)]) (st := []) (wc := (wc_ws g ad G)) (wr := ([] : va_W)) (wcz := fun z3 => wc_ws g ad z3.2) (w2 := fun z3 => wc_ws g ad z3.2) (o := fun z3 => some (.int z3.1)) (s2 := fun z3 => [.int z3.1]) (ci := 3) (q0 := 0) fx mm_X3_finding q_4_17 dX3_of_127 h (fun _ hz => c_X3_finding hz) rfl rfl (rm_ok (by decide) (by decide)) ⟨Nat.zero_le _, Nat.zero_le _⟩ rfl (List.Perm.refl _) (fun _ => List.Perm.refl _) rfl (Nat.le_of_ble_eq_true rfl) (fun _ => rfl) (fun z3 h => ?_)
                  exact fn_i (wc_ws g ad) fx hf (sn1 h) (sn2 h) dX3_of_130
def f_X3_put_3  (G : Nat → StT) (a2 : Int32) (a3 : Int32) (a4 : Int32) (a5 : Int32) : Option (Int32 × (Nat → StT)) := Option.bind (f_X3_isWithin a3 a4 a5) fun z1 => if z1 = 0 then (Option.bind (f_X3_finding G (0 : Int32)) fun z4 => some (z4.1, z4.2)) else (ck a2 8 (nm ((G 1).1 3 (Int32.toNatClampNeg a2)) fun x2 => ck a2 8 (nm (gset G 1 (setA (G 1) 3 (upd ((G 1).1 3) (Int32.toNatClampNeg a2) a3))) fun w3 => some (x2, w3))))
set_option maxHeartbeats 4000000 in
set_option maxRecDepth 100000 in
theorem c_X3_put_3 {g : GT} {l : Launch} {ad : Nat → Nat}   {G : Nat → StT} {a2 : Int32} {a3 : Int32} {a4 : Int32} {a5 : Int32} {r : Int32 × (Nat → StT)} (h : f_X3_put_3 G a2 a3 a4 a5 = some r) : Ct g l yX3_put (wd yX3_put cX3_put 7 (some .int)) (rmh 2) [.ref (ad 0), .ref (adr ad 1 4), .int a2, .int a3, .int a4, .int a5] (wc_ws g ad G) (wc_ws g ad r.2) (some (.int r.1)) := by
  refine Ct.of (lv := [(0, .ref (ad 0)), (1, .ref (adr ad 1 4)), (2, .int a2), (3, .int a3), (4, .int a4), (5, .int a5)]) (by decide) (Nat.le_of_ble_eq_true rfl) rfl (fun K hl fx hf => ?_)
  subst hl
  rw [f_X3_put_3] at h
  refine wa_iload_n fx 3 dX3_put_0 rfl ?_
  refine wa_iload fx 4 dX3_put_1 rfl ?_
  refine wa_iload fx 5 dX3_put_3 rfl ?_
  refine wa_S (rmc := (rmh 1)) (As := [.int a3, .int a4, .int a5]) (st := []) (wc := (no_ws ())) (wr := (wc_ws g ad G)) (wcz := fun _ => (no_ws ())) (w2 := fun _ => (wc_ws g ad G)) (o := fun z1 => some (.int z1)) (s2 := fun z1 => [.int z1]) fx mm_X3_isWithin q_4_14 dX3_put_5 h (fun _ hz => c_X3_isWithin hz) (rm_ok (by decide) (by decide)) ⟨Nat.zero_le _, Nat.zero_le _⟩ rfl (List.Perm.of_eq (List.append_nil _).symm) (fun _ => (List.Perm.of_eq (List.append_nil _).symm)) rfl (Nat.le_of_ble_eq_true rfl) (fun _ => rfl) (fun z1 h => ?_)
  refine wa_if_ne fx 17 dX3_put_8 (by decide) h (fun h => ?_) (fun h => ?_)
  · refine wa_aload_n fx 0 dX3_put_11 rfl ?_
    refine wa_iconst fx (0 : Int32) dX3_put_12 (by decide) ?_
    refine wa_V (b := ad 0) (rmc := (rmh 1)) (As := [.int (0 : Int32)]) (st := []) (wc := (wc_ws g ad G)) (wr := ([] : va_W)) (wcz := fun z4 => wc_ws g ad z4.2) (w2 := fun z4 => wc_ws g ad z4.2) (o := fun z4 => some (.int z4.1)) (s2 := fun z4 => [.int z4.1]) (ci := 3) (q0 := 0) fx mm_X3_finding q_4_17 dX3_put_13 h (fun _ hz => c_X3_finding hz) rfl rfl (rm_ok (by decide) (by decide)) ⟨Nat.zero_le _, Nat.zero_le _⟩ rfl (List.Perm.refl _) (fun _ => List.Perm.refl _) rfl (Nat.le_of_ble_eq_true rfl) (fun _ => rfl) (fun z4 h => ?_)
    exact fn_i (wc_ws g ad) fx hf (sn1 h) (sn2 h) dX3_put_16
  · refine wa_aload_n fx 1 dX3_put_17 rfl ?_
    refine wa_iload_n fx 2 dX3_put_18 rfl ?_
    refine wa_iald (f := (G 1).1 3) fx 8 rfl dX3_put_19 h (fun h => ?_)
    refine wa_istoreN fx (fun x2 => [(6, .int x2), (0, .ref (ad 0)), (1, .ref (adr ad 1 4)), (2, .int a2), (3, .int a3), (4, .int a4), (5, .int a5)]) dX3_put_20 (by decide) (fun _ => rfl) h (fun x2 h => ?_)
    refine wa_aload_n fx 2 dX3_put_22 rfl ?_
    refine wa_iload_n fx 3 dX3_put_23 rfl ?_
    refine wa_iload_n fx 4 dX3_put_24 rfl ?_
    refine wa_iast (wc_ws g ad) (f := (G 1).1 3) fx 8 rfl dX3_put_25 h rfl (fun w3 h => ?_)
    refine wa_iload fx 0 dX3_put_26 rfl ?_
    exact fn_i (wc_ws g ad) fx hf (sn1 h) (sn2 h) dX3_put_28
def f_X3_put_4  (G : Nat → StT) (a2 : Int32) (a3 : Int32) (a4 : Int32) (a5 : Int32) : Option (Int32 × (Nat → StT)) := Option.bind (f_X3_isWithin a3 a4 a5) fun z1 => if z1 = 0 then (Option.bind (f_X3_finding G (0 : Int32)) fun z4 => some (z4.1, z4.2)) else (ck a2 8 (nm ((G 1).1 4 (Int32.toNatClampNeg a2)) fun x2 => ck a2 8 (nm (gset G 1 (setA (G 1) 4 (upd ((G 1).1 4) (Int32.toNatClampNeg a2) a3))) fun w3 => some (x2, w3))))
set_option maxHeartbeats 4000000 in
set_option maxRecDepth 100000 in
theorem c_X3_put_4 {g : GT} {l : Launch} {ad : Nat → Nat}   {G : Nat → StT} {a2 : Int32} {a3 : Int32} {a4 : Int32} {a5 : Int32} {r : Int32 × (Nat → StT)} (h : f_X3_put_4 G a2 a3 a4 a5 = some r) : Ct g l yX3_put (wd yX3_put cX3_put 7 (some .int)) (rmh 2) [.ref (ad 0), .ref (adr ad 1 5), .int a2, .int a3, .int a4, .int a5] (wc_ws g ad G) (wc_ws g ad r.2) (some (.int r.1)) := by
  refine Ct.of (lv := [(0, .ref (ad 0)), (1, .ref (adr ad 1 5)), (2, .int a2), (3, .int a3), (4, .int a4), (5, .int a5)]) (by decide) (Nat.le_of_ble_eq_true rfl) rfl (fun K hl fx hf => ?_)
  subst hl
  rw [f_X3_put_4] at h
  refine wa_iload_n fx 3 dX3_put_0 rfl ?_
  refine wa_iload fx 4 dX3_put_1 rfl ?_
  refine wa_iload fx 5 dX3_put_3 rfl ?_
  refine wa_S (rmc := (rmh 1)) (As := [.int a3, .int a4, .int a5]) (st := []) (wc := (no_ws ())) (wr := (wc_ws g ad G)) (wcz := fun _ => (no_ws ())) (w2 := fun _ => (wc_ws g ad G)) (o := fun z1 => some (.int z1)) (s2 := fun z1 => [.int z1]) fx mm_X3_isWithin q_4_14 dX3_put_5 h (fun _ hz => c_X3_isWithin hz) (rm_ok (by decide) (by decide)) ⟨Nat.zero_le _, Nat.zero_le _⟩ rfl (List.Perm.of_eq (List.append_nil _).symm) (fun _ => (List.Perm.of_eq (List.append_nil _).symm)) rfl (Nat.le_of_ble_eq_true rfl) (fun _ => rfl) (fun z1 h => ?_)
  refine wa_if_ne fx 17 dX3_put_8 (by decide) h (fun h => ?_) (fun h => ?_)
  · refine wa_aload_n fx 0 dX3_put_11 rfl ?_
    refine wa_iconst fx (0 : Int32) dX3_put_12 (by decide) ?_
    refine wa_V (b := ad 0) (rmc := (rmh 1)) (As := [.int (0 : Int32)]) (st := []) (wc := (wc_ws g ad G)) (wr := ([] : va_W)) (wcz := fun z4 => wc_ws g ad z4.2) (w2 := fun z4 => wc_ws g ad z4.2) (o := fun z4 => some (.int z4.1)) (s2 := fun z4 => [.int z4.1]) (ci := 3) (q0 := 0) fx mm_X3_finding q_4_17 dX3_put_13 h (fun _ hz => c_X3_finding hz) rfl rfl (rm_ok (by decide) (by decide)) ⟨Nat.zero_le _, Nat.zero_le _⟩ rfl (List.Perm.refl _) (fun _ => List.Perm.refl _) rfl (Nat.le_of_ble_eq_true rfl) (fun _ => rfl) (fun z4 h => ?_)
    exact fn_i (wc_ws g ad) fx hf (sn1 h) (sn2 h) dX3_put_16
  · refine wa_aload_n fx 1 dX3_put_17 rfl ?_
    refine wa_iload_n fx 2 dX3_put_18 rfl ?_
    refine wa_iald (f := (G 1).1 4) fx 9 rfl dX3_put_19 h (fun h => ?_)
    refine wa_istoreN fx (fun x2 => [(6, .int x2), (0, .ref (ad 0)), (1, .ref (adr ad 1 5)), (2, .int a2), (3, .int a3), (4, .int a4), (5, .int a5)]) dX3_put_20 (by decide) (fun _ => rfl) h (fun x2 h => ?_)
    refine wa_aload_n fx 2 dX3_put_22 rfl ?_
    refine wa_iload_n fx 3 dX3_put_23 rfl ?_
    refine wa_iload_n fx 4 dX3_put_24 rfl ?_
    refine wa_iast (wc_ws g ad) (f := (G 1).1 4) fx 9 rfl dX3_put_25 h rfl (fun w3 h => ?_)
    refine wa_iload fx 0 dX3_put_26 rfl ?_
    exact fn_i (wc_ws g ad) fx hf (sn1 h) (sn2 h) dX3_put_28
def f_X3_put_5  (G : Nat → StT) (a2 : Int32) (a3 : Int32) (a4 : Int32) (a5 : Int32) : Option (Int32 × (Nat → StT)) := Option.bind (f_X3_isWithin a3 a4 a5) fun z1 => if z1 = 0 then (Option.bind (f_X3_finding G (0 : Int32)) fun z4 => some (z4.1, z4.2)) else (ck a2 8 (nm ((G 1).1 5 (Int32.toNatClampNeg a2)) fun x2 => ck a2 8 (nm (gset G 1 (setA (G 1) 5 (upd ((G 1).1 5) (Int32.toNatClampNeg a2) a3))) fun w3 => some (x2, w3))))
set_option maxHeartbeats 4000000 in
set_option maxRecDepth 100000 in
theorem c_X3_put_5 {g : GT} {l : Launch} {ad : Nat → Nat}   {G : Nat → StT} {a2 : Int32} {a3 : Int32} {a4 : Int32} {a5 : Int32} {r : Int32 × (Nat → StT)} (h : f_X3_put_5 G a2 a3 a4 a5 = some r) : Ct g l yX3_put (wd yX3_put cX3_put 7 (some .int)) (rmh 2) [.ref (ad 0), .ref (adr ad 1 6), .int a2, .int a3, .int a4, .int a5] (wc_ws g ad G) (wc_ws g ad r.2) (some (.int r.1)) := by
  refine Ct.of (lv := [(0, .ref (ad 0)), (1, .ref (adr ad 1 6)), (2, .int a2), (3, .int a3), (4, .int a4), (5, .int a5)]) (by decide) (Nat.le_of_ble_eq_true rfl) rfl (fun K hl fx hf => ?_)
  subst hl
  rw [f_X3_put_5] at h
  refine wa_iload_n fx 3 dX3_put_0 rfl ?_
  refine wa_iload fx 4 dX3_put_1 rfl ?_
  refine wa_iload fx 5 dX3_put_3 rfl ?_
  refine wa_S (rmc := (rmh 1)) (As := [.int a3, .int a4, .int a5]) (st := []) (wc := (no_ws ())) (wr := (wc_ws g ad G)) (wcz := fun _ => (no_ws ())) (w2 := fun _ => (wc_ws g ad G)) (o := fun z1 => some (.int z1)) (s2 := fun z1 => [.int z1]) fx mm_X3_isWithin q_4_14 dX3_put_5 h (fun _ hz => c_X3_isWithin hz) (rm_ok (by decide) (by decide)) ⟨Nat.zero_le _, Nat.zero_le _⟩ rfl (List.Perm.of_eq (List.append_nil _).symm) (fun _ => (List.Perm.of_eq (List.append_nil _).symm)) rfl (Nat.le_of_ble_eq_true rfl) (fun _ => rfl) (fun z1 h => ?_)
  refine wa_if_ne fx 17 dX3_put_8 (by decide) h (fun h => ?_) (fun h => ?_)
  · refine wa_aload_n fx 0 dX3_put_11 rfl ?_
    refine wa_iconst fx (0 : Int32) dX3_put_12 (by decide) ?_
    refine wa_V (b := ad 0) (rmc := (rmh 1)) (As := [.int (0 : Int32)]) (st := []) (wc := (wc_ws g ad G)) (wr := ([] : va_W)) (wcz := fun z4 => wc_ws g ad z4.2) (w2 := fun z4 => wc_ws g ad z4.2) (o := fun z4 => some (.int z4.1)) (s2 := fun z4 => [.int z4.1]) (ci := 3) (q0 := 0) fx mm_X3_finding q_4_17 dX3_put_13 h (fun _ hz => c_X3_finding hz) rfl rfl (rm_ok (by decide) (by decide)) ⟨Nat.zero_le _, Nat.zero_le _⟩ rfl (List.Perm.refl _) (fun _ => List.Perm.refl _) rfl (Nat.le_of_ble_eq_true rfl) (fun _ => rfl) (fun z4 h => ?_)
    exact fn_i (wc_ws g ad) fx hf (sn1 h) (sn2 h) dX3_put_16
  · refine wa_aload_n fx 1 dX3_put_17 rfl ?_
    refine wa_iload_n fx 2 dX3_put_18 rfl ?_
    refine wa_iald (f := (G 1).1 5) fx 10 rfl dX3_put_19 h (fun h => ?_)
    refine wa_istoreN fx (fun x2 => [(6, .int x2), (0, .ref (ad 0)), (1, .ref (adr ad 1 6)), (2, .int a2), (3, .int a3), (4, .int a4), (5, .int a5)]) dX3_put_20 (by decide) (fun _ => rfl) h (fun x2 h => ?_)
    refine wa_aload_n fx 2 dX3_put_22 rfl ?_
    refine wa_iload_n fx 3 dX3_put_23 rfl ?_
    refine wa_iload_n fx 4 dX3_put_24 rfl ?_
    refine wa_iast (wc_ws g ad) (f := (G 1).1 5) fx 10 rfl dX3_put_25 h rfl (fun w3 h => ?_)
    refine wa_iload fx 0 dX3_put_26 rfl ?_
    exact fn_i (wc_ws g ad) fx hf (sn1 h) (sn2 h) dX3_put_28
def f_X3_put_7  (G : Nat → StT) (a2 : Int32) (a3 : Int32) (a4 : Int32) (a5 : Int32) : Option (Int32 × (Nat → StT)) := Option.bind (f_X3_isWithin a3 a4 a5) fun z1 => if z1 = 0 then (Option.bind (f_X3_finding G (0 : Int32)) fun z4 => some (z4.1, z4.2)) else (ck a2 8 (nm ((G 1).1 7 (Int32.toNatClampNeg a2)) fun x2 => ck a2 8 (nm (gset G 1 (setA (G 1) 7 (upd ((G 1).1 7) (Int32.toNatClampNeg a2) a3))) fun w3 => some (x2, w3))))
set_option maxHeartbeats 4000000 in
set_option maxRecDepth 100000 in
theorem c_X3_put_7 {g : GT} {l : Launch} {ad : Nat → Nat}   {G : Nat → StT} {a2 : Int32} {a3 : Int32} {a4 : Int32} {a5 : Int32} {r : Int32 × (Nat → StT)} (h : f_X3_put_7 G a2 a3 a4 a5 = some r) : Ct g l yX3_put (wd yX3_put cX3_put 7 (some .int)) (rmh 2) [.ref (ad 0), .ref (adr ad 1 8), .int a2, .int a3, .int a4, .int a5] (wc_ws g ad G) (wc_ws g ad r.2) (some (.int r.1)) := by
  refine Ct.of (lv := [(0, .ref (ad 0)), (1, .ref (adr ad 1 8)), (2, .int a2), (3, .int a3), (4, .int a4), (5, .int a5)]) (by decide) (Nat.le_of_ble_eq_true rfl) rfl (fun K hl fx hf => ?_)
  subst hl
  rw [f_X3_put_7] at h
  refine wa_iload_n fx 3 dX3_put_0 rfl ?_
  refine wa_iload fx 4 dX3_put_1 rfl ?_
  refine wa_iload fx 5 dX3_put_3 rfl ?_
  refine wa_S (rmc := (rmh 1)) (As := [.int a3, .int a4, .int a5]) (st := []) (wc := (no_ws ())) (wr := (wc_ws g ad G)) (wcz := fun _ => (no_ws ())) (w2 := fun _ => (wc_ws g ad G)) (o := fun z1 => some (.int z1)) (s2 := fun z1 => [.int z1]) fx mm_X3_isWithin q_4_14 dX3_put_5 h (fun _ hz => c_X3_isWithin hz) (rm_ok (by decide) (by decide)) ⟨Nat.zero_le _, Nat.zero_le _⟩ rfl (List.Perm.of_eq (List.append_nil _).symm) (fun _ => (List.Perm.of_eq (List.append_nil _).symm)) rfl (Nat.le_of_ble_eq_true rfl) (fun _ => rfl) (fun z1 h => ?_)
  refine wa_if_ne fx 17 dX3_put_8 (by decide) h (fun h => ?_) (fun h => ?_)
  · refine wa_aload_n fx 0 dX3_put_11 rfl ?_
    refine wa_iconst fx (0 : Int32) dX3_put_12 (by decide) ?_
    refine wa_V (b := ad 0) (rmc := (rmh 1)) (As := [.int (0 : Int32)]) (st := []) (wc := (wc_ws g ad G)) (wr := ([] : va_W)) (wcz := fun z4 => wc_ws g ad z4.2) (w2 := fun z4 => wc_ws g ad z4.2) (o := fun z4 => some (.int z4.1)) (s2 := fun z4 => [.int z4.1]) (ci := 3) (q0 := 0) fx mm_X3_finding q_4_17 dX3_put_13 h (fun _ hz => c_X3_finding hz) rfl rfl (rm_ok (by decide) (by decide)) ⟨Nat.zero_le _, Nat.zero_le _⟩ rfl (List.Perm.refl _) (fun _ => List.Perm.refl _) rfl (Nat.le_of_ble_eq_true rfl) (fun _ => rfl) (fun z4 h => ?_)
    exact fn_i (wc_ws g ad) fx hf (sn1 h) (sn2 h) dX3_put_16
  · refine wa_aload_n fx 1 dX3_put_17 rfl ?_
    refine wa_iload_n fx 2 dX3_put_18 rfl ?_
    refine wa_iald (f := (G 1).1 7) fx 12 rfl dX3_put_19 h (fun h => ?_)
    refine wa_istoreN fx (fun x2 => [(6, .int x2), (0, .ref (ad 0)), (1, .ref (adr ad 1 8)), (2, .int a2), (3, .int a3), (4, .int a4), (5, .int a5)]) dX3_put_20 (by decide) (fun _ => rfl) h (fun x2 h => ?_)
    refine wa_aload_n fx 2 dX3_put_22 rfl ?_
    refine wa_iload_n fx 3 dX3_put_23 rfl ?_
    refine wa_iload_n fx 4 dX3_put_24 rfl ?_
    refine wa_iast (wc_ws g ad) (f := (G 1).1 7) fx 12 rfl dX3_put_25 h rfl (fun w3 h => ?_)
    refine wa_iload fx 0 dX3_put_26 rfl ?_
    exact fn_i (wc_ws g ad) fx hf (sn1 h) (sn2 h) dX3_put_28
def f_X3_set  (G : Nat → StT) (a1 : Int32) (a2 : Int32) (a3 : Int32) : Option (Int32 × (Nat → StT)) := Option.bind (f_X3_isThere G a1) fun z1 => if z1 = 0 then (Option.bind (f_X3_finding G (0 : Int32)) fun z6 => some (z6.1, z6.2)) else (if a2 = (1 : Int32) then (Option.bind (f_X3_put_4 G a1 a3 (0 : Int32) (99 : Int32)) fun z2 => some (z2.1, z2.2)) else (if a2 = (2 : Int32) then (Option.bind (f_X3_put_5 G a1 a3 (-1 : Int32) (7 : Int32)) fun z3 => some (z3.1, z3.2)) else (if a2 = (4 : Int32) then (Option.bind (f_X3_put_7 G a1 a3 (0 : Int32) (9999 : Int32)) fun z4 => some (z4.1, z4.2)) else (Option.bind (f_X3_finding G (0 : Int32)) fun z5 => some (z5.1, z5.2)))))
set_option maxHeartbeats 4000000 in
set_option maxRecDepth 100000 in
theorem c_X3_set {g : GT} {l : Launch} {ad : Nat → Nat}   {G : Nat → StT} {a1 : Int32} {a2 : Int32} {a3 : Int32} {r : Int32 × (Nat → StT)} (h : f_X3_set G a1 a2 a3 = some r) : Ct g l yX3_set (wd yX3_set cX3_set 4 (some .int)) (rmh 3) [.ref (ad 0), .int a1, .int a2, .int a3] (wc_ws g ad G) (wc_ws g ad r.2) (some (.int r.1)) := by
  refine Ct.of (lv := [(0, .ref (ad 0)), (1, .int a1), (2, .int a2), (3, .int a3)]) (by decide) (Nat.le_of_ble_eq_true rfl) rfl (fun K hl fx hf => ?_)
  subst hl
  rw [f_X3_set] at h
  refine wa_aload_n fx 0 dX3_set_0 rfl ?_
  refine wa_iload_n fx 1 dX3_set_1 rfl ?_
  refine wa_V (b := ad 0) (rmc := (rmh 2)) (As := [.int a1]) (st := []) (wc := (wc_ws g ad G)) (wr := ([] : va_W)) (wcz := fun _ => (wc_ws g ad G)) (w2 := fun _ => (wc_ws g ad G)) (o := fun z1 => some (.int z1)) (s2 := fun z1 => [.int z1]) (ci := 3) (q0 := 0) fx mm_X3_isThere q_8_5 dX3_set_2 h (fun _ hz => c_X3_isThere hz) rfl rfl (rm_ok (by decide) (by decide)) ⟨Nat.zero_le _, Nat.zero_le _⟩ rfl (List.Perm.refl _) (fun _ => (List.Perm.refl _)) rfl (Nat.le_of_ble_eq_true rfl) (fun _ => rfl) (fun z1 h => ?_)
  refine wa_if_ne fx 14 dX3_set_5 (by decide) h (fun h => ?_) (fun h => ?_)
  · refine wa_aload_n fx 0 dX3_set_8 rfl ?_
    refine wa_iconst fx (0 : Int32) dX3_set_9 (by decide) ?_
    refine wa_V (b := ad 0) (rmc := (rmh 1)) (As := [.int (0 : Int32)]) (st := []) (wc := (wc_ws g ad G)) (wr := ([] : va_W)) (wcz := fun z6 => wc_ws g ad z6.2) (w2 := fun z6 => wc_ws g ad z6.2) (o := fun z6 => some (.int z6.1)) (s2 := fun z6 => [.int z6.1]) (ci := 3) (q0 := 0) fx mm_X3_finding q_4_17 dX3_set_10 h (fun _ hz => c_X3_finding hz) rfl rfl (rm_ok (by decide) (by decide)) ⟨Nat.zero_le _, Nat.zero_le _⟩ rfl (List.Perm.refl _) (fun _ => List.Perm.refl _) rfl (Nat.le_of_ble_eq_true rfl) (fun _ => rfl) (fun z6 h => ?_)
    exact fn_i (wc_ws g ad) fx hf (sn1 h) (sn2 h) dX3_set_13
  · refine wa_iload_n fx 2 dX3_set_14 rfl ?_
    by_cases c0 : a2 = (1 : Int32)
    · have h := (if_pos c0).symm.trans h
      refine wa_tabI fx 44 (1 : Int) dX3_set_15 (by rw [c0] <;> rfl) (by decide) (by decide) (by rfl) (by decide) ?_
      refine wa_aload_n fx 0 dX3_set_44 rfl ?_
      refine wa_aload_n fx 0 dX3_set_45 rfl ?_
      refine wa_get (v := .ref ((adr ad 1) 0)) fx wm_X3 0 rfl rfl 0 (by decide) q_1_16 rfl rfl dX3_set_46 ?_
      refine wa_get (v := .ref ((adr ad 1) 5)) fx wm_X0 4 rfl rfl 4 (by decide) q_8_0 rfl rfl dX3_set_49 ?_
      refine wa_iload_n fx 1 dX3_set_52 rfl ?_
      refine wa_iload_n fx 3 dX3_set_53 rfl ?_
      refine wa_iconst fx (0 : Int32) dX3_set_54 (by decide) ?_
      refine wa_bipush fx (99 : Int32) dX3_set_55 (by decide) ?_
      refine wa_V (b := ad 0) (rmc := (rmh 2)) (As := [.ref ((adr ad 1) 5), .int a1, .int a3, .int (0 : Int32), .int (99 : Int32)]) (st := []) (wc := (wc_ws g ad G)) (wr := ([] : va_W)) (wcz := fun z2 => wc_ws g ad z2.2) (w2 := fun z2 => wc_ws g ad z2.2) (o := fun z2 => some (.int z2.1)) (s2 := fun z2 => [.int z2.1]) (ci := 3) (q0 := 0) fx mm_X3_put q_9_6 dX3_set_57 h (fun _ hz => c_X3_put_4 hz) rfl rfl (rm_ok (by decide) (by decide)) ⟨Nat.zero_le _, Nat.zero_le _⟩ rfl (List.Perm.refl _) (fun _ => List.Perm.refl _) rfl (Nat.le_of_ble_eq_true rfl) (fun _ => rfl) (fun z2 h => ?_)
      exact fn_i (wc_ws g ad) fx hf (sn1 h) (sn2 h) dX3_set_60
    · have h := (if_neg c0).symm.trans h
      by_cases c1 : a2 = (2 : Int32)
      · have h := (if_pos c1).symm.trans h
        refine wa_tabI fx 61 (2 : Int) dX3_set_15 (by rw [c1] <;> rfl) (by decide) (by decide) (by rfl) (by decide) ?_
        refine wa_aload_n fx 0 dX3_set_61 rfl ?_
        refine wa_aload_n fx 0 dX3_set_62 rfl ?_
        refine wa_get (v := .ref ((adr ad 1) 0)) fx wm_X3 0 rfl rfl 0 (by decide) q_1_16 rfl rfl dX3_set_63 ?_
        refine wa_get (v := .ref ((adr ad 1) 6)) fx wm_X0 4 rfl rfl 5 (by decide) q_8_1 rfl rfl dX3_set_66 ?_
        refine wa_iload_n fx 1 dX3_set_69 rfl ?_
        refine wa_iload_n fx 3 dX3_set_70 rfl ?_
        refine wa_iconst fx (-1 : Int32) dX3_set_71 (by decide) ?_
        refine wa_bipush fx (7 : Int32) dX3_set_72 (by decide) ?_
        refine wa_V (b := ad 0) (rmc := (rmh 2)) (As := [.ref ((adr ad 1) 6), .int a1, .int a3, .int (-1 : Int32), .int (7 : Int32)]) (st := []) (wc := (wc_ws g ad G)) (wr := ([] : va_W)) (wcz := fun z3 => wc_ws g ad z3.2) (w2 := fun z3 => wc_ws g ad z3.2) (o := fun z3 => some (.int z3.1)) (s2 := fun z3 => [.int z3.1]) (ci := 3) (q0 := 0) fx mm_X3_put q_9_6 dX3_set_74 h (fun _ hz => c_X3_put_5 hz) rfl rfl (rm_ok (by decide) (by decide)) ⟨Nat.zero_le _, Nat.zero_le _⟩ rfl (List.Perm.refl _) (fun _ => List.Perm.refl _) rfl (Nat.le_of_ble_eq_true rfl) (fun _ => rfl) (fun z3 h => ?_)
        exact fn_i (wc_ws g ad) fx hf (sn1 h) (sn2 h) dX3_set_77
      · have h := (if_neg c1).symm.trans h
        by_cases c2 : a2 = (4 : Int32)
        · have h := (if_pos c2).symm.trans h
          refine wa_tabI fx 78 (4 : Int) dX3_set_15 (by rw [c2] <;> rfl) (by decide) (by decide) (by rfl) (by decide) ?_
          refine wa_aload_n fx 0 dX3_set_78 rfl ?_
          refine wa_aload_n fx 0 dX3_set_79 rfl ?_
          refine wa_get (v := .ref ((adr ad 1) 0)) fx wm_X3 0 rfl rfl 0 (by decide) q_1_16 rfl rfl dX3_set_80 ?_
          refine wa_get (v := .ref ((adr ad 1) 8)) fx wm_X0 4 rfl rfl 7 (by decide) q_8_3 rfl rfl dX3_set_83 ?_
          refine wa_iload_n fx 1 dX3_set_86 rfl ?_
          refine wa_iload_n fx 3 dX3_set_87 rfl ?_
          refine wa_iconst fx (0 : Int32) dX3_set_88 (by decide) ?_
          refine wa_sipush fx (9999 : Int32) dX3_set_89 (by decide) ?_
          refine wa_V (b := ad 0) (rmc := (rmh 2)) (As := [.ref ((adr ad 1) 8), .int a1, .int a3, .int (0 : Int32), .int (9999 : Int32)]) (st := []) (wc := (wc_ws g ad G)) (wr := ([] : va_W)) (wcz := fun z4 => wc_ws g ad z4.2) (w2 := fun z4 => wc_ws g ad z4.2) (o := fun z4 => some (.int z4.1)) (s2 := fun z4 => [.int z4.1]) (ci := 3) (q0 := 0) fx mm_X3_put q_9_6 dX3_set_92 h (fun _ hz => c_X3_put_7 hz) rfl rfl (rm_ok (by decide) (by decide)) ⟨Nat.zero_le _, Nat.zero_le _⟩ rfl (List.Perm.refl _) (fun _ => List.Perm.refl _) rfl (Nat.le_of_ble_eq_true rfl) (fun _ => rfl) (fun z4 h => ?_)
          exact fn_i (wc_ws g ad) fx hf (sn1 h) (sn2 h) dX3_set_95
        · have h := (if_neg c2).symm.trans h
          refine wa_tabD fx 96 dX3_set_15 (by decide) [(1 : Int32), (2 : Int32), (4 : Int32)] (by decide) (List.forall_mem_cons.mpr ⟨c0, (List.forall_mem_cons.mpr ⟨c1, (List.forall_mem_cons.mpr ⟨c2, (fun _ hm => absurd hm List.not_mem_nil)⟩)⟩)⟩) ?_
          refine wa_aload_n fx 0 dX3_set_96 rfl ?_
          refine wa_iconst fx (0 : Int32) dX3_set_97 (by decide) ?_
          refine wa_V (b := ad 0) (rmc := (rmh 1)) (As := [.int (0 : Int32)]) (st := []) (wc := (wc_ws g ad G)) (wr := ([] : va_W)) (wcz := fun z5 => wc_ws g ad z5.2) (w2 := fun z5 => wc_ws g ad z5.2) (o := fun z5 => some (.int z5.1)) (s2 := fun z5 => [.int z5.1]) (ci := 3) (q0 := 0) fx mm_X3_finding q_4_17 dX3_set_98 h (fun _ hz => c_X3_finding hz) rfl rfl (rm_ok (by decide) (by decide)) ⟨Nat.zero_le _, Nat.zero_le _⟩ rfl (List.Perm.refl _) (fun _ => List.Perm.refl _) rfl (Nat.le_of_ble_eq_true rfl) (fun _ => rfl) (fun z5 h => ?_)
          exact fn_i (wc_ws g ad) fx hf (sn1 h) (sn2 h) dX3_set_101
def f_X3_turn  (G : Nat → StT) (a1 : Int32) (a2 : Int32) : Option (Int32 × (Nat → StT)) := Option.bind (f_X3_isThere G a1) fun z1 => if z1 = 0 then (Option.bind (f_X3_finding G (0 : Int32)) fun z3 => some (z3.1, z3.2)) else (Option.bind (f_X3_put_3 G a1 a2 (0 : Int32) (5 : Int32)) fun z2 => some (z2.1, z2.2))
set_option maxHeartbeats 4000000 in
set_option maxRecDepth 100000 in
theorem c_X3_turn {g : GT} {l : Launch} {ad : Nat → Nat}   {G : Nat → StT} {a1 : Int32} {a2 : Int32} {r : Int32 × (Nat → StT)} (h : f_X3_turn G a1 a2 = some r) : Ct g l yX3_turn (wd yX3_turn cX3_turn 3 (some .int)) (rmh 3) [.ref (ad 0), .int a1, .int a2] (wc_ws g ad G) (wc_ws g ad r.2) (some (.int r.1)) := by
  refine Ct.of (lv := [(0, .ref (ad 0)), (1, .int a1), (2, .int a2)]) (by decide) (Nat.le_of_ble_eq_true rfl) rfl (fun K hl fx hf => ?_)
  subst hl
  rw [f_X3_turn] at h
  refine wa_aload_n fx 0 dX3_turn_0 rfl ?_
  refine wa_iload_n fx 1 dX3_turn_1 rfl ?_
  refine wa_V (b := ad 0) (rmc := (rmh 2)) (As := [.int a1]) (st := []) (wc := (wc_ws g ad G)) (wr := ([] : va_W)) (wcz := fun _ => (wc_ws g ad G)) (w2 := fun _ => (wc_ws g ad G)) (o := fun z1 => some (.int z1)) (s2 := fun z1 => [.int z1]) (ci := 3) (q0 := 0) fx mm_X3_isThere q_8_5 dX3_turn_2 h (fun _ hz => c_X3_isThere hz) rfl rfl (rm_ok (by decide) (by decide)) ⟨Nat.zero_le _, Nat.zero_le _⟩ rfl (List.Perm.refl _) (fun _ => (List.Perm.refl _)) rfl (Nat.le_of_ble_eq_true rfl) (fun _ => rfl) (fun z1 h => ?_)
  refine wa_if_ne fx 14 dX3_turn_5 (by decide) h (fun h => ?_) (fun h => ?_)
  · refine wa_aload_n fx 0 dX3_turn_8 rfl ?_
    refine wa_iconst fx (0 : Int32) dX3_turn_9 (by decide) ?_
    refine wa_V (b := ad 0) (rmc := (rmh 1)) (As := [.int (0 : Int32)]) (st := []) (wc := (wc_ws g ad G)) (wr := ([] : va_W)) (wcz := fun z3 => wc_ws g ad z3.2) (w2 := fun z3 => wc_ws g ad z3.2) (o := fun z3 => some (.int z3.1)) (s2 := fun z3 => [.int z3.1]) (ci := 3) (q0 := 0) fx mm_X3_finding q_4_17 dX3_turn_10 h (fun _ hz => c_X3_finding hz) rfl rfl (rm_ok (by decide) (by decide)) ⟨Nat.zero_le _, Nat.zero_le _⟩ rfl (List.Perm.refl _) (fun _ => List.Perm.refl _) rfl (Nat.le_of_ble_eq_true rfl) (fun _ => rfl) (fun z3 h => ?_)
    exact fn_i (wc_ws g ad) fx hf (sn1 h) (sn2 h) dX3_turn_13
  · refine wa_aload_n fx 0 dX3_turn_14 rfl ?_
    refine wa_aload_n fx 0 dX3_turn_15 rfl ?_
    refine wa_get (v := .ref ((adr ad 1) 0)) fx wm_X3 0 rfl rfl 0 (by decide) q_1_16 rfl rfl dX3_turn_16 ?_
    refine wa_get (v := .ref ((adr ad 1) 4)) fx wm_X0 4 rfl rfl 3 (by decide) q_7_23 rfl rfl dX3_turn_19 ?_
    refine wa_iload_n fx 1 dX3_turn_22 rfl ?_
    refine wa_iload_n fx 2 dX3_turn_23 rfl ?_
    refine wa_iconst fx (0 : Int32) dX3_turn_24 (by decide) ?_
    refine wa_iconst fx (5 : Int32) dX3_turn_25 (by decide) ?_
    refine wa_V (b := ad 0) (rmc := (rmh 2)) (As := [.ref ((adr ad 1) 4), .int a1, .int a2, .int (0 : Int32), .int (5 : Int32)]) (st := []) (wc := (wc_ws g ad G)) (wr := ([] : va_W)) (wcz := fun z2 => wc_ws g ad z2.2) (w2 := fun z2 => wc_ws g ad z2.2) (o := fun z2 => some (.int z2.1)) (s2 := fun z2 => [.int z2.1]) (ci := 3) (q0 := 0) fx mm_X3_put q_9_6 dX3_turn_26 h (fun _ hz => c_X3_put_3 hz) rfl rfl (rm_ok (by decide) (by decide)) ⟨Nat.zero_le _, Nat.zero_le _⟩ rfl (List.Perm.refl _) (fun _ => List.Perm.refl _) rfl (Nat.le_of_ble_eq_true rfl) (fun _ => rfl) (fun z2 h => ?_)
    exact fn_i (wc_ws g ad) fx hf (sn1 h) (sn2 h) dX3_turn_29
def f_X3_as  (G : Nat → StT) (a1 : Int32) (a2 : Int32) : Option (Int32 × (Nat → StT)) := Option.bind (f_X3_isThere G a1) fun z1 => if z1 = 0 then (Option.bind (f_X3_finding G (0 : Int32)) fun z2 => some (z2.1, z2.2)) else (Option.bind (f_X3_isKind a2) fun z3 => if z3 = 0 then (Option.bind (f_X3_finding G (0 : Int32)) fun z6 => some (z6.1, z6.2)) else (ck a1 8 (Option.bind (f_X3_isOfKind ((G 1).1 3 (Int32.toNatClampNeg a1)) a2) fun z4 => if z4 = 0 then (Option.bind (f_X3_finding G (2 : Int32)) fun z5 => some (z5.1, z5.2)) else (ck a1 8 (some (((G 1).1 4 (Int32.toNatClampNeg a1)), G))))))
set_option maxHeartbeats 4000000 in
set_option maxRecDepth 100000 in
theorem c_X3_as {g : GT} {l : Launch} {ad : Nat → Nat}   {G : Nat → StT} {a1 : Int32} {a2 : Int32} {r : Int32 × (Nat → StT)} (h : f_X3_as G a1 a2 = some r) : Ct g l yX3_as (wd yX3_as cX3_as 3 (some .int)) (rmh 3) [.ref (ad 0), .int a1, .int a2] (wc_ws g ad G) (wc_ws g ad r.2) (some (.int r.1)) := by
  refine Ct.of (lv := [(0, .ref (ad 0)), (1, .int a1), (2, .int a2)]) (by decide) (Nat.le_of_ble_eq_true rfl) rfl (fun K hl fx hf => ?_)
  subst hl
  rw [f_X3_as] at h
  refine wa_aload_n fx 0 dX3_as_0 rfl ?_
  refine wa_iload_n fx 1 dX3_as_1 rfl ?_
  refine wa_V (b := ad 0) (rmc := (rmh 2)) (As := [.int a1]) (st := []) (wc := (wc_ws g ad G)) (wr := ([] : va_W)) (wcz := fun _ => (wc_ws g ad G)) (w2 := fun _ => (wc_ws g ad G)) (o := fun z1 => some (.int z1)) (s2 := fun z1 => [.int z1]) (ci := 3) (q0 := 0) fx mm_X3_isThere q_8_5 dX3_as_2 h (fun _ hz => c_X3_isThere hz) rfl rfl (rm_ok (by decide) (by decide)) ⟨Nat.zero_le _, Nat.zero_le _⟩ rfl (List.Perm.refl _) (fun _ => (List.Perm.refl _)) rfl (Nat.le_of_ble_eq_true rfl) (fun _ => rfl) (fun z1 h => ?_)
  refine wa_if_eq fx 15 dX3_as_5 (by decide) h (fun h => ?_) (fun h => ?_)
  · refine wa_aload_n fx 0 dX3_as_15 rfl ?_
    refine wa_iconst fx (0 : Int32) dX3_as_16 (by decide) ?_
    refine wa_V (b := ad 0) (rmc := (rmh 1)) (As := [.int (0 : Int32)]) (st := []) (wc := (wc_ws g ad G)) (wr := ([] : va_W)) (wcz := fun z2 => wc_ws g ad z2.2) (w2 := fun z2 => wc_ws g ad z2.2) (o := fun z2 => some (.int z2.1)) (s2 := fun z2 => [.int z2.1]) (ci := 3) (q0 := 0) fx mm_X3_finding q_4_17 dX3_as_17 h (fun _ hz => c_X3_finding hz) rfl rfl (rm_ok (by decide) (by decide)) ⟨Nat.zero_le _, Nat.zero_le _⟩ rfl (List.Perm.refl _) (fun _ => List.Perm.refl _) rfl (Nat.le_of_ble_eq_true rfl) (fun _ => rfl) (fun z2 h => ?_)
    exact fn_i (wc_ws g ad) fx hf (sn1 h) (sn2 h) dX3_as_20
  · refine wa_iload_n fx 2 dX3_as_8 rfl ?_
    refine wa_S (rmc := (rmh 2)) (As := [.int a2]) (st := []) (wc := (no_ws ())) (wr := (wc_ws g ad G)) (wcz := fun _ => (no_ws ())) (w2 := fun _ => (wc_ws g ad G)) (o := fun z3 => some (.int z3)) (s2 := fun z3 => [.int z3]) fx mm_X3_isKind q_6_22 dX3_as_9 h (fun _ hz => c_X3_isKind hz) (rm_ok (by decide) (by decide)) ⟨Nat.zero_le _, Nat.zero_le _⟩ rfl (List.Perm.of_eq (List.append_nil _).symm) (fun _ => (List.Perm.of_eq (List.append_nil _).symm)) rfl (Nat.le_of_ble_eq_true rfl) (fun _ => rfl) (fun z3 h => ?_)
    refine wa_if_ne fx 21 dX3_as_12 (by decide) h (fun h => ?_) (fun h => ?_)
    · refine wa_aload_n fx 0 dX3_as_15 rfl ?_
      refine wa_iconst fx (0 : Int32) dX3_as_16 (by decide) ?_
      refine wa_V (b := ad 0) (rmc := (rmh 1)) (As := [.int (0 : Int32)]) (st := []) (wc := (wc_ws g ad G)) (wr := ([] : va_W)) (wcz := fun z6 => wc_ws g ad z6.2) (w2 := fun z6 => wc_ws g ad z6.2) (o := fun z6 => some (.int z6.1)) (s2 := fun z6 => [.int z6.1]) (ci := 3) (q0 := 0) fx mm_X3_finding q_4_17 dX3_as_17 h (fun _ hz => c_X3_finding hz) rfl rfl (rm_ok (by decide) (by decide)) ⟨Nat.zero_le _, Nat.zero_le _⟩ rfl (List.Perm.refl _) (fun _ => List.Perm.refl _) rfl (Nat.le_of_ble_eq_true rfl) (fun _ => rfl) (fun z6 h => ?_)
      exact fn_i (wc_ws g ad) fx hf (sn1 h) (sn2 h) dX3_as_20
    · refine wa_aload_n fx 0 dX3_as_21 rfl ?_
      refine wa_get (v := .ref ((adr ad 1) 0)) fx wm_X3 0 rfl rfl 0 (by decide) q_1_16 rfl rfl dX3_as_22 ?_
      refine wa_get (v := .ref ((adr ad 1) 4)) fx wm_X0 4 rfl rfl 3 (by decide) q_7_23 rfl rfl dX3_as_25 ?_
      refine wa_iload_n fx 1 dX3_as_28 rfl ?_
      refine wa_iald (f := (G 1).1 3) fx 8 rfl dX3_as_29 h (fun h => ?_)
      refine wa_iload_n fx 2 dX3_as_30 rfl ?_
      refine wa_S (rmc := (rmh 1)) (As := [.int ((G 1).1 3 (Int32.toNatClampNeg a1)), .int a2]) (st := []) (wc := (no_ws ())) (wr := (wc_ws g ad G)) (wcz := fun _ => (no_ws ())) (w2 := fun _ => (wc_ws g ad G)) (o := fun z4 => some (.int z4)) (s2 := fun z4 => [.int z4]) fx mm_X3_isOfKind q_10_8 dX3_as_31 h (fun _ hz => c_X3_isOfKind hz) (rm_ok (by decide) (by decide)) ⟨Nat.zero_le _, Nat.zero_le _⟩ rfl (List.Perm.of_eq (List.append_nil _).symm) (fun _ => (List.Perm.of_eq (List.append_nil _).symm)) rfl (Nat.le_of_ble_eq_true rfl) (fun _ => rfl) (fun z4 h => ?_)
      refine wa_if_ne fx 43 dX3_as_34 (by decide) h (fun h => ?_) (fun h => ?_)
      · refine wa_aload_n fx 0 dX3_as_37 rfl ?_
        refine wa_iconst fx (2 : Int32) dX3_as_38 (by decide) ?_
        refine wa_V (b := ad 0) (rmc := (rmh 1)) (As := [.int (2 : Int32)]) (st := []) (wc := (wc_ws g ad G)) (wr := ([] : va_W)) (wcz := fun z5 => wc_ws g ad z5.2) (w2 := fun z5 => wc_ws g ad z5.2) (o := fun z5 => some (.int z5.1)) (s2 := fun z5 => [.int z5.1]) (ci := 3) (q0 := 0) fx mm_X3_finding q_4_17 dX3_as_39 h (fun _ hz => c_X3_finding hz) rfl rfl (rm_ok (by decide) (by decide)) ⟨Nat.zero_le _, Nat.zero_le _⟩ rfl (List.Perm.refl _) (fun _ => List.Perm.refl _) rfl (Nat.le_of_ble_eq_true rfl) (fun _ => rfl) (fun z5 h => ?_)
        exact fn_i (wc_ws g ad) fx hf (sn1 h) (sn2 h) dX3_as_42
      · refine wa_aload_n fx 0 dX3_as_43 rfl ?_
        refine wa_get (v := .ref ((adr ad 1) 0)) fx wm_X3 0 rfl rfl 0 (by decide) q_1_16 rfl rfl dX3_as_44 ?_
        refine wa_get (v := .ref ((adr ad 1) 5)) fx wm_X0 4 rfl rfl 4 (by decide) q_8_0 rfl rfl dX3_as_47 ?_
        refine wa_iload_n fx 1 dX3_as_50 rfl ?_
        refine wa_iald (f := (G 1).1 4) fx 9 rfl dX3_as_51 h (fun h => ?_)
        exact fn_i (wc_ws g ad) fx hf (sn1 h) (sn2 h) dX3_as_52
def f_X3_areTwo (st : Nat → StT) (a1 : Int32) (a2 : Int32) : Option (Int32) := Option.bind (f_X3_isThere st a1) fun z1 => if z1 = 0 then (some (0 : Int32)) else (Option.bind (f_X3_isThere st a2) fun z2 => if z2 = 0 then (some (0 : Int32)) else (if a1 = a2 then (some (0 : Int32)) else (some (1 : Int32))))
set_option maxHeartbeats 4000000 in
set_option maxRecDepth 100000 in
theorem c_X3_areTwo {g : GT} {l : Launch} {ad : Nat → Nat}   {st : Nat → StT} {a1 : Int32} {a2 : Int32} {r : Int32} (h : f_X3_areTwo st a1 a2 = some r) : Ct g l yX3_areTwo (wd yX3_areTwo cX3_areTwo 3 (some .boolean)) (rmh 3) [.ref (ad 0), .int a1, .int a2] (wc_ws g ad st) (wc_ws g ad st) (some (.int r)) := by
  refine Ct.of (lv := [(0, .ref (ad 0)), (1, .int a1), (2, .int a2)]) (by decide) (Nat.le_of_ble_eq_true rfl) rfl (fun K hl fx hf => ?_)
  subst hl
  rw [f_X3_areTwo] at h
  refine wa_aload_n fx 0 dX3_areTwo_0 rfl ?_
  refine wa_iload_n fx 1 dX3_areTwo_1 rfl ?_
  refine wa_V (b := ad 0) (rmc := (rmh 2)) (As := [.int a1]) (st := []) (wc := (wc_ws g ad st)) (wr := ([] : va_W)) (wcz := fun _ => (wc_ws g ad st)) (w2 := fun _ => (wc_ws g ad st)) (o := fun z1 => some (.int z1)) (s2 := fun z1 => [.int z1]) (ci := 3) (q0 := 0) fx mm_X3_isThere q_8_5 dX3_areTwo_2 h (fun _ hz => c_X3_isThere hz) rfl rfl (rm_ok (by decide) (by decide)) ⟨Nat.zero_le _, Nat.zero_le _⟩ rfl (List.Perm.refl _) (fun _ => (List.Perm.refl _)) rfl (Nat.le_of_ble_eq_true rfl) (fun _ => rfl) (fun z1 h => ?_)
  refine wa_if_eq fx 25 dX3_areTwo_5 (by decide) h (fun h => ?_) (fun h => ?_)
  · refine wa_iconst fx (0 : Int32) dX3_areTwo_25 (by decide) ?_
    exact fn_z (wc_ws g ad) fx hf (by decide) (Option.some.inj h) rfl dX3_areTwo_26
  · refine wa_aload_n fx 0 dX3_areTwo_8 rfl ?_
    refine wa_iload_n fx 2 dX3_areTwo_9 rfl ?_
    refine wa_V (b := ad 0) (rmc := (rmh 2)) (As := [.int a2]) (st := []) (wc := (wc_ws g ad st)) (wr := ([] : va_W)) (wcz := fun _ => (wc_ws g ad st)) (w2 := fun _ => (wc_ws g ad st)) (o := fun z2 => some (.int z2)) (s2 := fun z2 => [.int z2]) (ci := 3) (q0 := 0) fx mm_X3_isThere q_8_5 dX3_areTwo_10 h (fun _ hz => c_X3_isThere hz) rfl rfl (rm_ok (by decide) (by decide)) ⟨Nat.zero_le _, Nat.zero_le _⟩ rfl (List.Perm.refl _) (fun _ => (List.Perm.refl _)) rfl (Nat.le_of_ble_eq_true rfl) (fun _ => rfl) (fun z2 h => ?_)
    refine wa_if_eq fx 25 dX3_areTwo_13 (by decide) h (fun h => ?_) (fun h => ?_)
    · refine wa_iconst fx (0 : Int32) dX3_areTwo_25 (by decide) ?_
      exact fn_z (wc_ws g ad) fx hf (by decide) (Option.some.inj h) rfl dX3_areTwo_26
    · refine wa_iload_n fx 1 dX3_areTwo_16 rfl ?_
      refine wa_iload_n fx 2 dX3_areTwo_17 rfl ?_
      refine wa_icmp_eq fx 25 dX3_areTwo_18 (by decide) h (fun h => ?_) (fun h => ?_)
      · refine wa_iconst fx (0 : Int32) dX3_areTwo_25 (by decide) ?_
        exact fn_z (wc_ws g ad) fx hf (by decide) (Option.some.inj h) rfl dX3_areTwo_26
      · refine wa_iconst fx (1 : Int32) dX3_areTwo_21 (by decide) ?_
        refine wa_goto fx 26 dX3_areTwo_22 (by decide) ?_
        exact fn_z (wc_ws g ad) fx hf (by decide) (Option.some.inj h) rfl dX3_areTwo_26
def f_X3_quarrel_b41 (x5 : Int32) (x6 : Int32) (x7 : Int32) (x8 : Int32) (w9 : Nat → StT) : Option (Int32 × (Nat → StT)) := if x7 = (1 : Int32) then (Option.bind (f_X0_putAtOdds (w9 1) x5 x6 (1 : Int32)) fun z12 => nm (gset w9 1 z12) fun w13 => some (x8, w13)) else (Option.bind (f_X0_putAtOdds (w9 1) x5 x6 (0 : Int32)) fun z10 => nm (gset w9 1 z10) fun w11 => some (x8, w11))
def f_X3_quarrel  (G : Nat → StT) (a1 : Int32) (a2 : Int32) (a3 : Int32) : Option (Int32 × (Nat → StT)) := Option.bind (f_X3_areTwo G a1 a2) fun z1 => if z1 = 0 then (Option.bind (f_X3_finding G (0 : Int32)) fun z2 => some (z2.1, z2.2)) else (Option.bind (f_X3_isWithin a3 (0 : Int32) (1 : Int32)) fun z3 => if z3 = 0 then (Option.bind (f_X3_finding G (0 : Int32)) fun z14 => some (z14.1, z14.2)) else (Option.bind (f_X0_areAtOdds (G 1) a1 a2) fun z4 => if z4 = 0 then (f_X3_quarrel_b41 a1 a2 a3 (0 : Int32) G) else (f_X3_quarrel_b41 a1 a2 a3 (1 : Int32) G)))
set_option maxHeartbeats 4000000 in
set_option maxRecDepth 100000 in
theorem c_X3_quarrel {g : GT} {l : Launch} {ad : Nat → Nat}   {G : Nat → StT} {a1 : Int32} {a2 : Int32} {a3 : Int32} {r : Int32 × (Nat → StT)} (h : f_X3_quarrel G a1 a2 a3 = some r) : Ct g l yX3_quarrel (wd yX3_quarrel cX3_quarrel 5 (some .int)) (rmh 4) [.ref (ad 0), .int a1, .int a2, .int a3] (wc_ws g ad G) (wc_ws g ad r.2) (some (.int r.1)) := by
  refine Ct.of (lv := [(0, .ref (ad 0)), (1, .int a1), (2, .int a2), (3, .int a3)]) (by decide) (Nat.le_of_ble_eq_true rfl) rfl (fun K hl fx hf => ?_)
  subst hl
  rw [f_X3_quarrel] at h
  have B41 : ∀  (x5 : Int32) (x6 : Int32) (x7 : Int32) (x8 : Int32) (w9 : Nat → StT), f_X3_quarrel_b41 x5 x6 x7 x8 w9 = some r → WA g K 5 0 0 41 [(0, .ref (ad 0)), (1, .int x5), (2, .int x6), (3, .int x7)] [.int x8] (wc_ws g ad w9) := by
    intro   x5 x6 x7 x8 w9 h
    rw [f_X3_quarrel_b41] at h
    refine wa_istore fx [(4, .int x8), (0, .ref (ad 0)), (1, .int x5), (2, .int x6), (3, .int x7)] dX3_quarrel_41 (by decide) rfl ?_
    refine wa_aload_n fx 1 dX3_quarrel_43 rfl ?_
    refine wa_get (v := .ref ((adr ad 1) 0)) fx wm_X3 0 rfl rfl 0 (by decide) q_1_16 rfl rfl dX3_quarrel_44 ?_
    refine wa_iload_n fx 2 dX3_quarrel_47 rfl ?_
    refine wa_iload_n fx 3 dX3_quarrel_48 rfl ?_
    refine wa_iload_n fx 4 dX3_quarrel_49 rfl ?_
    refine wa_iconst fx (1 : Int32) dX3_quarrel_50 (by decide) ?_
    refine wa_icmp_ne fx 58 dX3_quarrel_51 (by decide) h (fun h => ?_) (fun h => ?_)
    · refine wa_iconst fx (1 : Int32) dX3_quarrel_54 (by decide) ?_
      refine wa_goto fx 59 dX3_quarrel_55 (by decide) ?_
      refine wa_V (b := (adr ad 1) 0) (rmc := (rmh 1)) (As := [.int x5, .int x6, .int (1 : Int32)]) (st := []) (wc := (rm_ws g (adr ad 1) (w9 1))) (wr := (wr1 g ad w9)) (wcz := fun z12 => rm_ws g (adr ad 1) z12) (w2 := fun z12 => wc_ws g ad (gset w9 1 z12)) (o := fun _ => none) (s2 := fun z12 => []) (ci := 0) (q0 := 0) fx mm_X0_putAtOdds q_11_8 dX3_quarrel_59 h (fun _ hz => c_X0_putAtOdds hz) rfl rfl (rm_ok (by decide) (by decide)) ⟨Nat.zero_le _, Nat.zero_le _⟩ rfl (sq1 g ad w9) (fun _ => sp1 g ad w9 _) rfl (Nat.le_of_ble_eq_true rfl) (fun _ => rfl) (fun z12 h => ?_)
      refine nm_w (wc_ws g ad) h (fun w13 h => ?_)
      refine wa_iload fx 0 dX3_quarrel_62 rfl ?_
      exact fn_i (wc_ws g ad) fx hf (sn1 h) (sn2 h) dX3_quarrel_64
    · refine wa_iconst fx (0 : Int32) dX3_quarrel_58 (by decide) ?_
      refine wa_V (b := (adr ad 1) 0) (rmc := (rmh 1)) (As := [.int x5, .int x6, .int (0 : Int32)]) (st := []) (wc := (rm_ws g (adr ad 1) (w9 1))) (wr := (wr1 g ad w9)) (wcz := fun z10 => rm_ws g (adr ad 1) z10) (w2 := fun z10 => wc_ws g ad (gset w9 1 z10)) (o := fun _ => none) (s2 := fun z10 => []) (ci := 0) (q0 := 0) fx mm_X0_putAtOdds q_11_8 dX3_quarrel_59 h (fun _ hz => c_X0_putAtOdds hz) rfl rfl (rm_ok (by decide) (by decide)) ⟨Nat.zero_le _, Nat.zero_le _⟩ rfl (sq1 g ad w9) (fun _ => sp1 g ad w9 _) rfl (Nat.le_of_ble_eq_true rfl) (fun _ => rfl) (fun z10 h => ?_)
      refine nm_w (wc_ws g ad) h (fun w11 h => ?_)
      refine wa_iload fx 0 dX3_quarrel_62 rfl ?_
      exact fn_i (wc_ws g ad) fx hf (sn1 h) (sn2 h) dX3_quarrel_64
  refine wa_aload_n fx 0 dX3_quarrel_0 rfl ?_
  refine wa_iload_n fx 1 dX3_quarrel_1 rfl ?_
  refine wa_iload_n fx 2 dX3_quarrel_2 rfl ?_
  refine wa_V (b := ad 0) (rmc := (rmh 3)) (As := [.int a1, .int a2]) (st := []) (wc := (wc_ws g ad G)) (wr := ([] : va_W)) (wcz := fun _ => (wc_ws g ad G)) (w2 := fun _ => (wc_ws g ad G)) (o := fun z1 => some (.int z1)) (s2 := fun z1 => [.int z1]) (ci := 3) (q0 := 0) fx mm_X3_areTwo q_11_0 dX3_quarrel_3 h (fun _ hz => c_X3_areTwo hz) rfl rfl (rm_ok (by decide) (by decide)) ⟨Nat.zero_le _, Nat.zero_le _⟩ rfl (List.Perm.refl _) (fun _ => (List.Perm.refl _)) rfl (Nat.le_of_ble_eq_true rfl) (fun _ => rfl) (fun z1 h => ?_)
  refine wa_if_eq fx 18 dX3_quarrel_6 (by decide) h (fun h => ?_) (fun h => ?_)
  · refine wa_aload_n fx 0 dX3_quarrel_18 rfl ?_
    refine wa_iconst fx (0 : Int32) dX3_quarrel_19 (by decide) ?_
    refine wa_V (b := ad 0) (rmc := (rmh 1)) (As := [.int (0 : Int32)]) (st := []) (wc := (wc_ws g ad G)) (wr := ([] : va_W)) (wcz := fun z2 => wc_ws g ad z2.2) (w2 := fun z2 => wc_ws g ad z2.2) (o := fun z2 => some (.int z2.1)) (s2 := fun z2 => [.int z2.1]) (ci := 3) (q0 := 0) fx mm_X3_finding q_4_17 dX3_quarrel_20 h (fun _ hz => c_X3_finding hz) rfl rfl (rm_ok (by decide) (by decide)) ⟨Nat.zero_le _, Nat.zero_le _⟩ rfl (List.Perm.refl _) (fun _ => List.Perm.refl _) rfl (Nat.le_of_ble_eq_true rfl) (fun _ => rfl) (fun z2 h => ?_)
    exact fn_i (wc_ws g ad) fx hf (sn1 h) (sn2 h) dX3_quarrel_23
  · refine wa_iload_n fx 3 dX3_quarrel_9 rfl ?_
    refine wa_iconst fx (0 : Int32) dX3_quarrel_10 (by decide) ?_
    refine wa_iconst fx (1 : Int32) dX3_quarrel_11 (by decide) ?_
    refine wa_S (rmc := (rmh 1)) (As := [.int a3, .int (0 : Int32), .int (1 : Int32)]) (st := []) (wc := (no_ws ())) (wr := (wc_ws g ad G)) (wcz := fun _ => (no_ws ())) (w2 := fun _ => (wc_ws g ad G)) (o := fun z3 => some (.int z3)) (s2 := fun z3 => [.int z3]) fx mm_X3_isWithin q_4_14 dX3_quarrel_12 h (fun _ hz => c_X3_isWithin hz) (rm_ok (by decide) (by decide)) ⟨Nat.zero_le _, Nat.zero_le _⟩ rfl (List.Perm.of_eq (List.append_nil _).symm) (fun _ => (List.Perm.of_eq (List.append_nil _).symm)) rfl (Nat.le_of_ble_eq_true rfl) (fun _ => rfl) (fun z3 h => ?_)
    refine wa_if_ne fx 24 dX3_quarrel_15 (by decide) h (fun h => ?_) (fun h => ?_)
    · refine wa_aload_n fx 0 dX3_quarrel_18 rfl ?_
      refine wa_iconst fx (0 : Int32) dX3_quarrel_19 (by decide) ?_
      refine wa_V (b := ad 0) (rmc := (rmh 1)) (As := [.int (0 : Int32)]) (st := []) (wc := (wc_ws g ad G)) (wr := ([] : va_W)) (wcz := fun z14 => wc_ws g ad z14.2) (w2 := fun z14 => wc_ws g ad z14.2) (o := fun z14 => some (.int z14.1)) (s2 := fun z14 => [.int z14.1]) (ci := 3) (q0 := 0) fx mm_X3_finding q_4_17 dX3_quarrel_20 h (fun _ hz => c_X3_finding hz) rfl rfl (rm_ok (by decide) (by decide)) ⟨Nat.zero_le _, Nat.zero_le _⟩ rfl (List.Perm.refl _) (fun _ => List.Perm.refl _) rfl (Nat.le_of_ble_eq_true rfl) (fun _ => rfl) (fun z14 h => ?_)
      exact fn_i (wc_ws g ad) fx hf (sn1 h) (sn2 h) dX3_quarrel_23
    · refine wa_aload_n fx 0 dX3_quarrel_24 rfl ?_
      refine wa_get (v := .ref ((adr ad 1) 0)) fx wm_X3 0 rfl rfl 0 (by decide) q_1_16 rfl rfl dX3_quarrel_25 ?_
      refine wa_iload_n fx 1 dX3_quarrel_28 rfl ?_
      refine wa_iload_n fx 2 dX3_quarrel_29 rfl ?_
      refine wa_V (b := (adr ad 1) 0) (rmc := (rmh 1)) (As := [.int a1, .int a2]) (st := []) (wc := (rm_ws g (adr ad 1) (G 1))) (wr := (wr1 g ad G)) (wcz := fun _ => (rm_ws g (adr ad 1) (G 1))) (w2 := fun _ => (wc_ws g ad G)) (o := fun z4 => some (.int z4)) (s2 := fun z4 => [.int z4]) (ci := 0) (q0 := 0) fx mm_X0_areAtOdds q_11_4 dX3_quarrel_30 h (fun _ hz => c_X0_areAtOdds hz) rfl rfl (rm_ok (by decide) (by decide)) ⟨Nat.zero_le _, Nat.zero_le _⟩ rfl (sq1 g ad G) (fun _ => (sq1 g ad G)) rfl (Nat.le_of_ble_eq_true rfl) (fun _ => rfl) (fun z4 h => ?_)
      refine wa_if_eq fx 40 dX3_quarrel_33 (by decide) h (fun h => ?_) (fun h => ?_)
      · refine wa_iconst fx (0 : Int32) dX3_quarrel_40 (by decide) ?_
        refine wa_sub [0, 1, 2, 3] rfl ?_
        exact B41 a1 a2 a3 (0 : Int32) G h
      · refine wa_iconst fx (1 : Int32) dX3_quarrel_36 (by decide) ?_
        refine wa_goto fx 41 dX3_quarrel_37 (by decide) ?_
        refine wa_sub [0, 1, 2, 3] rfl ?_
        exact B41 a1 a2 a3 (1 : Int32) G h
def f_X3_sit_b59 (x4 : Int32) (x5 : Int32) (w6 : Nat → StT) : Option (Int32 × (Nat → StT)) := ck x4 8 (nm ((w6 1).1 8 (Int32.toNatClampNeg x4)) fun x7 => Option.bind (f_X0_seat (w6 1) x4 x5) fun z8 => nm (gset w6 1 z8) fun w9 => some (x7, w9))
def f_X3_sit  (G : Nat → StT) (a1 : Int32) (a2 : Int32) : Option (Int32 × (Nat → StT)) := Option.bind (f_X3_isThere G a1) fun z1 => if z1 = 0 then (Option.bind (f_X3_finding G (0 : Int32)) fun z2 => some (z2.1, z2.2)) else (Option.bind (f_X3_isWithin a2 (-1 : Int32) (7 : Int32)) fun z3 => if z3 = 0 then (Option.bind (f_X3_finding G (0 : Int32)) fun z11 => some (z11.1, z11.2)) else (if a2 < 0 then (f_X3_sit_b59 a1 a2 G) else (ck a2 8 (if ((G 1).1 2 (Int32.toNatClampNeg a2)) < 0 then (f_X3_sit_b59 a1 a2 G) else (ck a2 8 (if ((G 1).1 2 (Int32.toNatClampNeg a2)) = a1 then (f_X3_sit_b59 a1 a2 G) else (Option.bind (f_X3_finding G (4 : Int32)) fun z10 => some (z10.1, z10.2))))))))
set_option maxHeartbeats 4000000 in
set_option maxRecDepth 100000 in
theorem c_X3_sit {g : GT} {l : Launch} {ad : Nat → Nat}   {G : Nat → StT} {a1 : Int32} {a2 : Int32} {r : Int32 × (Nat → StT)} (h : f_X3_sit G a1 a2 = some r) : Ct g l yX3_sit (wd yX3_sit cX3_sit 4 (some .int)) (rmh 3) [.ref (ad 0), .int a1, .int a2] (wc_ws g ad G) (wc_ws g ad r.2) (some (.int r.1)) := by
  refine Ct.of (lv := [(0, .ref (ad 0)), (1, .int a1), (2, .int a2)]) (by decide) (Nat.le_of_ble_eq_true rfl) rfl (fun K hl fx hf => ?_)
  subst hl
  rw [f_X3_sit] at h
  have B59 : ∀  (x4 : Int32) (x5 : Int32) (w6 : Nat → StT), f_X3_sit_b59 x4 x5 w6 = some r → WA g K 4 0 0 59 [(0, .ref (ad 0)), (1, .int x4), (2, .int x5)] [] (wc_ws g ad w6) := by
    intro   x4 x5 w6 h
    rw [f_X3_sit_b59] at h
    refine wa_aload_n fx 0 dX3_sit_59 rfl ?_
    refine wa_get (v := .ref ((adr ad 1) 0)) fx wm_X3 0 rfl rfl 0 (by decide) q_1_16 rfl rfl dX3_sit_60 ?_
    refine wa_get (v := .ref ((adr ad 1) 9)) fx wm_X0 4 rfl rfl 8 (by decide) q_8_4 rfl rfl dX3_sit_63 ?_
    refine wa_iload_n fx 1 dX3_sit_66 rfl ?_
    refine wa_iald (f := (w6 1).1 8) fx 13 rfl dX3_sit_67 h (fun h => ?_)
    refine wa_istore_nN fx (fun x7 => [(3, .int x7), (0, .ref (ad 0)), (1, .int x4), (2, .int x5)]) dX3_sit_68 rfl (by decide) (fun _ => rfl) h (fun x7 h => ?_)
    refine wa_aload_n fx 1 dX3_sit_69 rfl ?_
    refine wa_get (v := .ref ((adr ad 1) 0)) fx wm_X3 0 rfl rfl 0 (by decide) q_1_16 rfl rfl dX3_sit_70 ?_
    refine wa_iload_n fx 2 dX3_sit_73 rfl ?_
    refine wa_iload_n fx 3 dX3_sit_74 rfl ?_
    refine wa_V (b := (adr ad 1) 0) (rmc := (rmh 1)) (As := [.int x4, .int x5]) (st := []) (wc := (rm_ws g (adr ad 1) (w6 1))) (wr := (wr1 g ad w6)) (wcz := fun z8 => rm_ws g (adr ad 1) z8) (w2 := fun z8 => wc_ws g ad (gset w6 1 z8)) (o := fun _ => none) (s2 := fun z8 => []) (ci := 0) (q0 := 0) fx mm_X0_seat q_12_8 dX3_sit_75 h (fun _ hz => c_X0_seat hz) rfl rfl (rm_ok (by decide) (by decide)) ⟨Nat.zero_le _, Nat.zero_le _⟩ rfl (sq1 g ad w6) (fun _ => sp1 g ad w6 _) rfl (Nat.le_of_ble_eq_true rfl) (fun _ => rfl) (fun z8 h => ?_)
    refine nm_w (wc_ws g ad) h (fun w9 h => ?_)
    refine wa_iload_n fx 0 dX3_sit_78 rfl ?_
    exact fn_i (wc_ws g ad) fx hf (sn1 h) (sn2 h) dX3_sit_79
  refine wa_aload_n fx 0 dX3_sit_0 rfl ?_
  refine wa_iload_n fx 1 dX3_sit_1 rfl ?_
  refine wa_V (b := ad 0) (rmc := (rmh 2)) (As := [.int a1]) (st := []) (wc := (wc_ws g ad G)) (wr := ([] : va_W)) (wcz := fun _ => (wc_ws g ad G)) (w2 := fun _ => (wc_ws g ad G)) (o := fun z1 => some (.int z1)) (s2 := fun z1 => [.int z1]) (ci := 3) (q0 := 0) fx mm_X3_isThere q_8_5 dX3_sit_2 h (fun _ hz => c_X3_isThere hz) rfl rfl (rm_ok (by decide) (by decide)) ⟨Nat.zero_le _, Nat.zero_le _⟩ rfl (List.Perm.refl _) (fun _ => (List.Perm.refl _)) rfl (Nat.le_of_ble_eq_true rfl) (fun _ => rfl) (fun z1 h => ?_)
  refine wa_if_eq fx 18 dX3_sit_5 (by decide) h (fun h => ?_) (fun h => ?_)
  · refine wa_aload_n fx 0 dX3_sit_18 rfl ?_
    refine wa_iconst fx (0 : Int32) dX3_sit_19 (by decide) ?_
    refine wa_V (b := ad 0) (rmc := (rmh 1)) (As := [.int (0 : Int32)]) (st := []) (wc := (wc_ws g ad G)) (wr := ([] : va_W)) (wcz := fun z2 => wc_ws g ad z2.2) (w2 := fun z2 => wc_ws g ad z2.2) (o := fun z2 => some (.int z2.1)) (s2 := fun z2 => [.int z2.1]) (ci := 3) (q0 := 0) fx mm_X3_finding q_4_17 dX3_sit_20 h (fun _ hz => c_X3_finding hz) rfl rfl (rm_ok (by decide) (by decide)) ⟨Nat.zero_le _, Nat.zero_le _⟩ rfl (List.Perm.refl _) (fun _ => List.Perm.refl _) rfl (Nat.le_of_ble_eq_true rfl) (fun _ => rfl) (fun z2 h => ?_)
    exact fn_i (wc_ws g ad) fx hf (sn1 h) (sn2 h) dX3_sit_23
  · refine wa_iload_n fx 2 dX3_sit_8 rfl ?_
    refine wa_iconst fx (-1 : Int32) dX3_sit_9 (by decide) ?_
    refine wa_bipush fx (7 : Int32) dX3_sit_10 (by decide) ?_
    refine wa_S (rmc := (rmh 1)) (As := [.int a2, .int (-1 : Int32), .int (7 : Int32)]) (st := []) (wc := (no_ws ())) (wr := (wc_ws g ad G)) (wcz := fun _ => (no_ws ())) (w2 := fun _ => (wc_ws g ad G)) (o := fun z3 => some (.int z3)) (s2 := fun z3 => [.int z3]) fx mm_X3_isWithin q_4_14 dX3_sit_12 h (fun _ hz => c_X3_isWithin hz) (rm_ok (by decide) (by decide)) ⟨Nat.zero_le _, Nat.zero_le _⟩ rfl (List.Perm.of_eq (List.append_nil _).symm) (fun _ => (List.Perm.of_eq (List.append_nil _).symm)) rfl (Nat.le_of_ble_eq_true rfl) (fun _ => rfl) (fun z3 h => ?_)
    refine wa_if_ne fx 24 dX3_sit_15 (by decide) h (fun h => ?_) (fun h => ?_)
    · refine wa_aload_n fx 0 dX3_sit_18 rfl ?_
      refine wa_iconst fx (0 : Int32) dX3_sit_19 (by decide) ?_
      refine wa_V (b := ad 0) (rmc := (rmh 1)) (As := [.int (0 : Int32)]) (st := []) (wc := (wc_ws g ad G)) (wr := ([] : va_W)) (wcz := fun z11 => wc_ws g ad z11.2) (w2 := fun z11 => wc_ws g ad z11.2) (o := fun z11 => some (.int z11.1)) (s2 := fun z11 => [.int z11.1]) (ci := 3) (q0 := 0) fx mm_X3_finding q_4_17 dX3_sit_20 h (fun _ hz => c_X3_finding hz) rfl rfl (rm_ok (by decide) (by decide)) ⟨Nat.zero_le _, Nat.zero_le _⟩ rfl (List.Perm.refl _) (fun _ => List.Perm.refl _) rfl (Nat.le_of_ble_eq_true rfl) (fun _ => rfl) (fun z11 h => ?_)
      exact fn_i (wc_ws g ad) fx hf (sn1 h) (sn2 h) dX3_sit_23
    · refine wa_iload_n fx 2 dX3_sit_24 rfl ?_
      refine wa_if_lt fx 59 dX3_sit_25 (by decide) h (fun h => ?_) (fun h => ?_)
      · refine wa_sub [0, 1, 2] rfl ?_
        exact B59 a1 a2 G h
      · refine wa_aload_n fx 0 dX3_sit_28 rfl ?_
        refine wa_get (v := .ref ((adr ad 1) 0)) fx wm_X3 0 rfl rfl 0 (by decide) q_1_16 rfl rfl dX3_sit_29 ?_
        refine wa_get (v := .ref ((adr ad 1) 3)) fx wm_X0 4 rfl rfl 2 (by decide) q_6_0 rfl rfl dX3_sit_32 ?_
        refine wa_iload_n fx 2 dX3_sit_35 rfl ?_
        refine wa_iald (f := (G 1).1 2) fx 7 rfl dX3_sit_36 h (fun h => ?_)
        refine wa_if_lt fx 59 dX3_sit_37 (by decide) h (fun h => ?_) (fun h => ?_)
        · refine wa_sub [0, 1, 2] rfl ?_
          exact B59 a1 a2 G h
        · refine wa_aload_n fx 0 dX3_sit_40 rfl ?_
          refine wa_get (v := .ref ((adr ad 1) 0)) fx wm_X3 0 rfl rfl 0 (by decide) q_1_16 rfl rfl dX3_sit_41 ?_
          refine wa_get (v := .ref ((adr ad 1) 3)) fx wm_X0 4 rfl rfl 2 (by decide) q_6_0 rfl rfl dX3_sit_44 ?_
          refine wa_iload_n fx 2 dX3_sit_47 rfl ?_
          refine wa_iald (f := (G 1).1 2) fx 7 rfl dX3_sit_48 h (fun h => ?_)
          refine wa_iload_n fx 1 dX3_sit_49 rfl ?_
          refine wa_icmp_eq fx 59 dX3_sit_50 (by decide) h (fun h => ?_) (fun h => ?_)
          · refine wa_sub [0, 1, 2] rfl ?_
            exact B59 a1 a2 G h
          · refine wa_aload_n fx 0 dX3_sit_53 rfl ?_
            refine wa_iconst fx (4 : Int32) dX3_sit_54 (by decide) ?_
            refine wa_V (b := ad 0) (rmc := (rmh 1)) (As := [.int (4 : Int32)]) (st := []) (wc := (wc_ws g ad G)) (wr := ([] : va_W)) (wcz := fun z10 => wc_ws g ad z10.2) (w2 := fun z10 => wc_ws g ad z10.2) (o := fun z10 => some (.int z10.1)) (s2 := fun z10 => [.int z10.1]) (ci := 3) (q0 := 0) fx mm_X3_finding q_4_17 dX3_sit_55 h (fun _ hz => c_X3_finding hz) rfl rfl (rm_ok (by decide) (by decide)) ⟨Nat.zero_le _, Nat.zero_le _⟩ rfl (List.Perm.refl _) (fun _ => List.Perm.refl _) rfl (Nat.le_of_ble_eq_true rfl) (fun _ => rfl) (fun z10 h => ?_)
            exact fn_i (wc_ws g ad) fx hf (sn1 h) (sn2 h) dX3_sit_58
def f_X3_change  (G : Nat → StT) (a1 : Int32) (a2 : Int32) : Option (Int32 × (Nat → StT)) := Option.bind (f_X3_areTwo G a1 a2) fun z1 => if z1 = 0 then (Option.bind (f_X3_finding G (0 : Int32)) fun z4 => some (z4.1, z4.2)) else (Option.bind (f_X0_swap (G 1) a1 a2) fun z2 => nm (gset G 1 z2) fun w3 => some ((1 : Int32), w3))
set_option maxHeartbeats 4000000 in
set_option maxRecDepth 100000 in
theorem c_X3_change {g : GT} {l : Launch} {ad : Nat → Nat}   {G : Nat → StT} {a1 : Int32} {a2 : Int32} {r : Int32 × (Nat → StT)} (h : f_X3_change G a1 a2 = some r) : Ct g l yX3_change (wd yX3_change cX3_change 3 (some .int)) (rmh 4) [.ref (ad 0), .int a1, .int a2] (wc_ws g ad G) (wc_ws g ad r.2) (some (.int r.1)) := by
  refine Ct.of (lv := [(0, .ref (ad 0)), (1, .int a1), (2, .int a2)]) (by decide) (Nat.le_of_ble_eq_true rfl) rfl (fun K hl fx hf => ?_)
  subst hl
  rw [f_X3_change] at h
  refine wa_aload_n fx 0 dX3_change_0 rfl ?_
  refine wa_iload_n fx 1 dX3_change_1 rfl ?_
  refine wa_iload_n fx 2 dX3_change_2 rfl ?_
  refine wa_V (b := ad 0) (rmc := (rmh 3)) (As := [.int a1, .int a2]) (st := []) (wc := (wc_ws g ad G)) (wr := ([] : va_W)) (wcz := fun _ => (wc_ws g ad G)) (w2 := fun _ => (wc_ws g ad G)) (o := fun z1 => some (.int z1)) (s2 := fun z1 => [.int z1]) (ci := 3) (q0 := 0) fx mm_X3_areTwo q_11_0 dX3_change_3 h (fun _ hz => c_X3_areTwo hz) rfl rfl (rm_ok (by decide) (by decide)) ⟨Nat.zero_le _, Nat.zero_le _⟩ rfl (List.Perm.refl _) (fun _ => (List.Perm.refl _)) rfl (Nat.le_of_ble_eq_true rfl) (fun _ => rfl) (fun z1 h => ?_)
  refine wa_if_ne fx 15 dX3_change_6 (by decide) h (fun h => ?_) (fun h => ?_)
  · refine wa_aload_n fx 0 dX3_change_9 rfl ?_
    refine wa_iconst fx (0 : Int32) dX3_change_10 (by decide) ?_
    refine wa_V (b := ad 0) (rmc := (rmh 1)) (As := [.int (0 : Int32)]) (st := []) (wc := (wc_ws g ad G)) (wr := ([] : va_W)) (wcz := fun z4 => wc_ws g ad z4.2) (w2 := fun z4 => wc_ws g ad z4.2) (o := fun z4 => some (.int z4.1)) (s2 := fun z4 => [.int z4.1]) (ci := 3) (q0 := 0) fx mm_X3_finding q_4_17 dX3_change_11 h (fun _ hz => c_X3_finding hz) rfl rfl (rm_ok (by decide) (by decide)) ⟨Nat.zero_le _, Nat.zero_le _⟩ rfl (List.Perm.refl _) (fun _ => List.Perm.refl _) rfl (Nat.le_of_ble_eq_true rfl) (fun _ => rfl) (fun z4 h => ?_)
    exact fn_i (wc_ws g ad) fx hf (sn1 h) (sn2 h) dX3_change_14
  · refine wa_aload_n fx 0 dX3_change_15 rfl ?_
    refine wa_get (v := .ref ((adr ad 1) 0)) fx wm_X3 0 rfl rfl 0 (by decide) q_1_16 rfl rfl dX3_change_16 ?_
    refine wa_iload_n fx 1 dX3_change_19 rfl ?_
    refine wa_iload_n fx 2 dX3_change_20 rfl ?_
    refine wa_V (b := (adr ad 1) 0) (rmc := (rmh 1)) (As := [.int a1, .int a2]) (st := []) (wc := (rm_ws g (adr ad 1) (G 1))) (wr := (wr1 g ad G)) (wcz := fun z2 => rm_ws g (adr ad 1) z2) (w2 := fun z2 => wc_ws g ad (gset G 1 z2)) (o := fun _ => none) (s2 := fun z2 => []) (ci := 0) (q0 := 0) fx mm_X0_swap q_12_21 dX3_change_21 h (fun _ hz => c_X0_swap hz) rfl rfl (rm_ok (by decide) (by decide)) ⟨Nat.zero_le _, Nat.zero_le _⟩ rfl (sq1 g ad G) (fun _ => sp1 g ad G _) rfl (Nat.le_of_ble_eq_true rfl) (fun _ => rfl) (fun z2 h => ?_)
    refine nm_w (wc_ws g ad) h (fun w3 h => ?_)
    refine wa_iconst fx (1 : Int32) dX3_change_24 (by decide) ?_
    exact fn_i (wc_ws g ad) fx hf (sn1 h) (sn2 h) dX3_change_25
def f_X3_well  (G : Nat → StT) (a1 : Int32) (a2 : Int32) : Option (Int32 × (Nat → StT)) := Option.bind (f_X3_isThere G a1) fun z1 => if z1 = 0 then (Option.bind (f_X3_finding G (0 : Int32)) fun z2 => some (z2.1, z2.2)) else (Option.bind (f_X3_isChair a2) fun z3 => if z3 = 0 then (Option.bind (f_X3_finding G (0 : Int32)) fun z5 => some (z5.1, z5.2)) else (Option.bind (f_X0_howWell (G 1) a1 a2) fun z4 => some (((1000 : Int32) + z4), G)))
set_option maxHeartbeats 4000000 in
set_option maxRecDepth 100000 in
theorem c_X3_well {g : GT} {l : Launch} {ad : Nat → Nat}   {G : Nat → StT} {a1 : Int32} {a2 : Int32} {r : Int32 × (Nat → StT)} (h : f_X3_well G a1 a2 = some r) : Ct g l yX3_well (wd yX3_well cX3_well 3 (some .int)) (rmh 4) [.ref (ad 0), .int a1, .int a2] (wc_ws g ad G) (wc_ws g ad r.2) (some (.int r.1)) := by
  refine Ct.of (lv := [(0, .ref (ad 0)), (1, .int a1), (2, .int a2)]) (by decide) (Nat.le_of_ble_eq_true rfl) rfl (fun K hl fx hf => ?_)
  subst hl
  rw [f_X3_well] at h
  refine wa_aload_n fx 0 dX3_well_0 rfl ?_
  refine wa_iload_n fx 1 dX3_well_1 rfl ?_
  refine wa_V (b := ad 0) (rmc := (rmh 2)) (As := [.int a1]) (st := []) (wc := (wc_ws g ad G)) (wr := ([] : va_W)) (wcz := fun _ => (wc_ws g ad G)) (w2 := fun _ => (wc_ws g ad G)) (o := fun z1 => some (.int z1)) (s2 := fun z1 => [.int z1]) (ci := 3) (q0 := 0) fx mm_X3_isThere q_8_5 dX3_well_2 h (fun _ hz => c_X3_isThere hz) rfl rfl (rm_ok (by decide) (by decide)) ⟨Nat.zero_le _, Nat.zero_le _⟩ rfl (List.Perm.refl _) (fun _ => (List.Perm.refl _)) rfl (Nat.le_of_ble_eq_true rfl) (fun _ => rfl) (fun z1 h => ?_)
  refine wa_if_eq fx 15 dX3_well_5 (by decide) h (fun h => ?_) (fun h => ?_)
  · refine wa_aload_n fx 0 dX3_well_15 rfl ?_
    refine wa_iconst fx (0 : Int32) dX3_well_16 (by decide) ?_
    refine wa_V (b := ad 0) (rmc := (rmh 1)) (As := [.int (0 : Int32)]) (st := []) (wc := (wc_ws g ad G)) (wr := ([] : va_W)) (wcz := fun z2 => wc_ws g ad z2.2) (w2 := fun z2 => wc_ws g ad z2.2) (o := fun z2 => some (.int z2.1)) (s2 := fun z2 => [.int z2.1]) (ci := 3) (q0 := 0) fx mm_X3_finding q_4_17 dX3_well_17 h (fun _ hz => c_X3_finding hz) rfl rfl (rm_ok (by decide) (by decide)) ⟨Nat.zero_le _, Nat.zero_le _⟩ rfl (List.Perm.refl _) (fun _ => List.Perm.refl _) rfl (Nat.le_of_ble_eq_true rfl) (fun _ => rfl) (fun z2 h => ?_)
    exact fn_i (wc_ws g ad) fx hf (sn1 h) (sn2 h) dX3_well_20
  · refine wa_iload_n fx 2 dX3_well_8 rfl ?_
    refine wa_S (rmc := (rmh 2)) (As := [.int a2]) (st := []) (wc := (no_ws ())) (wr := (wc_ws g ad G)) (wcz := fun _ => (no_ws ())) (w2 := fun _ => (wc_ws g ad G)) (o := fun z3 => some (.int z3)) (s2 := fun z3 => [.int z3]) fx mm_X3_isChair q_4_11 dX3_well_9 h (fun _ hz => c_X3_isChair hz) (rm_ok (by decide) (by decide)) ⟨Nat.zero_le _, Nat.zero_le _⟩ rfl (List.Perm.of_eq (List.append_nil _).symm) (fun _ => (List.Perm.of_eq (List.append_nil _).symm)) rfl (Nat.le_of_ble_eq_true rfl) (fun _ => rfl) (fun z3 h => ?_)
    refine wa_if_ne fx 21 dX3_well_12 (by decide) h (fun h => ?_) (fun h => ?_)
    · refine wa_aload_n fx 0 dX3_well_15 rfl ?_
      refine wa_iconst fx (0 : Int32) dX3_well_16 (by decide) ?_
      refine wa_V (b := ad 0) (rmc := (rmh 1)) (As := [.int (0 : Int32)]) (st := []) (wc := (wc_ws g ad G)) (wr := ([] : va_W)) (wcz := fun z5 => wc_ws g ad z5.2) (w2 := fun z5 => wc_ws g ad z5.2) (o := fun z5 => some (.int z5.1)) (s2 := fun z5 => [.int z5.1]) (ci := 3) (q0 := 0) fx mm_X3_finding q_4_17 dX3_well_17 h (fun _ hz => c_X3_finding hz) rfl rfl (rm_ok (by decide) (by decide)) ⟨Nat.zero_le _, Nat.zero_le _⟩ rfl (List.Perm.refl _) (fun _ => List.Perm.refl _) rfl (Nat.le_of_ble_eq_true rfl) (fun _ => rfl) (fun z5 h => ?_)
      exact fn_i (wc_ws g ad) fx hf (sn1 h) (sn2 h) dX3_well_20
    · refine wa_sipush fx (1000 : Int32) dX3_well_21 (by decide) ?_
      refine wa_aload_n fx 0 dX3_well_24 rfl ?_
      refine wa_get (v := .ref ((adr ad 1) 0)) fx wm_X3 0 rfl rfl 0 (by decide) q_1_16 rfl rfl dX3_well_25 ?_
      refine wa_iload_n fx 1 dX3_well_28 rfl ?_
      refine wa_iload_n fx 2 dX3_well_29 rfl ?_
      refine wa_V (b := (adr ad 1) 0) (rmc := (rmh 3)) (As := [.int a1, .int a2]) (st := [.int (1000 : Int32)]) (wc := (rm_ws g (adr ad 1) (G 1))) (wr := (wr1 g ad G)) (wcz := fun _ => (rm_ws g (adr ad 1) (G 1))) (w2 := fun _ => (wc_ws g ad G)) (o := fun z4 => some (.int z4)) (s2 := fun z4 => [.int z4, .int (1000 : Int32)]) (ci := 0) (q0 := 0) fx mm_X0_howWell q_13_13 dX3_well_30 h (fun _ hz => c_X0_howWell hz) rfl rfl (rm_ok (by decide) (by decide)) ⟨Nat.zero_le _, Nat.zero_le _⟩ rfl (sq1 g ad G) (fun _ => (sq1 g ad G)) rfl (Nat.le_of_ble_eq_true rfl) (fun _ => rfl) (fun z4 h => ?_)
      refine wa_iadd fx dX3_well_33 ?_
      exact fn_i (wc_ws g ad) fx hf (sn1 h) (sn2 h) dX3_well_34
def f_X3_hours  (G : Nat → StT) (a1 : Int32) : Option (Int32 × (Nat → StT)) := Option.bind (f_X3_isWithin a1 (1 : Int32) (60 : Int32)) fun z1 => if z1 = 0 then (Option.bind (f_X3_finding G (0 : Int32)) fun z5 => some (z5.1, z5.2)) else (if (((G 1).2.2 1) + a1) ≤ (99999 : Int32) then (Option.bind (f_X0_pass (G 1) a1) fun z2 => nm (gset G 1 z2.2) fun w3 => some (z2.1, w3)) else (Option.bind (f_X3_finding G (4 : Int32)) fun z4 => some (z4.1, z4.2)))
set_option maxHeartbeats 4000000 in
set_option maxRecDepth 100000 in
theorem c_X3_hours {g : GT} {l : Launch} {ad : Nat → Nat}   {G : Nat → StT} {a1 : Int32} {r : Int32 × (Nat → StT)} (h : f_X3_hours G a1 = some r) : Ct g l yX3_hours (wd yX3_hours cX3_hours 2 (some .int)) (rmh 7) [.ref (ad 0), .int a1] (wc_ws g ad G) (wc_ws g ad r.2) (some (.int r.1)) := by
  refine Ct.of (lv := [(0, .ref (ad 0)), (1, .int a1)]) (by decide) (Nat.le_of_ble_eq_true rfl) rfl (fun K hl fx hf => ?_)
  subst hl
  rw [f_X3_hours] at h
  refine wa_iload_n fx 1 dX3_hours_0 rfl ?_
  refine wa_iconst fx (1 : Int32) dX3_hours_1 (by decide) ?_
  refine wa_bipush fx (60 : Int32) dX3_hours_2 (by decide) ?_
  refine wa_S (rmc := (rmh 1)) (As := [.int a1, .int (1 : Int32), .int (60 : Int32)]) (st := []) (wc := (no_ws ())) (wr := (wc_ws g ad G)) (wcz := fun _ => (no_ws ())) (w2 := fun _ => (wc_ws g ad G)) (o := fun z1 => some (.int z1)) (s2 := fun z1 => [.int z1]) fx mm_X3_isWithin q_4_14 dX3_hours_4 h (fun _ hz => c_X3_isWithin hz) (rm_ok (by decide) (by decide)) ⟨Nat.zero_le _, Nat.zero_le _⟩ rfl (List.Perm.of_eq (List.append_nil _).symm) (fun _ => (List.Perm.of_eq (List.append_nil _).symm)) rfl (Nat.le_of_ble_eq_true rfl) (fun _ => rfl) (fun z1 h => ?_)
  refine wa_if_ne fx 16 dX3_hours_7 (by decide) h (fun h => ?_) (fun h => ?_)
  · refine wa_aload_n fx 0 dX3_hours_10 rfl ?_
    refine wa_iconst fx (0 : Int32) dX3_hours_11 (by decide) ?_
    refine wa_V (b := ad 0) (rmc := (rmh 1)) (As := [.int (0 : Int32)]) (st := []) (wc := (wc_ws g ad G)) (wr := ([] : va_W)) (wcz := fun z5 => wc_ws g ad z5.2) (w2 := fun z5 => wc_ws g ad z5.2) (o := fun z5 => some (.int z5.1)) (s2 := fun z5 => [.int z5.1]) (ci := 3) (q0 := 0) fx mm_X3_finding q_4_17 dX3_hours_12 h (fun _ hz => c_X3_finding hz) rfl rfl (rm_ok (by decide) (by decide)) ⟨Nat.zero_le _, Nat.zero_le _⟩ rfl (List.Perm.refl _) (fun _ => List.Perm.refl _) rfl (Nat.le_of_ble_eq_true rfl) (fun _ => rfl) (fun z5 h => ?_)
    exact fn_i (wc_ws g ad) fx hf (sn1 h) (sn2 h) dX3_hours_15
  · refine wa_aload_n fx 0 dX3_hours_16 rfl ?_
    refine wa_get (v := .ref ((adr ad 1) 0)) fx wm_X3 0 rfl rfl 0 (by decide) q_1_16 rfl rfl dX3_hours_17 ?_
    refine wa_get (v := .int ((G 1).2.2 1)) fx wm_X0 4 rfl rfl 10 (by decide) q_15_11 rfl rfl dX3_hours_20 ?_
    refine wa_iload_n fx 1 dX3_hours_23 rfl ?_
    refine wa_iadd fx dX3_hours_24 ?_
    refine wa_ldc fx q_15_12 dX3_hours_25 ?_
    refine wa_icmp_le fx 36 dX3_hours_27 (by decide) h (fun h => ?_) (fun h => ?_)
    · refine wa_aload_n fx 0 dX3_hours_36 rfl ?_
      refine wa_get (v := .ref ((adr ad 1) 0)) fx wm_X3 0 rfl rfl 0 (by decide) q_1_16 rfl rfl dX3_hours_37 ?_
      refine wa_iload_n fx 1 dX3_hours_40 rfl ?_
      refine wa_V (b := (adr ad 1) 0) (rmc := (rmh 6)) (As := [.int a1]) (st := []) (wc := (rm_ws g (adr ad 1) (G 1))) (wr := (wr1 g ad G)) (wcz := fun z2 => rm_ws g (adr ad 1) z2.2) (w2 := fun z2 => wc_ws g ad (gset G 1 z2.2)) (o := fun z2 => some (.int z2.1)) (s2 := fun z2 => [.int z2.1]) (ci := 0) (q0 := 0) fx mm_X0_pass q_15_13 dX3_hours_41 h (fun _ hz => c_X0_pass hz) rfl rfl (rm_ok (by decide) (by decide)) ⟨Nat.zero_le _, Nat.zero_le _⟩ rfl (sq1 g ad G) (fun _ => sp1 g ad G _) rfl (Nat.le_of_ble_eq_true rfl) (fun _ => rfl) (fun z2 h => ?_)
      refine nm_w (wc_ws g ad) h (fun w3 h => ?_)
      exact fn_i (wc_ws g ad) fx hf (sn1 h) (sn2 h) dX3_hours_44
    · refine wa_aload_n fx 0 dX3_hours_30 rfl ?_
      refine wa_iconst fx (4 : Int32) dX3_hours_31 (by decide) ?_
      refine wa_V (b := ad 0) (rmc := (rmh 1)) (As := [.int (4 : Int32)]) (st := []) (wc := (wc_ws g ad G)) (wr := ([] : va_W)) (wcz := fun z4 => wc_ws g ad z4.2) (w2 := fun z4 => wc_ws g ad z4.2) (o := fun z4 => some (.int z4.1)) (s2 := fun z4 => [.int z4.1]) (ci := 3) (q0 := 0) fx mm_X3_finding q_4_17 dX3_hours_32 h (fun _ hz => c_X3_finding hz) rfl rfl (rm_ok (by decide) (by decide)) ⟨Nat.zero_le _, Nat.zero_le _⟩ rfl (List.Perm.refl _) (fun _ => List.Perm.refl _) rfl (Nat.le_of_ble_eq_true rfl) (fun _ => rfl) (fun z4 h => ?_)
      exact fn_i (wc_ws g ad) fx hf (sn1 h) (sn2 h) dX3_hours_35
def f_X3_now  (G : Nat → StT) (a1 : Int32) : Option (Int32 × (Nat → StT)) := if a1 = (0 : Int32) then (some (((G 1).2.2 1), G)) else (if a1 = (1 : Int32) then (some ((((G 1).2.2 1) - ((G 1).2.2 1) / (24 : Int32) * (24 : Int32)), G)) else (if a1 = (2 : Int32) then (Option.bind (f_X0_hasSun (G 1)) fun z1 => if z1 = 0 then (some ((0 : Int32), G)) else (some ((1 : Int32), G))) else (if a1 = (3 : Int32) then (Option.bind (f_X0_whoSits (G 1)) fun z2 => some (z2, G)) else (if a1 = (4 : Int32) then (Option.bind (f_X0_together (G 1)) fun z3 => some (((10000 : Int32) + z3), G)) else (if a1 = (5 : Int32) then (Option.bind (f_X0_emptyChairs (G 1)) fun z4 => some (z4, G)) else (Option.bind (f_X3_finding G (0 : Int32)) fun z5 => some (z5.1, z5.2)))))))
set_option maxHeartbeats 4000000 in
set_option maxRecDepth 100000 in
theorem c_X3_now {g : GT} {l : Launch} {ad : Nat → Nat}   {G : Nat → StT} {a1 : Int32} {r : Int32 × (Nat → StT)} (h : f_X3_now G a1 = some r) : Ct g l yX3_now (wd yX3_now cX3_now 2 (some .int)) (rmh 5) [.ref (ad 0), .int a1] (wc_ws g ad G) (wc_ws g ad r.2) (some (.int r.1)) := by
  refine Ct.of (lv := [(0, .ref (ad 0)), (1, .int a1)]) (by decide) (Nat.le_of_ble_eq_true rfl) rfl (fun K hl fx hf => ?_)
  subst hl
  rw [f_X3_now] at h
  refine wa_iload_n fx 1 dX3_now_0 rfl ?_
  by_cases c0 : a1 = (0 : Int32)
  · have h := (if_pos c0).symm.trans h
    refine wa_tabI fx 40 (0 : Int) dX3_now_1 (by rw [c0] <;> rfl) (by decide) (by decide) (by rfl) (by decide) ?_
    refine wa_aload_n fx 0 dX3_now_40 rfl ?_
    refine wa_get (v := .ref ((adr ad 1) 0)) fx wm_X3 0 rfl rfl 0 (by decide) q_1_16 rfl rfl dX3_now_41 ?_
    refine wa_get (v := .int ((G 1).2.2 1)) fx wm_X0 4 rfl rfl 10 (by decide) q_15_11 rfl rfl dX3_now_44 ?_
    exact fn_i (wc_ws g ad) fx hf (sn1 h) (sn2 h) dX3_now_47
  · have h := (if_neg c0).symm.trans h
    by_cases c1 : a1 = (1 : Int32)
    · have h := (if_pos c1).symm.trans h
      refine wa_tabI fx 48 (1 : Int) dX3_now_1 (by rw [c1] <;> rfl) (by decide) (by decide) (by rfl) (by decide) ?_
      refine wa_aload_n fx 0 dX3_now_48 rfl ?_
      refine wa_get (v := .ref ((adr ad 1) 0)) fx wm_X3 0 rfl rfl 0 (by decide) q_1_16 rfl rfl dX3_now_49 ?_
      refine wa_get (v := .int ((G 1).2.2 1)) fx wm_X0 4 rfl rfl 10 (by decide) q_15_11 rfl rfl dX3_now_52 ?_
      refine wa_bipush fx (24 : Int32) dX3_now_55 (by decide) ?_
      refine wa_irem fx dX3_now_57 (by decide) ?_
      exact fn_i (wc_ws g ad) fx hf (sn1 h) (sn2 h) dX3_now_58
    · have h := (if_neg c1).symm.trans h
      by_cases c2 : a1 = (2 : Int32)
      · have h := (if_pos c2).symm.trans h
        refine wa_tabI fx 59 (2 : Int) dX3_now_1 (by rw [c2] <;> rfl) (by decide) (by decide) (by rfl) (by decide) ?_
        refine wa_aload_n fx 0 dX3_now_59 rfl ?_
        refine wa_get (v := .ref ((adr ad 1) 0)) fx wm_X3 0 rfl rfl 0 (by decide) q_1_16 rfl rfl dX3_now_60 ?_
        refine wa_V (b := (adr ad 1) 0) (rmc := (rmh 1)) (As := []) (st := []) (wc := (rm_ws g (adr ad 1) (G 1))) (wr := (wr1 g ad G)) (wcz := fun _ => (rm_ws g (adr ad 1) (G 1))) (w2 := fun _ => (wc_ws g ad G)) (o := fun z1 => some (.int z1)) (s2 := fun z1 => [.int z1]) (ci := 0) (q0 := 0) fx mm_X0_hasSun q_17_11 dX3_now_63 h (fun _ hz => c_X0_hasSun hz) rfl rfl (rm_ok (by decide) (by decide)) ⟨Nat.zero_le _, Nat.zero_le _⟩ rfl (sq1 g ad G) (fun _ => (sq1 g ad G)) rfl (Nat.le_of_ble_eq_true rfl) (fun _ => rfl) (fun z1 h => ?_)
        refine wa_if_eq fx 73 dX3_now_66 (by decide) h (fun h => ?_) (fun h => ?_)
        · refine wa_iconst fx (0 : Int32) dX3_now_73 (by decide) ?_
          exact fn_i (wc_ws g ad) fx hf (sn1 h) (sn2 h) dX3_now_74
        · refine wa_iconst fx (1 : Int32) dX3_now_69 (by decide) ?_
          refine wa_goto fx 74 dX3_now_70 (by decide) ?_
          exact fn_i (wc_ws g ad) fx hf (sn1 h) (sn2 h) dX3_now_74
      · have h := (if_neg c2).symm.trans h
        by_cases c3 : a1 = (3 : Int32)
        · have h := (if_pos c3).symm.trans h
          refine wa_tabI fx 75 (3 : Int) dX3_now_1 (by rw [c3] <;> rfl) (by decide) (by decide) (by rfl) (by decide) ?_
          refine wa_aload_n fx 0 dX3_now_75 rfl ?_
          refine wa_get (v := .ref ((adr ad 1) 0)) fx wm_X3 0 rfl rfl 0 (by decide) q_1_16 rfl rfl dX3_now_76 ?_
          refine wa_V (b := (adr ad 1) 0) (rmc := (rmh 1)) (As := []) (st := []) (wc := (rm_ws g (adr ad 1) (G 1))) (wr := (wr1 g ad G)) (wcz := fun _ => (rm_ws g (adr ad 1) (G 1))) (w2 := fun _ => (wc_ws g ad G)) (o := fun z2 => some (.int z2)) (s2 := fun z2 => [.int z2]) (ci := 0) (q0 := 0) fx mm_X0_whoSits q_17_12 dX3_now_79 h (fun _ hz => c_X0_whoSits hz) rfl rfl (rm_ok (by decide) (by decide)) ⟨Nat.zero_le _, Nat.zero_le _⟩ rfl (sq1 g ad G) (fun _ => (sq1 g ad G)) rfl (Nat.le_of_ble_eq_true rfl) (fun _ => rfl) (fun z2 h => ?_)
          exact fn_i (wc_ws g ad) fx hf (sn1 h) (sn2 h) dX3_now_82
        · have h := (if_neg c3).symm.trans h
          by_cases c4 : a1 = (4 : Int32)
          · have h := (if_pos c4).symm.trans h
            refine wa_tabI fx 83 (4 : Int) dX3_now_1 (by rw [c4] <;> rfl) (by decide) (by decide) (by rfl) (by decide) ?_
            refine wa_sipush fx (10000 : Int32) dX3_now_83 (by decide) ?_
            refine wa_aload_n fx 0 dX3_now_86 rfl ?_
            refine wa_get (v := .ref ((adr ad 1) 0)) fx wm_X3 0 rfl rfl 0 (by decide) q_1_16 rfl rfl dX3_now_87 ?_
            refine wa_V (b := (adr ad 1) 0) (rmc := (rmh 4)) (As := []) (st := [.int (10000 : Int32)]) (wc := (rm_ws g (adr ad 1) (G 1))) (wr := (wr1 g ad G)) (wcz := fun _ => (rm_ws g (adr ad 1) (G 1))) (w2 := fun _ => (wc_ws g ad G)) (o := fun z3 => some (.int z3)) (s2 := fun z3 => [.int z3, .int (10000 : Int32)]) (ci := 0) (q0 := 0) fx mm_X0_together q_17_16 dX3_now_90 h (fun _ hz => c_X0_together hz) rfl rfl (rm_ok (by decide) (by decide)) ⟨Nat.zero_le _, Nat.zero_le _⟩ rfl (sq1 g ad G) (fun _ => (sq1 g ad G)) rfl (Nat.le_of_ble_eq_true rfl) (fun _ => rfl) (fun z3 h => ?_)
            refine wa_iadd fx dX3_now_93 ?_
            exact fn_i (wc_ws g ad) fx hf (sn1 h) (sn2 h) dX3_now_94
          · have h := (if_neg c4).symm.trans h
            by_cases c5 : a1 = (5 : Int32)
            · have h := (if_pos c5).symm.trans h
              refine wa_tabI fx 95 (5 : Int) dX3_now_1 (by rw [c5] <;> rfl) (by decide) (by decide) (by rfl) (by decide) ?_
              refine wa_aload_n fx 0 dX3_now_95 rfl ?_
              refine wa_get (v := .ref ((adr ad 1) 0)) fx wm_X3 0 rfl rfl 0 (by decide) q_1_16 rfl rfl dX3_now_96 ?_
              refine wa_V (b := (adr ad 1) 0) (rmc := (rmh 1)) (As := []) (st := []) (wc := (rm_ws g (adr ad 1) (G 1))) (wr := (wr1 g ad G)) (wcz := fun _ => (rm_ws g (adr ad 1) (G 1))) (w2 := fun _ => (wc_ws g ad G)) (o := fun z4 => some (.int z4)) (s2 := fun z4 => [.int z4]) (ci := 0) (q0 := 0) fx mm_X0_emptyChairs q_17_20 dX3_now_99 h (fun _ hz => c_X0_emptyChairs hz) rfl rfl (rm_ok (by decide) (by decide)) ⟨Nat.zero_le _, Nat.zero_le _⟩ rfl (sq1 g ad G) (fun _ => (sq1 g ad G)) rfl (Nat.le_of_ble_eq_true rfl) (fun _ => rfl) (fun z4 h => ?_)
              exact fn_i (wc_ws g ad) fx hf (sn1 h) (sn2 h) dX3_now_102
            · have h := (if_neg c5).symm.trans h
              refine wa_tabD fx 103 dX3_now_1 (by decide) [(0 : Int32), (1 : Int32), (2 : Int32), (3 : Int32), (4 : Int32), (5 : Int32)] (by decide) (List.forall_mem_cons.mpr ⟨c0, (List.forall_mem_cons.mpr ⟨c1, (List.forall_mem_cons.mpr ⟨c2, (List.forall_mem_cons.mpr ⟨c3, (List.forall_mem_cons.mpr ⟨c4, (List.forall_mem_cons.mpr ⟨c5, (fun _ hm => absurd hm List.not_mem_nil)⟩)⟩)⟩)⟩)⟩)⟩) ?_
              refine wa_aload_n fx 0 dX3_now_103 rfl ?_
              refine wa_iconst fx (0 : Int32) dX3_now_104 (by decide) ?_
              refine wa_V (b := ad 0) (rmc := (rmh 1)) (As := [.int (0 : Int32)]) (st := []) (wc := (wc_ws g ad G)) (wr := ([] : va_W)) (wcz := fun z5 => wc_ws g ad z5.2) (w2 := fun z5 => wc_ws g ad z5.2) (o := fun z5 => some (.int z5.1)) (s2 := fun z5 => [.int z5.1]) (ci := 3) (q0 := 0) fx mm_X3_finding q_4_17 dX3_now_105 h (fun _ hz => c_X3_finding hz) rfl rfl (rm_ok (by decide) (by decide)) ⟨Nat.zero_le _, Nat.zero_le _⟩ rfl (List.Perm.refl _) (fun _ => List.Perm.refl _) rfl (Nat.le_of_ble_eq_true rfl) (fun _ => rfl) (fun z5 h => ?_)
              exact fn_i (wc_ws g ad) fx hf (sn1 h) (sn2 h) dX3_now_108
def f_X3_on  (G : Nat → StT) (a1 : Int32) (a2 : Int32) (a3 : Int32) : Option (Int32 × (Nat → StT)) := Option.bind (f_X3_isThere G a1) fun z1 => if z1 = 0 then (Option.bind (f_X3_finding G (0 : Int32)) fun z2 => some (z2.1, z2.2)) else (Option.bind (f_X3_isWithin a2 (0 : Int32) (60 : Int32)) fun z3 => if z3 = 0 then (Option.bind (f_X3_finding G (0 : Int32)) fun z4 => some (z4.1, z4.2)) else (Option.bind (f_X3_isWithin a3 (0 : Int32) (1 : Int32)) fun z5 => if z5 = 0 then (Option.bind (f_X3_finding G (0 : Int32)) fun z10 => some (z10.1, z10.2)) else (Option.bind (f_X0_become (G 2, G 1)) fun z6 => nm (gset (gset G 2 z6.1) 1 z6.2) fun w7 => Option.bind (f_X0_pass (w7 2) a2) fun z8 => nm (gset w7 2 z8.2) fun w9 => if a3 = 0 then (ck a1 8 (some (((w9 2).1 8 (Int32.toNatClampNeg a1)), w9))) else (ck a1 8 (some (((w9 2).1 7 (Int32.toNatClampNeg a1)), w9))))))
set_option maxHeartbeats 4000000 in
set_option maxRecDepth 100000 in
theorem c_X3_on {g : GT} {l : Launch} {ad : Nat → Nat}   {G : Nat → StT} {a1 : Int32} {a2 : Int32} {a3 : Int32} {r : Int32 × (Nat → StT)} (h : f_X3_on G a1 a2 a3 = some r) : Ct g l yX3_on (wd yX3_on cX3_on 4 (some .int)) (rmh 7) [.ref (ad 0), .int a1, .int a2, .int a3] (wc_ws g ad G) (wc_ws g ad r.2) (some (.int r.1)) := by
  refine Ct.of (lv := [(0, .ref (ad 0)), (1, .int a1), (2, .int a2), (3, .int a3)]) (by decide) (Nat.le_of_ble_eq_true rfl) rfl (fun K hl fx hf => ?_)
  subst hl
  rw [f_X3_on] at h
  refine wa_aload_n fx 0 dX3_on_0 rfl ?_
  refine wa_iload_n fx 1 dX3_on_1 rfl ?_
  refine wa_V (b := ad 0) (rmc := (rmh 2)) (As := [.int a1]) (st := []) (wc := (wc_ws g ad G)) (wr := ([] : va_W)) (wcz := fun _ => (wc_ws g ad G)) (w2 := fun _ => (wc_ws g ad G)) (o := fun z1 => some (.int z1)) (s2 := fun z1 => [.int z1]) (ci := 3) (q0 := 0) fx mm_X3_isThere q_8_5 dX3_on_2 h (fun _ hz => c_X3_isThere hz) rfl rfl (rm_ok (by decide) (by decide)) ⟨Nat.zero_le _, Nat.zero_le _⟩ rfl (List.Perm.refl _) (fun _ => (List.Perm.refl _)) rfl (Nat.le_of_ble_eq_true rfl) (fun _ => rfl) (fun z1 h => ?_)
  refine wa_if_eq fx 27 dX3_on_5 (by decide) h (fun h => ?_) (fun h => ?_)
  · refine wa_aload_n fx 0 dX3_on_27 rfl ?_
    refine wa_iconst fx (0 : Int32) dX3_on_28 (by decide) ?_
    refine wa_V (b := ad 0) (rmc := (rmh 1)) (As := [.int (0 : Int32)]) (st := []) (wc := (wc_ws g ad G)) (wr := ([] : va_W)) (wcz := fun z2 => wc_ws g ad z2.2) (w2 := fun z2 => wc_ws g ad z2.2) (o := fun z2 => some (.int z2.1)) (s2 := fun z2 => [.int z2.1]) (ci := 3) (q0 := 0) fx mm_X3_finding q_4_17 dX3_on_29 h (fun _ hz => c_X3_finding hz) rfl rfl (rm_ok (by decide) (by decide)) ⟨Nat.zero_le _, Nat.zero_le _⟩ rfl (List.Perm.refl _) (fun _ => List.Perm.refl _) rfl (Nat.le_of_ble_eq_true rfl) (fun _ => rfl) (fun z2 h => ?_)
    exact fn_i (wc_ws g ad) fx hf (sn1 h) (sn2 h) dX3_on_32
  · refine wa_iload_n fx 2 dX3_on_8 rfl ?_
    refine wa_iconst fx (0 : Int32) dX3_on_9 (by decide) ?_
    refine wa_bipush fx (60 : Int32) dX3_on_10 (by decide) ?_
    refine wa_S (rmc := (rmh 1)) (As := [.int a2, .int (0 : Int32), .int (60 : Int32)]) (st := []) (wc := (no_ws ())) (wr := (wc_ws g ad G)) (wcz := fun _ => (no_ws ())) (w2 := fun _ => (wc_ws g ad G)) (o := fun z3 => some (.int z3)) (s2 := fun z3 => [.int z3]) fx mm_X3_isWithin q_4_14 dX3_on_12 h (fun _ hz => c_X3_isWithin hz) (rm_ok (by decide) (by decide)) ⟨Nat.zero_le _, Nat.zero_le _⟩ rfl (List.Perm.of_eq (List.append_nil _).symm) (fun _ => (List.Perm.of_eq (List.append_nil _).symm)) rfl (Nat.le_of_ble_eq_true rfl) (fun _ => rfl) (fun z3 h => ?_)
    refine wa_if_eq fx 27 dX3_on_15 (by decide) h (fun h => ?_) (fun h => ?_)
    · refine wa_aload_n fx 0 dX3_on_27 rfl ?_
      refine wa_iconst fx (0 : Int32) dX3_on_28 (by decide) ?_
      refine wa_V (b := ad 0) (rmc := (rmh 1)) (As := [.int (0 : Int32)]) (st := []) (wc := (wc_ws g ad G)) (wr := ([] : va_W)) (wcz := fun z4 => wc_ws g ad z4.2) (w2 := fun z4 => wc_ws g ad z4.2) (o := fun z4 => some (.int z4.1)) (s2 := fun z4 => [.int z4.1]) (ci := 3) (q0 := 0) fx mm_X3_finding q_4_17 dX3_on_29 h (fun _ hz => c_X3_finding hz) rfl rfl (rm_ok (by decide) (by decide)) ⟨Nat.zero_le _, Nat.zero_le _⟩ rfl (List.Perm.refl _) (fun _ => List.Perm.refl _) rfl (Nat.le_of_ble_eq_true rfl) (fun _ => rfl) (fun z4 h => ?_)
      exact fn_i (wc_ws g ad) fx hf (sn1 h) (sn2 h) dX3_on_32
    · refine wa_iload_n fx 3 dX3_on_18 rfl ?_
      refine wa_iconst fx (0 : Int32) dX3_on_19 (by decide) ?_
      refine wa_iconst fx (1 : Int32) dX3_on_20 (by decide) ?_
      refine wa_S (rmc := (rmh 1)) (As := [.int a3, .int (0 : Int32), .int (1 : Int32)]) (st := []) (wc := (no_ws ())) (wr := (wc_ws g ad G)) (wcz := fun _ => (no_ws ())) (w2 := fun _ => (wc_ws g ad G)) (o := fun z5 => some (.int z5)) (s2 := fun z5 => [.int z5]) fx mm_X3_isWithin q_4_14 dX3_on_21 h (fun _ hz => c_X3_isWithin hz) (rm_ok (by decide) (by decide)) ⟨Nat.zero_le _, Nat.zero_le _⟩ rfl (List.Perm.of_eq (List.append_nil _).symm) (fun _ => (List.Perm.of_eq (List.append_nil _).symm)) rfl (Nat.le_of_ble_eq_true rfl) (fun _ => rfl) (fun z5 h => ?_)
      refine wa_if_ne fx 33 dX3_on_24 (by decide) h (fun h => ?_) (fun h => ?_)
      · refine wa_aload_n fx 0 dX3_on_27 rfl ?_
        refine wa_iconst fx (0 : Int32) dX3_on_28 (by decide) ?_
        refine wa_V (b := ad 0) (rmc := (rmh 1)) (As := [.int (0 : Int32)]) (st := []) (wc := (wc_ws g ad G)) (wr := ([] : va_W)) (wcz := fun z10 => wc_ws g ad z10.2) (w2 := fun z10 => wc_ws g ad z10.2) (o := fun z10 => some (.int z10.1)) (s2 := fun z10 => [.int z10.1]) (ci := 3) (q0 := 0) fx mm_X3_finding q_4_17 dX3_on_29 h (fun _ hz => c_X3_finding hz) rfl rfl (rm_ok (by decide) (by decide)) ⟨Nat.zero_le _, Nat.zero_le _⟩ rfl (List.Perm.refl _) (fun _ => List.Perm.refl _) rfl (Nat.le_of_ble_eq_true rfl) (fun _ => rfl) (fun z10 h => ?_)
        exact fn_i (wc_ws g ad) fx hf (sn1 h) (sn2 h) dX3_on_32
      · refine wa_aload_n fx 0 dX3_on_33 rfl ?_
        refine wa_get (v := .ref ((adr ad 11) 0)) fx wm_X3 0 rfl rfl 1 (by decide) q_1_17 rfl rfl dX3_on_34 ?_
        refine wa_aload_n fx 0 dX3_on_37 rfl ?_
        refine wa_get (v := .ref ((adr ad 1) 0)) fx wm_X3 0 rfl rfl 0 (by decide) q_1_16 rfl rfl dX3_on_38 ?_
        refine wa_V (b := (adr ad 11) 0) (rmc := (rmh 2)) (As := [.ref ((adr ad 1) 0)]) (st := []) (wc := (bb_ws g (adr ad 11) (adr ad 1) (G 2, G 1))) (wr := (wr21 g ad G)) (wcz := fun z6 => bb_ws g (adr ad 11) (adr ad 1) z6) (w2 := fun z6 => wc_ws g ad (gset (gset G 2 z6.1) 1 z6.2)) (o := fun _ => none) (s2 := fun z6 => []) (ci := 0) (q0 := 0) fx mm_X0_become q_18_20 dX3_on_41 h (fun _ hz => c_X0_become hz) rfl rfl (rm_ok (by decide) (by decide)) ⟨Nat.zero_le _, Nat.zero_le _⟩ rfl (sq21 g ad G) (fun _ => sp21 g ad G _) rfl (Nat.le_of_ble_eq_true rfl) (fun _ => rfl) (fun z6 h => ?_)
        refine nm_w (wc_ws g ad) h (fun w7 h => ?_)
        refine wa_aload_n fx 0 dX3_on_44 rfl ?_
        refine wa_get (v := .ref ((adr ad 11) 0)) fx wm_X3 0 rfl rfl 1 (by decide) q_1_17 rfl rfl dX3_on_45 ?_
        refine wa_iload_n fx 2 dX3_on_48 rfl ?_
        refine wa_V (b := (adr ad 11) 0) (rmc := (rmh 6)) (As := [.int a2]) (st := []) (wc := (rm_ws g (adr ad 11) (w7 2))) (wr := (wr2 g ad w7)) (wcz := fun z8 => rm_ws g (adr ad 11) z8.2) (w2 := fun z8 => wc_ws g ad (gset w7 2 z8.2)) (o := fun z8 => some (.int z8.1)) (s2 := fun z8 => [.int z8.1]) (ci := 0) (q0 := 0) fx mm_X0_pass q_15_13 dX3_on_49 h (fun _ hz => c_X0_pass hz) rfl rfl (rm_ok (by decide) (by decide)) ⟨Nat.zero_le _, Nat.zero_le _⟩ rfl (sq2 g ad w7) (fun _ => sp2 g ad w7 _) rfl (Nat.le_of_ble_eq_true rfl) (fun _ => rfl) (fun z8 h => ?_)
        refine nm_w (wc_ws g ad) h (fun w9 h => ?_)
        refine wa_pop fx dX3_on_52 rfl ?_
        refine wa_iload_n fx 3 dX3_on_53 rfl ?_
        refine wa_if_ne fx 69 dX3_on_54 (by decide) h (fun h => ?_) (fun h => ?_)
        · refine wa_aload_n fx 0 dX3_on_57 rfl ?_
          refine wa_get (v := .ref ((adr ad 11) 0)) fx wm_X3 0 rfl rfl 1 (by decide) q_1_17 rfl rfl dX3_on_58 ?_
          refine wa_get (v := .ref ((adr ad 11) 9)) fx wm_X0 14 rfl rfl 8 (by decide) q_8_4 rfl rfl dX3_on_61 ?_
          refine wa_iload_n fx 1 dX3_on_64 rfl ?_
          refine wa_iald (f := (w9 2).1 8) fx 23 rfl dX3_on_65 h (fun h => ?_)
          refine wa_goto fx 78 dX3_on_66 (by decide) ?_
          exact fn_i (wc_ws g ad) fx hf (sn1 h) (sn2 h) dX3_on_78
        · refine wa_aload_n fx 0 dX3_on_69 rfl ?_
          refine wa_get (v := .ref ((adr ad 11) 0)) fx wm_X3 0 rfl rfl 1 (by decide) q_1_17 rfl rfl dX3_on_70 ?_
          refine wa_get (v := .ref ((adr ad 11) 8)) fx wm_X0 14 rfl rfl 7 (by decide) q_8_3 rfl rfl dX3_on_73 ?_
          refine wa_iload_n fx 1 dX3_on_76 rfl ?_
          refine wa_iald (f := (w9 2).1 7) fx 22 rfl dX3_on_77 h (fun h => ?_)
          exact fn_i (wc_ws g ad) fx hf (sn1 h) (sn2 h) dX3_on_78
def f_X3_peace  (G : Nat → StT) (a1 : Int32) : Option (Int32 × (Nat → StT)) := Option.bind (f_X3_isWithin a1 (0 : Int32) (60 : Int32)) fun z1 => if z1 = 0 then (Option.bind (f_X3_finding G (0 : Int32)) fun z7 => some (z7.1, z7.2)) else (Option.bind (f_X0_become (G 2, G 1)) fun z2 => nm (gset (gset G 2 z2.1) 1 z2.2) fun w3 => Option.bind (f_X0_pass (w3 2) a1) fun z4 => nm (gset w3 2 z4.2) fun w5 => Option.bind (f_X0_together (w5 2)) fun z6 => some (((10000 : Int32) + z6), w5))
set_option maxHeartbeats 4000000 in
set_option maxRecDepth 100000 in
theorem c_X3_peace {g : GT} {l : Launch} {ad : Nat → Nat}   {G : Nat → StT} {a1 : Int32} {r : Int32 × (Nat → StT)} (h : f_X3_peace G a1 = some r) : Ct g l yX3_peace (wd yX3_peace cX3_peace 2 (some .int)) (rmh 7) [.ref (ad 0), .int a1] (wc_ws g ad G) (wc_ws g ad r.2) (some (.int r.1)) := by
  refine Ct.of (lv := [(0, .ref (ad 0)), (1, .int a1)]) (by decide) (Nat.le_of_ble_eq_true rfl) rfl (fun K hl fx hf => ?_)
  subst hl
  rw [f_X3_peace] at h
  refine wa_iload_n fx 1 dX3_peace_0 rfl ?_
  refine wa_iconst fx (0 : Int32) dX3_peace_1 (by decide) ?_
  refine wa_bipush fx (60 : Int32) dX3_peace_2 (by decide) ?_
  refine wa_S (rmc := (rmh 1)) (As := [.int a1, .int (0 : Int32), .int (60 : Int32)]) (st := []) (wc := (no_ws ())) (wr := (wc_ws g ad G)) (wcz := fun _ => (no_ws ())) (w2 := fun _ => (wc_ws g ad G)) (o := fun z1 => some (.int z1)) (s2 := fun z1 => [.int z1]) fx mm_X3_isWithin q_4_14 dX3_peace_4 h (fun _ hz => c_X3_isWithin hz) (rm_ok (by decide) (by decide)) ⟨Nat.zero_le _, Nat.zero_le _⟩ rfl (List.Perm.of_eq (List.append_nil _).symm) (fun _ => (List.Perm.of_eq (List.append_nil _).symm)) rfl (Nat.le_of_ble_eq_true rfl) (fun _ => rfl) (fun z1 h => ?_)
  refine wa_if_ne fx 16 dX3_peace_7 (by decide) h (fun h => ?_) (fun h => ?_)
  · refine wa_aload_n fx 0 dX3_peace_10 rfl ?_
    refine wa_iconst fx (0 : Int32) dX3_peace_11 (by decide) ?_
    refine wa_V (b := ad 0) (rmc := (rmh 1)) (As := [.int (0 : Int32)]) (st := []) (wc := (wc_ws g ad G)) (wr := ([] : va_W)) (wcz := fun z7 => wc_ws g ad z7.2) (w2 := fun z7 => wc_ws g ad z7.2) (o := fun z7 => some (.int z7.1)) (s2 := fun z7 => [.int z7.1]) (ci := 3) (q0 := 0) fx mm_X3_finding q_4_17 dX3_peace_12 h (fun _ hz => c_X3_finding hz) rfl rfl (rm_ok (by decide) (by decide)) ⟨Nat.zero_le _, Nat.zero_le _⟩ rfl (List.Perm.refl _) (fun _ => List.Perm.refl _) rfl (Nat.le_of_ble_eq_true rfl) (fun _ => rfl) (fun z7 h => ?_)
    exact fn_i (wc_ws g ad) fx hf (sn1 h) (sn2 h) dX3_peace_15
  · refine wa_aload_n fx 0 dX3_peace_16 rfl ?_
    refine wa_get (v := .ref ((adr ad 11) 0)) fx wm_X3 0 rfl rfl 1 (by decide) q_1_17 rfl rfl dX3_peace_17 ?_
    refine wa_aload_n fx 0 dX3_peace_20 rfl ?_
    refine wa_get (v := .ref ((adr ad 1) 0)) fx wm_X3 0 rfl rfl 0 (by decide) q_1_16 rfl rfl dX3_peace_21 ?_
    refine wa_V (b := (adr ad 11) 0) (rmc := (rmh 2)) (As := [.ref ((adr ad 1) 0)]) (st := []) (wc := (bb_ws g (adr ad 11) (adr ad 1) (G 2, G 1))) (wr := (wr21 g ad G)) (wcz := fun z2 => bb_ws g (adr ad 11) (adr ad 1) z2) (w2 := fun z2 => wc_ws g ad (gset (gset G 2 z2.1) 1 z2.2)) (o := fun _ => none) (s2 := fun z2 => []) (ci := 0) (q0 := 0) fx mm_X0_become q_18_20 dX3_peace_24 h (fun _ hz => c_X0_become hz) rfl rfl (rm_ok (by decide) (by decide)) ⟨Nat.zero_le _, Nat.zero_le _⟩ rfl (sq21 g ad G) (fun _ => sp21 g ad G _) rfl (Nat.le_of_ble_eq_true rfl) (fun _ => rfl) (fun z2 h => ?_)
    refine nm_w (wc_ws g ad) h (fun w3 h => ?_)
    refine wa_aload_n fx 0 dX3_peace_27 rfl ?_
    refine wa_get (v := .ref ((adr ad 11) 0)) fx wm_X3 0 rfl rfl 1 (by decide) q_1_17 rfl rfl dX3_peace_28 ?_
    refine wa_iload_n fx 1 dX3_peace_31 rfl ?_
    refine wa_V (b := (adr ad 11) 0) (rmc := (rmh 6)) (As := [.int a1]) (st := []) (wc := (rm_ws g (adr ad 11) (w3 2))) (wr := (wr2 g ad w3)) (wcz := fun z4 => rm_ws g (adr ad 11) z4.2) (w2 := fun z4 => wc_ws g ad (gset w3 2 z4.2)) (o := fun z4 => some (.int z4.1)) (s2 := fun z4 => [.int z4.1]) (ci := 0) (q0 := 0) fx mm_X0_pass q_15_13 dX3_peace_32 h (fun _ hz => c_X0_pass hz) rfl rfl (rm_ok (by decide) (by decide)) ⟨Nat.zero_le _, Nat.zero_le _⟩ rfl (sq2 g ad w3) (fun _ => sp2 g ad w3 _) rfl (Nat.le_of_ble_eq_true rfl) (fun _ => rfl) (fun z4 h => ?_)
    refine nm_w (wc_ws g ad) h (fun w5 h => ?_)
    refine wa_pop fx dX3_peace_35 rfl ?_
    refine wa_sipush fx (10000 : Int32) dX3_peace_36 (by decide) ?_
    refine wa_aload_n fx 0 dX3_peace_39 rfl ?_
    refine wa_get (v := .ref ((adr ad 11) 0)) fx wm_X3 0 rfl rfl 1 (by decide) q_1_17 rfl rfl dX3_peace_40 ?_
    refine wa_V (b := (adr ad 11) 0) (rmc := (rmh 4)) (As := []) (st := [.int (10000 : Int32)]) (wc := (rm_ws g (adr ad 11) (w5 2))) (wr := (wr2 g ad w5)) (wcz := fun _ => (rm_ws g (adr ad 11) (w5 2))) (w2 := fun _ => (wc_ws g ad w5)) (o := fun z6 => some (.int z6)) (s2 := fun z6 => [.int z6, .int (10000 : Int32)]) (ci := 0) (q0 := 0) fx mm_X0_together q_17_16 dX3_peace_43 h (fun _ hz => c_X0_together hz) rfl rfl (rm_ok (by decide) (by decide)) ⟨Nat.zero_le _, Nat.zero_le _⟩ rfl (sq2 g ad w5) (fun _ => (sq2 g ad w5)) rfl (Nat.le_of_ble_eq_true rfl) (fun _ => rfl) (fun z6 h => ?_)
    refine wa_iadd fx dX3_peace_46 ?_
    exact fn_i (wc_ws g ad) fx hf (sn1 h) (sn2 h) dX3_peace_47
def f_X3_settles_l13 : Nat → (Int32) → (Nat → StT) → Option (Int32 × (Nat → StT))
  | 0, _, _ => none
  | n + 1, x5, w6 => if (60 : Int32) < x5 then (Option.bind (f_X3_finding w6 (3 : Int32)) fun z7 => some (z7.1, z7.2)) else (Option.bind (f_X0_passOne (w6 2)) fun z8 => nm (gset w6 2 z8.2) fun w9 => if z8.1 = 0 then (some (x5, w9)) else (nm (x5 + (1 : Int32)) fun x10 => (f_X3_settles_l13 n) x10 w9))
def f_X3_settles  (G : Nat → StT) : Option (Int32 × (Nat → StT)) := Option.bind (f_X0_become (G 2, G 1)) fun z1 => nm (gset (gset G 2 z1.1) 1 z1.2) fun w2 => f_X3_settles_l13 200 (0 : Int32) w2
set_option maxHeartbeats 4000000 in
set_option maxRecDepth 100000 in
theorem c_X3_settles {g : GT} {l : Launch} {ad : Nat → Nat}   {G : Nat → StT} {r : Int32 × (Nat → StT)} (h : f_X3_settles G = some r) : Ct g l yX3_settles (wd yX3_settles cX3_settles 2 (some .int)) (rmh 6) [.ref (ad 0)] (wc_ws g ad G) (wc_ws g ad r.2) (some (.int r.1)) := by
  refine Ct.of (lv := [(0, .ref (ad 0))]) (by decide) (Nat.le_of_ble_eq_true rfl) rfl (fun K hl fx hf => ?_)
  subst hl
  rw [f_X3_settles] at h
  have B13 : ∀  (n : Nat) (x5 : Int32) (w6 : Nat → StT), f_X3_settles_l13 n x5 w6 = some r → WA g K 2 0 0 13 [(0, .ref (ad 0)), (1, .int x5)] [] (wc_ws g ad w6) := by
    intro   n
    induction n with
    | zero => intro x5 w6 h; exact absurd h (by rw [f_X3_settles_l13]; exact nofun)
    | succ n ih =>
      intro x5 w6 h
      rw [f_X3_settles_l13] at h
      refine wa_iload_n fx 1 dX3_settles_13 rfl ?_
      refine wa_bipush fx (60 : Int32) dX3_settles_14 (by decide) ?_
      refine wa_icmp_gt fx 37 dX3_settles_16 (by decide) h (fun h => ?_) (fun h => ?_)
      · refine wa_aload_n fx 0 dX3_settles_37 rfl ?_
        refine wa_iconst fx (3 : Int32) dX3_settles_38 (by decide) ?_
        refine wa_V (b := ad 0) (rmc := (rmh 1)) (As := [.int (3 : Int32)]) (st := []) (wc := (wc_ws g ad w6)) (wr := ([] : va_W)) (wcz := fun z7 => wc_ws g ad z7.2) (w2 := fun z7 => wc_ws g ad z7.2) (o := fun z7 => some (.int z7.1)) (s2 := fun z7 => [.int z7.1]) (ci := 3) (q0 := 0) fx mm_X3_finding q_4_17 dX3_settles_39 h (fun _ hz => c_X3_finding hz) rfl rfl (rm_ok (by decide) (by decide)) ⟨Nat.zero_le _, Nat.zero_le _⟩ rfl (List.Perm.refl _) (fun _ => List.Perm.refl _) rfl (Nat.le_of_ble_eq_true rfl) (fun _ => rfl) (fun z7 h => ?_)
        exact fn_i (wc_ws g ad) fx hf (sn1 h) (sn2 h) dX3_settles_42
      · refine wa_aload_n fx 0 dX3_settles_19 rfl ?_
        refine wa_get (v := .ref ((adr ad 11) 0)) fx wm_X3 0 rfl rfl 1 (by decide) q_1_17 rfl rfl dX3_settles_20 ?_
        refine wa_V (b := (adr ad 11) 0) (rmc := (rmh 5)) (As := []) (st := []) (wc := (rm_ws g (adr ad 11) (w6 2))) (wr := (wr2 g ad w6)) (wcz := fun z8 => rm_ws g (adr ad 11) z8.2) (w2 := fun z8 => wc_ws g ad (gset w6 2 z8.2)) (o := fun z8 => some (.int z8.1)) (s2 := fun z8 => [.int z8.1]) (ci := 0) (q0 := 0) fx mm_X0_passOne q_20_8 dX3_settles_23 h (fun _ hz => c_X0_passOne hz) rfl rfl (rm_ok (by decide) (by decide)) ⟨Nat.zero_le _, Nat.zero_le _⟩ rfl (sq2 g ad w6) (fun _ => sp2 g ad w6 _) rfl (Nat.le_of_ble_eq_true rfl) (fun _ => rfl) (fun z8 h => ?_)
        refine nm_w (wc_ws g ad) h (fun w9 h => ?_)
        refine wa_if_ne fx 31 dX3_settles_26 (by decide) h (fun h => ?_) (fun h => ?_)
        · refine wa_iload_n fx 1 dX3_settles_29 rfl ?_
          exact fn_i (wc_ws g ad) fx hf (sn1 h) (sn2 h) dX3_settles_30
        · refine wa_iinc fx 1 (fun x10 => [(1, .int x10), (0, .ref (ad 0))]) dX3_settles_31 rfl (by rfl) (by decide) (fun _ => rfl) h (fun x10 h => ?_)
          refine wa_goto fx 13 dX3_settles_34 (by decide) ?_
          refine wa_sub [1, 0] rfl ?_
          exact ih x10 w9 h
  refine wa_aload_n fx 0 dX3_settles_0 rfl ?_
  refine wa_get (v := .ref ((adr ad 11) 0)) fx wm_X3 0 rfl rfl 1 (by decide) q_1_17 rfl rfl dX3_settles_1 ?_
  refine wa_aload_n fx 0 dX3_settles_4 rfl ?_
  refine wa_get (v := .ref ((adr ad 1) 0)) fx wm_X3 0 rfl rfl 0 (by decide) q_1_16 rfl rfl dX3_settles_5 ?_
  refine wa_V (b := (adr ad 11) 0) (rmc := (rmh 2)) (As := [.ref ((adr ad 1) 0)]) (st := []) (wc := (bb_ws g (adr ad 11) (adr ad 1) (G 2, G 1))) (wr := (wr21 g ad G)) (wcz := fun z1 => bb_ws g (adr ad 11) (adr ad 1) z1) (w2 := fun z1 => wc_ws g ad (gset (gset G 2 z1.1) 1 z1.2)) (o := fun _ => none) (s2 := fun z1 => []) (ci := 0) (q0 := 0) fx mm_X0_become q_18_20 dX3_settles_8 h (fun _ hz => c_X0_become hz) rfl rfl (rm_ok (by decide) (by decide)) ⟨Nat.zero_le _, Nat.zero_le _⟩ rfl (sq21 g ad G) (fun _ => sp21 g ad G _) rfl (Nat.le_of_ble_eq_true rfl) (fun _ => rfl) (fun z1 h => ?_)
  refine nm_w (wc_ws g ad) h (fun w2 h => ?_)
  refine wa_iconst fx (0 : Int32) dX3_settles_11 (by decide) ?_
  refine wa_istore_n fx [(1, .int (0 : Int32)), (0, .ref (ad 0))] dX3_settles_12 rfl (by decide) rfl ?_
  refine wa_sub [1, 0] rfl ?_
  exact B13 200 (0 : Int32) w2 h
def f_X3_gets_l34 : Nat → (Int32) → (Int32) → (Int32) → (Nat → StT) → Option (Int32 × (Nat → StT))
  | 0, _, _, _, _ => none
  | n + 1, x10, x11, x12, w13 => if (60 : Int32) < x12 then (Option.bind (f_X3_finding w13 (3 : Int32)) fun z14 => some (z14.1, z14.2)) else (ck x10 8 (if ((w13 2).1 8 (Int32.toNatClampNeg x10)) = x11 then (some (x12, w13)) else (Option.bind (f_X0_passOne (w13 2)) fun z15 => nm (gset w13 2 z15.2) fun w16 => nm (x12 + (1 : Int32)) fun x17 => (f_X3_gets_l34 n) x10 x11 x17 w16)))
def f_X3_gets  (G : Nat → StT) (a1 : Int32) (a2 : Int32) : Option (Int32 × (Nat → StT)) := Option.bind (f_X3_isThere G a1) fun z1 => if z1 = 0 then (Option.bind (f_X3_finding G (0 : Int32)) fun z2 => some (z2.1, z2.2)) else (Option.bind (f_X3_isChair a2) fun z3 => if z3 = 0 then (Option.bind (f_X3_finding G (0 : Int32)) fun z18 => some (z18.1, z18.2)) else (Option.bind (f_X0_become (G 2, G 1)) fun z4 => nm (gset (gset G 2 z4.1) 1 z4.2) fun w5 => f_X3_gets_l34 200 a1 a2 (0 : Int32) w5))
set_option maxHeartbeats 4000000 in
set_option maxRecDepth 100000 in
theorem c_X3_gets {g : GT} {l : Launch} {ad : Nat → Nat}   {G : Nat → StT} {a1 : Int32} {a2 : Int32} {r : Int32 × (Nat → StT)} (h : f_X3_gets G a1 a2 = some r) : Ct g l yX3_gets (wd yX3_gets cX3_gets 4 (some .int)) (rmh 6) [.ref (ad 0), .int a1, .int a2] (wc_ws g ad G) (wc_ws g ad r.2) (some (.int r.1)) := by
  refine Ct.of (lv := [(0, .ref (ad 0)), (1, .int a1), (2, .int a2)]) (by decide) (Nat.le_of_ble_eq_true rfl) rfl (fun K hl fx hf => ?_)
  subst hl
  rw [f_X3_gets] at h
  have B34 : ∀  (n : Nat) (x10 : Int32) (x11 : Int32) (x12 : Int32) (w13 : Nat → StT), f_X3_gets_l34 n x10 x11 x12 w13 = some r → WA g K 4 0 0 34 [(0, .ref (ad 0)), (1, .int x10), (2, .int x11), (3, .int x12)] [] (wc_ws g ad w13) := by
    intro   n
    induction n with
    | zero => intro x10 x11 x12 w13 h; exact absurd h (by rw [f_X3_gets_l34]; exact nofun)
    | succ n ih =>
      intro x10 x11 x12 w13 h
      rw [f_X3_gets_l34] at h
      refine wa_iload_n fx 3 dX3_gets_34 rfl ?_
      refine wa_bipush fx (60 : Int32) dX3_gets_35 (by decide) ?_
      refine wa_icmp_gt fx 69 dX3_gets_37 (by decide) h (fun h => ?_) (fun h => ?_)
      · refine wa_aload_n fx 0 dX3_gets_69 rfl ?_
        refine wa_iconst fx (3 : Int32) dX3_gets_70 (by decide) ?_
        refine wa_V (b := ad 0) (rmc := (rmh 1)) (As := [.int (3 : Int32)]) (st := []) (wc := (wc_ws g ad w13)) (wr := ([] : va_W)) (wcz := fun z14 => wc_ws g ad z14.2) (w2 := fun z14 => wc_ws g ad z14.2) (o := fun z14 => some (.int z14.1)) (s2 := fun z14 => [.int z14.1]) (ci := 3) (q0 := 0) fx mm_X3_finding q_4_17 dX3_gets_71 h (fun _ hz => c_X3_finding hz) rfl rfl (rm_ok (by decide) (by decide)) ⟨Nat.zero_le _, Nat.zero_le _⟩ rfl (List.Perm.refl _) (fun _ => List.Perm.refl _) rfl (Nat.le_of_ble_eq_true rfl) (fun _ => rfl) (fun z14 h => ?_)
        exact fn_i (wc_ws g ad) fx hf (sn1 h) (sn2 h) dX3_gets_74
      · refine wa_aload_n fx 0 dX3_gets_40 rfl ?_
        refine wa_get (v := .ref ((adr ad 11) 0)) fx wm_X3 0 rfl rfl 1 (by decide) q_1_17 rfl rfl dX3_gets_41 ?_
        refine wa_get (v := .ref ((adr ad 11) 9)) fx wm_X0 14 rfl rfl 8 (by decide) q_8_4 rfl rfl dX3_gets_44 ?_
        refine wa_iload_n fx 1 dX3_gets_47 rfl ?_
        refine wa_iald (f := (w13 2).1 8) fx 23 rfl dX3_gets_48 h (fun h => ?_)
        refine wa_iload_n fx 2 dX3_gets_49 rfl ?_
        refine wa_icmp_ne fx 55 dX3_gets_50 (by decide) h (fun h => ?_) (fun h => ?_)
        · refine wa_iload_n fx 3 dX3_gets_53 rfl ?_
          exact fn_i (wc_ws g ad) fx hf (sn1 h) (sn2 h) dX3_gets_54
        · refine wa_aload_n fx 0 dX3_gets_55 rfl ?_
          refine wa_get (v := .ref ((adr ad 11) 0)) fx wm_X3 0 rfl rfl 1 (by decide) q_1_17 rfl rfl dX3_gets_56 ?_
          refine wa_V (b := (adr ad 11) 0) (rmc := (rmh 5)) (As := []) (st := []) (wc := (rm_ws g (adr ad 11) (w13 2))) (wr := (wr2 g ad w13)) (wcz := fun z15 => rm_ws g (adr ad 11) z15.2) (w2 := fun z15 => wc_ws g ad (gset w13 2 z15.2)) (o := fun z15 => some (.int z15.1)) (s2 := fun z15 => [.int z15.1]) (ci := 0) (q0 := 0) fx mm_X0_passOne q_20_8 dX3_gets_59 h (fun _ hz => c_X0_passOne hz) rfl rfl (rm_ok (by decide) (by decide)) ⟨Nat.zero_le _, Nat.zero_le _⟩ rfl (sq2 g ad w13) (fun _ => sp2 g ad w13 _) rfl (Nat.le_of_ble_eq_true rfl) (fun _ => rfl) (fun z15 h => ?_)
          refine nm_w (wc_ws g ad) h (fun w16 h => ?_)
          refine wa_pop fx dX3_gets_62 rfl ?_
          refine wa_iinc fx 3 (fun x17 => [(3, .int x17), (0, .ref (ad 0)), (1, .int x10), (2, .int x11)]) dX3_gets_63 rfl (by rfl) (by decide) (fun _ => rfl) h (fun x17 h => ?_)
          refine wa_goto fx 34 dX3_gets_66 (by decide) ?_
          refine wa_sub [1, 2, 3, 0] rfl ?_
          exact ih x10 x11 x17 w16 h
  refine wa_aload_n fx 0 dX3_gets_0 rfl ?_
  refine wa_iload_n fx 1 dX3_gets_1 rfl ?_
  refine wa_V (b := ad 0) (rmc := (rmh 2)) (As := [.int a1]) (st := []) (wc := (wc_ws g ad G)) (wr := ([] : va_W)) (wcz := fun _ => (wc_ws g ad G)) (w2 := fun _ => (wc_ws g ad G)) (o := fun z1 => some (.int z1)) (s2 := fun z1 => [.int z1]) (ci := 3) (q0 := 0) fx mm_X3_isThere q_8_5 dX3_gets_2 h (fun _ hz => c_X3_isThere hz) rfl rfl (rm_ok (by decide) (by decide)) ⟨Nat.zero_le _, Nat.zero_le _⟩ rfl (List.Perm.refl _) (fun _ => (List.Perm.refl _)) rfl (Nat.le_of_ble_eq_true rfl) (fun _ => rfl) (fun z1 h => ?_)
  refine wa_if_eq fx 15 dX3_gets_5 (by decide) h (fun h => ?_) (fun h => ?_)
  · refine wa_aload_n fx 0 dX3_gets_15 rfl ?_
    refine wa_iconst fx (0 : Int32) dX3_gets_16 (by decide) ?_
    refine wa_V (b := ad 0) (rmc := (rmh 1)) (As := [.int (0 : Int32)]) (st := []) (wc := (wc_ws g ad G)) (wr := ([] : va_W)) (wcz := fun z2 => wc_ws g ad z2.2) (w2 := fun z2 => wc_ws g ad z2.2) (o := fun z2 => some (.int z2.1)) (s2 := fun z2 => [.int z2.1]) (ci := 3) (q0 := 0) fx mm_X3_finding q_4_17 dX3_gets_17 h (fun _ hz => c_X3_finding hz) rfl rfl (rm_ok (by decide) (by decide)) ⟨Nat.zero_le _, Nat.zero_le _⟩ rfl (List.Perm.refl _) (fun _ => List.Perm.refl _) rfl (Nat.le_of_ble_eq_true rfl) (fun _ => rfl) (fun z2 h => ?_)
    exact fn_i (wc_ws g ad) fx hf (sn1 h) (sn2 h) dX3_gets_20
  · refine wa_iload_n fx 2 dX3_gets_8 rfl ?_
    refine wa_S (rmc := (rmh 2)) (As := [.int a2]) (st := []) (wc := (no_ws ())) (wr := (wc_ws g ad G)) (wcz := fun _ => (no_ws ())) (w2 := fun _ => (wc_ws g ad G)) (o := fun z3 => some (.int z3)) (s2 := fun z3 => [.int z3]) fx mm_X3_isChair q_4_11 dX3_gets_9 h (fun _ hz => c_X3_isChair hz) (rm_ok (by decide) (by decide)) ⟨Nat.zero_le _, Nat.zero_le _⟩ rfl (List.Perm.of_eq (List.append_nil _).symm) (fun _ => (List.Perm.of_eq (List.append_nil _).symm)) rfl (Nat.le_of_ble_eq_true rfl) (fun _ => rfl) (fun z3 h => ?_)
    refine wa_if_ne fx 21 dX3_gets_12 (by decide) h (fun h => ?_) (fun h => ?_)
    · refine wa_aload_n fx 0 dX3_gets_15 rfl ?_
      refine wa_iconst fx (0 : Int32) dX3_gets_16 (by decide) ?_
      refine wa_V (b := ad 0) (rmc := (rmh 1)) (As := [.int (0 : Int32)]) (st := []) (wc := (wc_ws g ad G)) (wr := ([] : va_W)) (wcz := fun z18 => wc_ws g ad z18.2) (w2 := fun z18 => wc_ws g ad z18.2) (o := fun z18 => some (.int z18.1)) (s2 := fun z18 => [.int z18.1]) (ci := 3) (q0 := 0) fx mm_X3_finding q_4_17 dX3_gets_17 h (fun _ hz => c_X3_finding hz) rfl rfl (rm_ok (by decide) (by decide)) ⟨Nat.zero_le _, Nat.zero_le _⟩ rfl (List.Perm.refl _) (fun _ => List.Perm.refl _) rfl (Nat.le_of_ble_eq_true rfl) (fun _ => rfl) (fun z18 h => ?_)
      exact fn_i (wc_ws g ad) fx hf (sn1 h) (sn2 h) dX3_gets_20
    · refine wa_aload_n fx 0 dX3_gets_21 rfl ?_
      refine wa_get (v := .ref ((adr ad 11) 0)) fx wm_X3 0 rfl rfl 1 (by decide) q_1_17 rfl rfl dX3_gets_22 ?_
      refine wa_aload_n fx 0 dX3_gets_25 rfl ?_
      refine wa_get (v := .ref ((adr ad 1) 0)) fx wm_X3 0 rfl rfl 0 (by decide) q_1_16 rfl rfl dX3_gets_26 ?_
      refine wa_V (b := (adr ad 11) 0) (rmc := (rmh 2)) (As := [.ref ((adr ad 1) 0)]) (st := []) (wc := (bb_ws g (adr ad 11) (adr ad 1) (G 2, G 1))) (wr := (wr21 g ad G)) (wcz := fun z4 => bb_ws g (adr ad 11) (adr ad 1) z4) (w2 := fun z4 => wc_ws g ad (gset (gset G 2 z4.1) 1 z4.2)) (o := fun _ => none) (s2 := fun z4 => []) (ci := 0) (q0 := 0) fx mm_X0_become q_18_20 dX3_gets_29 h (fun _ hz => c_X0_become hz) rfl rfl (rm_ok (by decide) (by decide)) ⟨Nat.zero_le _, Nat.zero_le _⟩ rfl (sq21 g ad G) (fun _ => sp21 g ad G _) rfl (Nat.le_of_ble_eq_true rfl) (fun _ => rfl) (fun z4 h => ?_)
      refine nm_w (wc_ws g ad) h (fun w5 h => ?_)
      refine wa_iconst fx (0 : Int32) dX3_gets_32 (by decide) ?_
      refine wa_istore_n fx [(3, .int (0 : Int32)), (0, .ref (ad 0)), (1, .int a1), (2, .int a2)] dX3_gets_33 rfl (by decide) rfl ?_
      refine wa_sub [1, 2, 3, 0] rfl ?_
      exact B34 200 a1 a2 (0 : Int32) w5 h
def f_X3_mostPeace_l34 (rec : (Nat → StT) → Int32 → Int32 → Option (Int32 × (Nat → StT))) : Nat → (Int32) → (Int32) → (Int32) → (Int32) → (Nat → StT) → Option (Int32 × (Nat → StT))
  | 0, _, _, _, _, _ => none
  | n + 1, x10, x11, x12, x13, w14 => if x11 ≤ x13 then (some (x12, w14)) else (ck x10 8 (ck x13 8 (Option.bind (f_X0_swap (w14 2) ((w14 0).1 1 (Int32.toNatClampNeg x10)) ((w14 0).1 1 (Int32.toNatClampNeg x13))) fun z15 => nm (gset w14 2 z15) fun w16 => Option.bind (rec w16 (x10 + (1 : Int32)) x11) fun z17 => nm (if x12 < z17.1 then z17.1 else x12) fun x18 => ck x10 8 (ck x13 8 (Option.bind (f_X0_swap (z17.2 2) ((z17.2 0).1 1 (Int32.toNatClampNeg x10)) ((z17.2 0).1 1 (Int32.toNatClampNeg x13))) fun z19 => nm (gset z17.2 2 z19) fun w20 => nm (x13 + (1 : Int32)) fun x21 => (f_X3_mostPeace_l34 rec n) x10 x11 x18 x21 w20)))))
def f_X3_mostPeace_s (rec : (Nat → StT) → Int32 → Int32 → Option (Int32 × (Nat → StT)))  (G : Nat → StT) (a2 : Int32) (a3 : Int32) : Option (Int32 × (Nat → StT)) := if (a3 - (1 : Int32)) ≤ a2 then (Option.bind (f_X0_together (G 2)) fun z1 => some (z1, G)) else (if a2 < (6 : Int32) then (Option.bind (rec G (a2 + (1 : Int32)) a3) fun z2 => nm z2.1 fun x3 => nm (a2 + (1 : Int32)) fun x4 => f_X3_mostPeace_l34 rec 200 a2 a3 x3 x4 z2.2) else (Option.bind (f_X0_together (G 2)) fun z22 => some (z22, G)))
def f_X3_mostPeace : Nat → (Nat → StT) → (Int32) → (Int32) → Option (Int32 × (Nat → StT))
  | 0, _, _, _ => none
  | d + 1, G, a2, a3 => f_X3_mostPeace_s (f_X3_mostPeace d) G a2 a3
set_option maxHeartbeats 4000000 in
set_option maxRecDepth 100000 in
theorem c_X3_mostPeace_s {g : GT} {l : Launch} {ad : Nat → Nat}  (d : Nat) (rec : (Nat → StT) → Int32 → Int32 → Option (Int32 × (Nat → StT))) (Hrec : ∀ (r : Int32 × (Nat → StT)) (G : Nat → StT) (a2 : Int32) (a3 : Int32), rec G a2 a3 = some r → Ct g l yX3_mostPeace (wd yX3_mostPeace cX3_mostPeace 6 (some .int)) (rmh (5 + d)) [.ref ((adr ad 11) 0), .ref (ad 43), .int a2, .int a3] (wc_ws g ad G) (wc_ws g ad r.2) (some (.int r.1))) {r : Int32 × (Nat → StT)} {G : Nat → StT} {a2 : Int32} {a3 : Int32} (h : f_X3_mostPeace_s rec G a2 a3 = some r) : Ct g l yX3_mostPeace (wd yX3_mostPeace cX3_mostPeace 6 (some .int)) (rmh (5 + d + 1)) [.ref ((adr ad 11) 0), .ref (ad 43), .int a2, .int a3] (wc_ws g ad G) (wc_ws g ad r.2) (some (.int r.1)) := by
  refine Ct.of (lv := [(0, .ref ((adr ad 11) 0)), (1, .ref (ad 43)), (2, .int a2), (3, .int a3)]) (by decide) (Nat.le_of_ble_eq_true rfl) rfl (fun K hl fx hf => ?_)
  subst hl
  rw [f_X3_mostPeace_s] at h
  have B34 : ∀  (n : Nat) (x10 : Int32) (x11 : Int32) (x12 : Int32) (x13 : Int32) (w14 : Nat → StT), f_X3_mostPeace_l34 rec n x10 x11 x12 x13 w14 = some r → WA g K 6 0 0 34 [(0, .ref ((adr ad 11) 0)), (1, .ref (ad 43)), (2, .int x10), (3, .int x11), (4, .int x12), (5, .int x13)] [] (wc_ws g ad w14) := by
    intro   n
    induction n with
    | zero => intro x10 x11 x12 x13 w14 h; exact absurd h (by rw [f_X3_mostPeace_l34]; exact nofun)
    | succ n ih =>
      intro x10 x11 x12 x13 w14 h
      rw [f_X3_mostPeace_l34] at h
      refine wa_iload fx 5 dX3_mostPeace_34 rfl ?_
      refine wa_iload_n fx 3 dX3_mostPeace_36 rfl ?_
      refine wa_icmp_ge fx 84 dX3_mostPeace_37 (by decide) h (fun h => ?_) (fun h => ?_)
      · refine wa_iload fx 4 dX3_mostPeace_84 rfl ?_
        exact fn_i (wc_ws g ad) fx hf (sn1 h) (sn2 h) dX3_mostPeace_86
      · refine wa_aload_n fx 0 dX3_mostPeace_40 rfl ?_
        refine wa_aload_n fx 1 dX3_mostPeace_41 rfl ?_
        refine wa_iload_n fx 2 dX3_mostPeace_42 rfl ?_
        refine wa_iald (f := (w14 0).1 1) fx 3 rfl dX3_mostPeace_43 h (fun h => ?_)
        refine wa_aload_n fx 1 dX3_mostPeace_44 rfl ?_
        refine wa_iload fx 5 dX3_mostPeace_45 rfl ?_
        refine wa_iald (f := (w14 0).1 1) fx 3 rfl dX3_mostPeace_47 h (fun h => ?_)
        refine wa_V (b := (adr ad 11) 0) (rmc := (rmh 1)) (As := [.int ((w14 0).1 1 (Int32.toNatClampNeg x10)), .int ((w14 0).1 1 (Int32.toNatClampNeg x13))]) (st := []) (wc := (rm_ws g (adr ad 11) (w14 2))) (wr := (wr2 g ad w14)) (wcz := fun z15 => rm_ws g (adr ad 11) z15) (w2 := fun z15 => wc_ws g ad (gset w14 2 z15)) (o := fun _ => none) (s2 := fun z15 => []) (ci := 0) (q0 := 0) fx mm_X0_swap q_12_21 dX3_mostPeace_48 h (fun _ hz => c_X0_swap hz) rfl rfl (rm_ok (by omega) (by decide)) ⟨Nat.zero_le _, Nat.zero_le _⟩ rfl (sq2 g ad w14) (fun _ => sp2 g ad w14 _) rfl (Nat.le_of_ble_eq_true rfl) (fun _ => rfl) (fun z15 h => ?_)
        refine nm_w (wc_ws g ad) h (fun w16 h => ?_)
        refine wa_iload fx 4 dX3_mostPeace_51 rfl ?_
        refine wa_aload_n fx 0 dX3_mostPeace_53 rfl ?_
        refine wa_aload_n fx 1 dX3_mostPeace_54 rfl ?_
        refine wa_iload_n fx 2 dX3_mostPeace_55 rfl ?_
        refine wa_iconst fx (1 : Int32) dX3_mostPeace_56 (by decide) ?_
        refine wa_iadd fx dX3_mostPeace_57 ?_
        refine wa_iload_n fx 3 dX3_mostPeace_58 rfl ?_
        refine wa_S (rmc := (rmh (5 + d))) (As := [.ref ((adr ad 11) 0), .ref (ad 43), .int (x10 + (1 : Int32)), .int x11]) (st := [.int x12]) (wc := (wc_ws g ad w16)) (wr := ([] : va_W)) (wcz := fun z17 => wc_ws g ad z17.2) (w2 := fun z17 => wc_ws g ad z17.2) (o := fun z17 => some (.int z17.1)) (s2 := fun z17 => [.int z17.1, .int x12]) fx mm_X3_mostPeace q_21_2 dX3_mostPeace_59 h (fun _ hz => Hrec _ _ _ _ hz) (rm_ok (by omega) (by decide)) ⟨Nat.zero_le _, Nat.zero_le _⟩ rfl (List.Perm.refl _) (fun _ => List.Perm.refl _) rfl (Nat.le_of_ble_eq_true rfl) (fun _ => rfl) (fun z17 h => ?_)
        refine wa_mmax fx q_21_5 dX3_mostPeace_62 (Nat.le_of_ble_eq_true rfl) ⟨Nat.le_refl _, Nat.le_refl _⟩ ?_
        refine wa_istoreN fx (fun x18 => [(4, .int x18), (0, .ref ((adr ad 11) 0)), (1, .ref (ad 43)), (2, .int x10), (3, .int x11), (5, .int x13)]) dX3_mostPeace_65 (by decide) (fun _ => rfl) h (fun x18 h => ?_)
        refine wa_aload_n fx 1 dX3_mostPeace_67 rfl ?_
        refine wa_aload_n fx 2 dX3_mostPeace_68 rfl ?_
        refine wa_iload_n fx 3 dX3_mostPeace_69 rfl ?_
        refine wa_iald (f := (z17.2 0).1 1) fx 3 rfl dX3_mostPeace_70 h (fun h => ?_)
        refine wa_aload_n fx 2 dX3_mostPeace_71 rfl ?_
        refine wa_iload fx 5 dX3_mostPeace_72 rfl ?_
        refine wa_iald (f := (z17.2 0).1 1) fx 3 rfl dX3_mostPeace_74 h (fun h => ?_)
        refine wa_V (b := (adr ad 11) 0) (rmc := (rmh 1)) (As := [.int ((z17.2 0).1 1 (Int32.toNatClampNeg x10)), .int ((z17.2 0).1 1 (Int32.toNatClampNeg x13))]) (st := []) (wc := (rm_ws g (adr ad 11) (z17.2 2))) (wr := (wr2 g ad z17.2)) (wcz := fun z19 => rm_ws g (adr ad 11) z19) (w2 := fun z19 => wc_ws g ad (gset z17.2 2 z19)) (o := fun _ => none) (s2 := fun z19 => []) (ci := 0) (q0 := 0) fx mm_X0_swap q_12_21 dX3_mostPeace_75 h (fun _ hz => c_X0_swap hz) rfl rfl (rm_ok (by omega) (by decide)) ⟨Nat.zero_le _, Nat.zero_le _⟩ rfl (sq2 g ad z17.2) (fun _ => sp2 g ad z17.2 _) rfl (Nat.le_of_ble_eq_true rfl) (fun _ => rfl) (fun z19 h => ?_)
        refine nm_w (wc_ws g ad) h (fun w20 h => ?_)
        refine wa_iinc fx 5 (fun x21 => [(5, .int x21), (4, .int x18), (0, .ref ((adr ad 11) 0)), (1, .ref (ad 43)), (2, .int x10), (3, .int x11)]) dX3_mostPeace_78 rfl (by rfl) (by decide) (fun _ => rfl) h (fun x21 h => ?_)
        refine wa_goto fx 34 dX3_mostPeace_81 (by decide) ?_
        refine wa_sub [2, 3, 4, 5, 1, 0] rfl ?_
        exact ih x10 x11 x18 x21 w20 h
  refine wa_iload_n fx 2 dX3_mostPeace_0 rfl ?_
  refine wa_iload_n fx 3 dX3_mostPeace_1 rfl ?_
  refine wa_iconst fx (1 : Int32) dX3_mostPeace_2 (by decide) ?_
  refine wa_isub fx dX3_mostPeace_3 ?_
  refine wa_icmp_ge fx 13 dX3_mostPeace_4 (by decide) h (fun h => ?_) (fun h => ?_)
  · refine wa_aload_n fx 0 dX3_mostPeace_13 rfl ?_
    refine wa_V (b := (adr ad 11) 0) (rmc := (rmh 4)) (As := []) (st := []) (wc := (rm_ws g (adr ad 11) (G 2))) (wr := (wr2 g ad G)) (wcz := fun _ => (rm_ws g (adr ad 11) (G 2))) (w2 := fun _ => (wc_ws g ad G)) (o := fun z1 => some (.int z1)) (s2 := fun z1 => [.int z1]) (ci := 0) (q0 := 0) fx mm_X0_together q_17_16 dX3_mostPeace_14 h (fun _ hz => c_X0_together hz) rfl rfl (rm_ok (by omega) (by decide)) ⟨Nat.zero_le _, Nat.zero_le _⟩ rfl (sq2 g ad G) (fun _ => (sq2 g ad G)) rfl (Nat.le_of_ble_eq_true rfl) (fun _ => rfl) (fun z1 h => ?_)
    exact fn_i (wc_ws g ad) fx hf (sn1 h) (sn2 h) dX3_mostPeace_17
  · refine wa_iload_n fx 2 dX3_mostPeace_7 rfl ?_
    refine wa_bipush fx (6 : Int32) dX3_mostPeace_8 (by decide) ?_
    refine wa_icmp_lt fx 18 dX3_mostPeace_10 (by decide) h (fun h => ?_) (fun h => ?_)
    · refine wa_aload_n fx 0 dX3_mostPeace_18 rfl ?_
      refine wa_aload_n fx 1 dX3_mostPeace_19 rfl ?_
      refine wa_iload_n fx 2 dX3_mostPeace_20 rfl ?_
      refine wa_iconst fx (1 : Int32) dX3_mostPeace_21 (by decide) ?_
      refine wa_iadd fx dX3_mostPeace_22 ?_
      refine wa_iload_n fx 3 dX3_mostPeace_23 rfl ?_
      refine wa_S (rmc := (rmh (5 + d))) (As := [.ref ((adr ad 11) 0), .ref (ad 43), .int (a2 + (1 : Int32)), .int a3]) (st := []) (wc := (wc_ws g ad G)) (wr := ([] : va_W)) (wcz := fun z2 => wc_ws g ad z2.2) (w2 := fun z2 => wc_ws g ad z2.2) (o := fun z2 => some (.int z2.1)) (s2 := fun z2 => [.int z2.1]) fx mm_X3_mostPeace q_21_2 dX3_mostPeace_24 h (fun _ hz => Hrec _ _ _ _ hz) (rm_ok (by omega) (by decide)) ⟨Nat.zero_le _, Nat.zero_le _⟩ rfl (List.Perm.refl _) (fun _ => List.Perm.refl _) rfl (Nat.le_of_ble_eq_true rfl) (fun _ => rfl) (fun z2 h => ?_)
      refine wa_istoreN fx (fun x3 => [(4, .int x3), (0, .ref ((adr ad 11) 0)), (1, .ref (ad 43)), (2, .int a2), (3, .int a3)]) dX3_mostPeace_27 (by decide) (fun _ => rfl) h (fun x3 h => ?_)
      refine wa_iload_n fx 3 dX3_mostPeace_29 rfl ?_
      refine wa_iconst fx (1 : Int32) dX3_mostPeace_30 (by decide) ?_
      refine wa_iadd fx dX3_mostPeace_31 ?_
      refine wa_istoreN fx (fun x4 => [(5, .int x4), (4, .int x3), (0, .ref ((adr ad 11) 0)), (1, .ref (ad 43)), (2, .int a2), (3, .int a3)]) dX3_mostPeace_32 (by decide) (fun _ => rfl) h (fun x4 h => ?_)
      refine wa_sub [2, 3, 4, 5, 1, 0] rfl ?_
      exact B34 200 a2 a3 x3 x4 z2.2 h
    · refine wa_aload_n fx 0 dX3_mostPeace_13 rfl ?_
      refine wa_V (b := (adr ad 11) 0) (rmc := (rmh 4)) (As := []) (st := []) (wc := (rm_ws g (adr ad 11) (G 2))) (wr := (wr2 g ad G)) (wcz := fun _ => (rm_ws g (adr ad 11) (G 2))) (w2 := fun _ => (wc_ws g ad G)) (o := fun z22 => some (.int z22)) (s2 := fun z22 => [.int z22]) (ci := 0) (q0 := 0) fx mm_X0_together q_17_16 dX3_mostPeace_14 h (fun _ hz => c_X0_together hz) rfl rfl (rm_ok (by omega) (by decide)) ⟨Nat.zero_le _, Nat.zero_le _⟩ rfl (sq2 g ad G) (fun _ => (sq2 g ad G)) rfl (Nat.le_of_ble_eq_true rfl) (fun _ => rfl) (fun z22 h => ?_)
      exact fn_i (wc_ws g ad) fx hf (sn1 h) (sn2 h) dX3_mostPeace_17
theorem c_X3_mostPeace {g : GT} {l : Launch} {ad : Nat → Nat}  : ∀ (d : Nat) {r : Int32 × (Nat → StT)} {G : Nat → StT} {a2 : Int32} {a3 : Int32}, f_X3_mostPeace d G a2 a3 = some r → Ct g l yX3_mostPeace (wd yX3_mostPeace cX3_mostPeace 6 (some .int)) (rmh (5 + d)) [.ref ((adr ad 11) 0), .ref (ad 43), .int a2, .int a3] (wc_ws g ad G) (wc_ws g ad r.2) (some (.int r.1)) := by
  intro d
  induction d with
  | zero => intro r G a2 a3 h; exact absurd h (by rw [f_X3_mostPeace]; exact nofun)
  | succ d ih =>
    intro r G a2 a3 h
    rw [f_X3_mostPeace] at h
    exact c_X3_mostPeace_s d _ (fun r G a2 a3 hz => ih hz) h
def f_X3_best_b37 (k4 : (Int32) → (Int32) → (Nat → StT) → Option (Int32 × (Nat → StT))) (x11 : Int32) (x12 : Int32) (w13 : Nat → StT) : Option (Int32 × (Nat → StT)) := nm (x12 + (1 : Int32)) fun x14 => k4 x11 x14 w13
def f_X3_best_l4 : Nat → (Int32) → (Int32) → (Nat → StT) → Option (Int32 × (Nat → StT))
  | 0, _, _, _ => none
  | n + 1, x4, x5, w6 => if ((w6 1).2.2 0) ≤ x5 then (if x4 ≤ (6 : Int32) then (Option.bind (f_X0_become (w6 2, w6 1)) fun z7 => nm (gset (gset w6 2 z7.1) 1 z7.2) fun w8 => Option.bind (f_X3_mostPeace 8 w8 (0 : Int32) x4) fun z9 => some (((10000 : Int32) + z9.1), z9.2)) else (Option.bind (f_X3_finding w6 (6 : Int32)) fun z10 => some (z10.1, z10.2))) else (ck x5 8 (if ((w6 1).1 8 (Int32.toNatClampNeg x5)) < 0 then (f_X3_best_b37 (f_X3_best_l4 n) x4 x5 w6) else (ck x4 8 (nm (gset w6 0 (setA (w6 0) 1 (upd ((w6 0).1 1) (Int32.toNatClampNeg x4) x5))) fun w15 => nm (x4 + (1 : Int32)) fun x16 => f_X3_best_b37 (f_X3_best_l4 n) x16 x5 w15))))
def f_X3_best  (G : Nat → StT) : Option (Int32 × (Nat → StT)) := f_X3_best_l4 200 (0 : Int32) (0 : Int32) G
set_option maxHeartbeats 4000000 in
set_option maxRecDepth 100000 in
theorem c_X3_best {g : GT} {l : Launch} {ad : Nat → Nat}   {G : Nat → StT} {r : Int32 × (Nat → StT)} (h : f_X3_best G = some r) : Ct g l yX3_best (wd yX3_best cX3_best 3 (some .int)) (rmh 14) [.ref (ad 0)] (wc_ws g ad G) (wc_ws g ad r.2) (some (.int r.1)) := by
  refine Ct.of (lv := [(0, .ref (ad 0))]) (by decide) (Nat.le_of_ble_eq_true rfl) rfl (fun K hl fx hf => ?_)
  subst hl
  rw [f_X3_best] at h
  have B37 : ∀ (k4 : (Int32) → (Int32) → (Nat → StT) → Option (Int32 × (Nat → StT))) (Hk4 : ∀ (y1 : Int32) (y2 : Int32) (w3 : Nat → StT), k4 y1 y2 w3 = some r → WA g K 3 0 0 4 [(0, .ref (ad 0)), (1, .int y1), (2, .int y2)] [] (wc_ws g ad w3)) (x11 : Int32) (x12 : Int32) (w13 : Nat → StT), f_X3_best_b37 k4 x11 x12 w13 = some r → WA g K 3 0 0 37 [(0, .ref (ad 0)), (1, .int x11), (2, .int x12)] [] (wc_ws g ad w13) := by
    intro  k4 Hk4 x11 x12 w13 h
    rw [f_X3_best_b37] at h
    refine wa_iinc fx 2 (fun x14 => [(2, .int x14), (0, .ref (ad 0)), (1, .int x11)]) dX3_best_37 rfl (by rfl) (by decide) (fun _ => rfl) h (fun x14 h => ?_)
    refine wa_goto fx 4 dX3_best_40 (by decide) ?_
    refine wa_sub [1, 2, 0] rfl ?_
    exact Hk4 x11 x14 w13 h
  have B4 : ∀  (n : Nat) (x4 : Int32) (x5 : Int32) (w6 : Nat → StT), f_X3_best_l4 n x4 x5 w6 = some r → WA g K 3 0 0 4 [(0, .ref (ad 0)), (1, .int x4), (2, .int x5)] [] (wc_ws g ad w6) := by
    intro   n
    induction n with
    | zero => intro x4 x5 w6 h; exact absurd h (by rw [f_X3_best_l4]; exact nofun)
    | succ n ih =>
      intro x4 x5 w6 h
      rw [f_X3_best_l4] at h
      refine wa_iload_n fx 2 dX3_best_4 rfl ?_
      refine wa_aload_n fx 0 dX3_best_5 rfl ?_
      refine wa_get (v := .ref ((adr ad 1) 0)) fx wm_X3 0 rfl rfl 0 (by decide) q_1_16 rfl rfl dX3_best_6 ?_
      refine wa_get (v := .int ((w6 1).2.2 0)) fx wm_X0 4 rfl rfl 9 (by decide) q_6_21 rfl rfl dX3_best_9 ?_
      refine wa_icmp_ge fx 43 dX3_best_12 (by decide) h (fun h => ?_) (fun h => ?_)
      · refine wa_iload_n fx 1 dX3_best_43 rfl ?_
        refine wa_bipush fx (6 : Int32) dX3_best_44 (by decide) ?_
        refine wa_icmp_le fx 56 dX3_best_46 (by decide) h (fun h => ?_) (fun h => ?_)
        · refine wa_aload_n fx 0 dX3_best_56 rfl ?_
          refine wa_get (v := .ref ((adr ad 11) 0)) fx wm_X3 0 rfl rfl 1 (by decide) q_1_17 rfl rfl dX3_best_57 ?_
          refine wa_aload_n fx 0 dX3_best_60 rfl ?_
          refine wa_get (v := .ref ((adr ad 1) 0)) fx wm_X3 0 rfl rfl 0 (by decide) q_1_16 rfl rfl dX3_best_61 ?_
          refine wa_V (b := (adr ad 11) 0) (rmc := (rmh 2)) (As := [.ref ((adr ad 1) 0)]) (st := []) (wc := (bb_ws g (adr ad 11) (adr ad 1) (w6 2, w6 1))) (wr := (wr21 g ad w6)) (wcz := fun z7 => bb_ws g (adr ad 11) (adr ad 1) z7) (w2 := fun z7 => wc_ws g ad (gset (gset w6 2 z7.1) 1 z7.2)) (o := fun _ => none) (s2 := fun z7 => []) (ci := 0) (q0 := 0) fx mm_X0_become q_18_20 dX3_best_64 h (fun _ hz => c_X0_become hz) rfl rfl (rm_ok (by decide) (by decide)) ⟨Nat.zero_le _, Nat.zero_le _⟩ rfl (sq21 g ad w6) (fun _ => sp21 g ad w6 _) rfl (Nat.le_of_ble_eq_true rfl) (fun _ => rfl) (fun z7 h => ?_)
          refine nm_w (wc_ws g ad) h (fun w8 h => ?_)
          refine wa_sipush fx (10000 : Int32) dX3_best_67 (by decide) ?_
          refine wa_aload_n fx 0 dX3_best_70 rfl ?_
          refine wa_get (v := .ref ((adr ad 11) 0)) fx wm_X3 0 rfl rfl 1 (by decide) q_1_17 rfl rfl dX3_best_71 ?_
          refine wa_aload_n fx 0 dX3_best_74 rfl ?_
          refine wa_get (v := .ref (ad 43)) fx wm_X3 0 rfl rfl 7 (by decide) q_2_6 rfl rfl dX3_best_75 ?_
          refine wa_iconst fx (0 : Int32) dX3_best_78 (by decide) ?_
          refine wa_iload_n fx 1 dX3_best_79 rfl ?_
          refine wa_S (rmc := (rmh (5 + 8))) (As := [.ref ((adr ad 11) 0), .ref (ad 43), .int (0 : Int32), .int x4]) (st := [.int (10000 : Int32)]) (wc := (wc_ws g ad w8)) (wr := ([] : va_W)) (wcz := fun z9 => wc_ws g ad z9.2) (w2 := fun z9 => wc_ws g ad z9.2) (o := fun z9 => some (.int z9.1)) (s2 := fun z9 => [.int z9.1, .int (10000 : Int32)]) fx mm_X3_mostPeace q_21_2 dX3_best_80 h (fun _ hz => c_X3_mostPeace 8 hz) (rm_ok (by omega) (by decide)) ⟨Nat.zero_le _, Nat.zero_le _⟩ rfl (List.Perm.refl _) (fun _ => List.Perm.refl _) rfl (Nat.le_of_ble_eq_true rfl) (fun _ => rfl) (fun z9 h => ?_)
          refine wa_iadd fx dX3_best_83 ?_
          exact fn_i (wc_ws g ad) fx hf (sn1 h) (sn2 h) dX3_best_84
        · refine wa_aload_n fx 0 dX3_best_49 rfl ?_
          refine wa_bipush fx (6 : Int32) dX3_best_50 (by decide) ?_
          refine wa_V (b := ad 0) (rmc := (rmh 1)) (As := [.int (6 : Int32)]) (st := []) (wc := (wc_ws g ad w6)) (wr := ([] : va_W)) (wcz := fun z10 => wc_ws g ad z10.2) (w2 := fun z10 => wc_ws g ad z10.2) (o := fun z10 => some (.int z10.1)) (s2 := fun z10 => [.int z10.1]) (ci := 3) (q0 := 0) fx mm_X3_finding q_4_17 dX3_best_52 h (fun _ hz => c_X3_finding hz) rfl rfl (rm_ok (by decide) (by decide)) ⟨Nat.zero_le _, Nat.zero_le _⟩ rfl (List.Perm.refl _) (fun _ => List.Perm.refl _) rfl (Nat.le_of_ble_eq_true rfl) (fun _ => rfl) (fun z10 h => ?_)
          exact fn_i (wc_ws g ad) fx hf (sn1 h) (sn2 h) dX3_best_55
      · refine wa_aload_n fx 0 dX3_best_15 rfl ?_
        refine wa_get (v := .ref ((adr ad 1) 0)) fx wm_X3 0 rfl rfl 0 (by decide) q_1_16 rfl rfl dX3_best_16 ?_
        refine wa_get (v := .ref ((adr ad 1) 9)) fx wm_X0 4 rfl rfl 8 (by decide) q_8_4 rfl rfl dX3_best_19 ?_
        refine wa_iload_n fx 2 dX3_best_22 rfl ?_
        refine wa_iald (f := (w6 1).1 8) fx 13 rfl dX3_best_23 h (fun h => ?_)
        refine wa_if_lt fx 37 dX3_best_24 (by decide) h (fun h => ?_) (fun h => ?_)
        · refine wa_sub [0, 1, 2] rfl ?_
          exact B37 (f_X3_best_l4 n) ih x4 x5 w6 h
        · refine wa_aload_n fx 0 dX3_best_27 rfl ?_
          refine wa_get (v := .ref (ad 43)) fx wm_X3 0 rfl rfl 7 (by decide) q_2_6 rfl rfl dX3_best_28 ?_
          refine wa_iload_n fx 1 dX3_best_31 rfl ?_
          refine wa_iload_n fx 2 dX3_best_32 rfl ?_
          refine wa_iast (wc_ws g ad) (f := (w6 0).1 1) fx 3 rfl dX3_best_33 h rfl (fun w15 h => ?_)
          refine wa_iinc fx 1 (fun x16 => [(1, .int x16), (0, .ref (ad 0)), (2, .int x5)]) dX3_best_34 rfl (by rfl) (by decide) (fun _ => rfl) h (fun x16 h => ?_)
          refine wa_sub [1, 0, 2] rfl ?_
          exact B37 (f_X3_best_l4 n) ih x16 x5 w15 h
  refine wa_iconst fx (0 : Int32) dX3_best_0 (by decide) ?_
  refine wa_istore_n fx [(1, .int (0 : Int32)), (0, .ref (ad 0))] dX3_best_1 rfl (by decide) rfl ?_
  refine wa_iconst fx (0 : Int32) dX3_best_2 (by decide) ?_
  refine wa_istore_n fx [(2, .int (0 : Int32)), (1, .int (0 : Int32)), (0, .ref (ad 0))] dX3_best_3 rfl (by decide) rfl ?_
  refine wa_sub [2, 1, 0] rfl ?_
  exact B4 200 (0 : Int32) (0 : Int32) G h
