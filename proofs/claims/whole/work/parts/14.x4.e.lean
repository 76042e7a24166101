def f_X4_isBook_l2 : Nat → (Int32) → (Int32) → (Int32) → (StT) → Option (Int32 × (StT))
  | 0, _, _, _, _ => none
  | n + 1, x5, x6, x7, w8 => ck x5 4 (if (w8.1 8 (Int32.toNatClampNeg x5)) ≤ x7 then (some ((1 : Int32), w8)) else (ck (((40 : Int32) * x5) + x7) 160 (Option.bind (f_X4_its w8 x6 (5 : Int32)) fun z9 => if (lg_cmp (w8.2.1 0 (Int32.toNatClampNeg (((40 : Int32) * x5) + x7))) (Int32.toInt64 z9)) = 0 then (Option.bind (f_X4_hour w8) fun z10 => nm z10.1 fun x11 => nm (x7 + (1 : Int32)) fun x12 => (f_X4_isBook_l2 n) x5 x6 x12 z10.2) else (some ((0 : Int32), w8)))))
def f_X4_isBook  (st : StT) (a1 : Int32) (a2 : Int32) : Option (Int32 × (StT)) := f_X4_isBook_l2 200 a1 a2 (0 : Int32) st
set_option maxHeartbeats 4000000 in
set_option maxRecDepth 100000 in
theorem c_X4_isBook {g : GT} {l : Launch} {ad : Nat → Nat}   {st : StT} {a1 : Int32} {a2 : Int32} {r : Int32 × (StT)} (h : f_X4_isBook st a1 a2 = some r) : Ct g l yX4_isBook (wd yX4_isBook cX4_isBook 5 (some .boolean)) (rmh 9) [.ref (ad 0), .int a1, .int a2] (mo_ws g ad st) (mo_ws g ad r.2) (some (.int r.1)) := by
  refine Ct.of (lv := [(0, .ref (ad 0)), (1, .int a1), (2, .int a2)]) (by decide) (Nat.le_of_ble_eq_true rfl) rfl (fun K hl fx hf => ?_)
  subst hl
  rw [f_X4_isBook] at h
  have B2 : ∀  (n : Nat) (x5 : Int32) (x6 : Int32) (x7 : Int32) (w8 : StT), f_X4_isBook_l2 n x5 x6 x7 w8 = some r → WA g K 5 0 0 2 [(0, .ref (ad 0)), (1, .int x5), (2, .int x6), (3, .int x7)] [] (mo_ws g ad w8) := by
    intro   n
    induction n with
    | zero => intro x5 x6 x7 w8 h; exact absurd h (by rw [f_X4_isBook_l2]; exact nofun)
    | succ n ih =>
      intro x5 x6 x7 w8 h
      rw [f_X4_isBook_l2] at h
      refine wa_iload_n fx 3 dX4_isBook_2 rfl ?_
      refine wa_aload_n fx 0 dX4_isBook_3 rfl ?_
      refine wa_get (v := .ref (ad 9)) fx wm_X4 0 rfl rfl 16 (by decide) q_3_23 rfl rfl dX4_isBook_4 ?_
      refine wa_iload_n fx 1 dX4_isBook_7 rfl ?_
      refine wa_iald (f := w8.1 8) fx 9 rfl dX4_isBook_8 h (fun h => ?_)
      refine wa_icmp_ge fx 48 dX4_isBook_9 (by decide) h (fun h => ?_) (fun h => ?_)
      · refine wa_iconst fx (1 : Int32) dX4_isBook_48 (by decide) ?_
        exact fn_z (mo_ws g ad) fx hf (by decide) (sn1 h) (sn2 h) dX4_isBook_49
      · refine wa_aload_n fx 0 dX4_isBook_12 rfl ?_
        refine wa_get (v := .ref (ad 10)) fx wm_X4 0 rfl rfl 17 (by decide) q_4_0 rfl rfl dX4_isBook_13 ?_
        refine wa_bipush fx (40 : Int32) dX4_isBook_16 (by decide) ?_
        refine wa_iload_n fx 1 dX4_isBook_18 rfl ?_
        refine wa_imul fx dX4_isBook_19 ?_
        refine wa_iload_n fx 3 dX4_isBook_20 rfl ?_
        refine wa_iadd fx dX4_isBook_21 ?_
        refine wa_lald (f := w8.2.1 0) fx 10 rfl dX4_isBook_22 h (fun h => ?_)
        refine wa_aload_n fx 0 dX4_isBook_23 rfl ?_
        refine wa_iload_n fx 2 dX4_isBook_24 rfl ?_
        refine wa_iconst fx (5 : Int32) dX4_isBook_25 (by decide) ?_
        refine wa_V (b := ad 0) (rmc := (rmh 2)) (As := [.int x6, .int (5 : Int32)]) (st := [.long (w8.2.1 0 (Int32.toNatClampNeg (((40 : Int32) * x5) + x7)))]) (wc := (mo_ws g ad w8)) (wr := ([] : va_W)) (wcz := fun _ => (mo_ws g ad w8)) (w2 := fun _ => (mo_ws g ad w8)) (o := fun z9 => some (.int z9)) (s2 := fun z9 => [.int z9, .long (w8.2.1 0 (Int32.toNatClampNeg (((40 : Int32) * x5) + x7)))]) (ci := 4) (q0 := 0) fx mm_X4_its q_6_10 dX4_isBook_26 h (fun _ hz => c_X4_its hz) rfl rfl (rm_ok (by decide) (by decide)) ⟨Nat.zero_le _, Nat.zero_le _⟩ rfl (List.Perm.refl _) (fun _ => (List.Perm.refl _)) rfl (Nat.le_of_ble_eq_true rfl) (fun _ => rfl) (fun z9 h => ?_)
        refine wa_i2l fx dX4_isBook_29 ?_
        refine wa_lcmp fx dX4_isBook_30 ?_
        refine wa_if_eq fx 36 dX4_isBook_31 (by decide) h (fun h => ?_) (fun h => ?_)
        · refine wa_aload_n fx 0 dX4_isBook_36 rfl ?_
          refine wa_V (b := ad 0) (rmc := (rmh 8)) (As := []) (st := []) (wc := (mo_ws g ad w8)) (wr := ([] : va_W)) (wcz := fun z10 => mo_ws g ad z10.2) (w2 := fun z10 => mo_ws g ad z10.2) (o := fun z10 => some (.int z10.1)) (s2 := fun z10 => [.int z10.1]) (ci := 4) (q0 := 0) fx mm_X4_hour q_16_19 dX4_isBook_37 h (fun _ hz => c_X4_hour hz) rfl rfl (rm_ok (by decide) (by decide)) ⟨Nat.zero_le _, Nat.zero_le _⟩ rfl (List.Perm.refl _) (fun _ => List.Perm.refl _) rfl (Nat.le_of_ble_eq_true rfl) (fun _ => rfl) (fun z10 h => ?_)
          refine wa_istoreN fx (fun x11 => [(4, .int x11), (0, .ref (ad 0)), (1, .int x5), (2, .int x6), (3, .int x7)]) dX4_isBook_40 (by decide) (fun _ => rfl) h (fun x11 h => ?_)
          refine wa_iinc fx 4 (fun x12 => [(3, .int x12), (4, .int x11), (0, .ref (ad 0)), (1, .int x5), (2, .int x6)]) dX4_isBook_42 rfl (by rfl) (by decide) (fun _ => rfl) h (fun x12 h => ?_)
          refine wa_goto fx 2 dX4_isBook_45 (by decide) ?_
          refine wa_sub [2, 3, 4, 0] rfl ?_
          exact ih x5 x6 x12 z10.2 h
        · refine wa_iconst fx (0 : Int32) dX4_isBook_34 (by decide) ?_
          exact fn_z (mo_ws g ad) fx hf (by decide) (sn1 h) (sn2 h) dX4_isBook_35
  refine wa_iconst fx (0 : Int32) dX4_isBook_0 (by decide) ?_
  refine wa_istore_n fx [(3, .int (0 : Int32)), (0, .ref (ad 0)), (1, .int a1), (2, .int a2)] dX4_isBook_1 rfl (by decide) rfl ?_
  refine wa_sub [1, 2, 3, 0] rfl ?_
  exact B2 200 a1 a2 (0 : Int32) st h
def f_X4_read_b83 (k27 : (Int32) → (Int32) → (Int32) → (Int32) → (StT) → Option (Int32 × (StT))) (x18 : Int32) (x19 : Int32) (x20 : Int32) (x21 : Int32) (x22 : Int32) (w23 : StT) : Option (Int32 × (StT)) := Option.bind (f_X4_takesBack w23 (x22 + x21)) fun z24 => nm z24.1 fun x25 => nm (x20 + (1 : Int32)) fun x26 => k27 x18 x19 x25 x26 z24.2
def f_X4_read_l27 : Nat → (Int32) → (Int32) → (Int32) → (Int32) → (StT) → Option (Int32 × (StT))
  | 0, _, _, _, _, _ => none
  | n + 1, x8, x9, x10, x11, w12 => if (54 : Int32) ≤ x11 then (some (x10, w12)) else (Option.bind (f_X4_spotOf x9 (0 : Int32)) fun z13 => ck z13 66 (nm (setA w12 0 (upd (w12.1 0) (Int32.toNatClampNeg z13) (x11 / (9 : Int32)))) fun w14 => Option.bind (f_X4_spotOf x9 (2 : Int32)) fun z15 => ck z15 66 (nm (setA w14 0 (upd (w14.1 0) (Int32.toNatClampNeg z15) ((x11 - x11 / (9 : Int32) * (9 : Int32)) - (1 : Int32)))) fun w16 => Option.bind (f_X4_isBook w16 x8 x9) fun z17 => if z17.1 = 0 then (f_X4_read_b83 (f_X4_read_l27 n) x8 x9 x11 (0 : Int32) x10 z17.2) else (f_X4_read_b83 (f_X4_read_l27 n) x8 x9 x11 (1 : Int32) x10 z17.2))))
def f_X4_read  (st : StT) (a1 : Int32) (a2 : Int32) : Option (Int32 × (StT)) := Option.bind (f_X4_wrongBook st a1 a2) fun z1 => if z1 = 0 then (Option.bind (f_X4_laysAside st) fun z2 => f_X4_read_l27 200 a1 a2 (0 : Int32) (0 : Int32) z2) else (Option.bind (f_X4_finds st z1) fun z27 => some (z27.1, z27.2))
set_option maxHeartbeats 4000000 in
set_option maxRecDepth 100000 in
theorem c_X4_read {g : GT} {l : Launch} {ad : Nat → Nat}   {st : StT} {a1 : Int32} {a2 : Int32} {r : Int32 × (StT)} (h : f_X4_read st a1 a2 = some r) : Ct g l yX4_read (wd yX4_read cX4_read 6 (some .int)) (rmh 10) [.ref (ad 0), .int a1, .int a2] (mo_ws g ad st) (mo_ws g ad r.2) (some (.int r.1)) := by
  refine Ct.of (lv := [(0, .ref (ad 0)), (1, .int a1), (2, .int a2)]) (by decide) (Nat.le_of_ble_eq_true rfl) rfl (fun K hl fx hf => ?_)
  subst hl
  rw [f_X4_read] at h
  have B83 : ∀ (k27 : (Int32) → (Int32) → (Int32) → (Int32) → (StT) → Option (Int32 × (StT))) (Hk27 : ∀ (y3 : Int32) (y4 : Int32) (y5 : Int32) (y6 : Int32) (w7 : StT), k27 y3 y4 y5 y6 w7 = some r → WA g K 6 0 0 27 [(0, .ref (ad 0)), (1, .int y3), (2, .int y4), (4, .int y5), (5, .int y6)] [] (mo_ws g ad w7)) (x18 : Int32) (x19 : Int32) (x20 : Int32) (x21 : Int32) (x22 : Int32) (w23 : StT), f_X4_read_b83 k27 x18 x19 x20 x21 x22 w23 = some r → WA g K 6 0 0 83 [(0, .ref (ad 0)), (1, .int x18), (2, .int x19), (5, .int x20)] [.int x21, .int x22, .ref (ad 0)] (mo_ws g ad w23) := by
    intro  k27 Hk27 x18 x19 x20 x21 x22 w23 h
    rw [f_X4_read_b83] at h
    refine wa_iadd fx dX4_read_83 ?_
    refine wa_V (b := ad 0) (rmc := (rmh 1)) (As := [.int (x22 + x21)]) (st := []) (wc := (mo_ws g ad w23)) (wr := ([] : va_W)) (wcz := fun z24 => mo_ws g ad z24.2) (w2 := fun z24 => mo_ws g ad z24.2) (o := fun z24 => some (.int z24.1)) (s2 := fun z24 => [.int z24.1]) (ci := 4) (q0 := 0) fx mm_X4_takesBack q_19_12 dX4_read_84 h (fun _ hz => c_X4_takesBack hz) rfl rfl (rm_ok (by decide) (by decide)) ⟨Nat.zero_le _, Nat.zero_le _⟩ rfl (List.Perm.refl _) (fun _ => List.Perm.refl _) rfl (Nat.le_of_ble_eq_true rfl) (fun _ => rfl) (fun z24 h => ?_)
    refine wa_istoreN fx (fun x25 => [(4, .int x25), (0, .ref (ad 0)), (1, .int x18), (2, .int x19), (5, .int x20)]) dX4_read_87 (by decide) (fun _ => rfl) h (fun x25 h => ?_)
    refine wa_iinc fx 4 (fun x26 => [(5, .int x26), (4, .int x25), (0, .ref (ad 0)), (1, .int x18), (2, .int x19)]) dX4_read_89 rfl (by rfl) (by decide) (fun _ => rfl) h (fun x26 h => ?_)
    refine wa_goto fx 27 dX4_read_92 (by decide) ?_
    refine wa_sub [2, 3, 4, 1, 0] rfl ?_
    exact Hk27 x18 x19 x25 x26 z24.2 h
  have B27 : ∀  (n : Nat) (x8 : Int32) (x9 : Int32) (x10 : Int32) (x11 : Int32) (w12 : StT), f_X4_read_l27 n x8 x9 x10 x11 w12 = some r → WA g K 6 0 0 27 [(0, .ref (ad 0)), (1, .int x8), (2, .int x9), (4, .int x10), (5, .int x11)] [] (mo_ws g ad w12) := by
    intro   n
    induction n with
    | zero => intro x8 x9 x10 x11 w12 h; exact absurd h (by rw [f_X4_read_l27]; exact nofun)
    | succ n ih =>
      intro x8 x9 x10 x11 w12 h
      rw [f_X4_read_l27] at h
      refine wa_iload fx 4 dX4_read_27 rfl ?_
      refine wa_bipush fx (54 : Int32) dX4_read_29 (by decide) ?_
      refine wa_icmp_ge fx 95 dX4_read_31 (by decide) h (fun h => ?_) (fun h => ?_)
      · refine wa_iload fx 3 dX4_read_95 rfl ?_
        exact fn_i (mo_ws g ad) fx hf (sn1 h) (sn2 h) dX4_read_97
      · refine wa_aload_n fx 0 dX4_read_34 rfl ?_
        refine wa_get (v := .ref (ad 1)) fx wm_X4 0 rfl rfl 0 (by decide) q_3_15 rfl rfl dX4_read_35 ?_
        refine wa_iload_n fx 2 dX4_read_38 rfl ?_
        refine wa_iconst fx (0 : Int32) dX4_read_39 (by decide) ?_
        refine wa_S (rmc := (rmh 1)) (As := [.int x9, .int (0 : Int32)]) (st := [.ref (ad 1)]) (wc := (no_ws ())) (wr := (mo_ws g ad w12)) (wcz := fun _ => (no_ws ())) (w2 := fun _ => (mo_ws g ad w12)) (o := fun z13 => some (.int z13)) (s2 := fun z13 => [.int z13, .ref (ad 1)]) fx mm_X4_spotOf q_6_14 dX4_read_40 h (fun _ hz => c_X4_spotOf hz) (rm_ok (by decide) (by decide)) ⟨Nat.zero_le _, Nat.zero_le _⟩ rfl (List.Perm.of_eq (List.append_nil _).symm) (fun _ => (List.Perm.of_eq (List.append_nil _).symm)) rfl (Nat.le_of_ble_eq_true rfl) (fun _ => rfl) (fun z13 h => ?_)
        refine wa_iload fx 4 dX4_read_43 rfl ?_
        refine wa_bipush fx (9 : Int32) dX4_read_45 (by decide) ?_
        refine wa_idiv fx dX4_read_47 (by decide) ?_
        refine wa_iast (mo_ws g ad) (f := w12.1 0) fx 1 rfl dX4_read_48 h rfl (fun w14 h => ?_)
        refine wa_aload_n fx 0 dX4_read_49 rfl ?_
        refine wa_get (v := .ref (ad 1)) fx wm_X4 0 rfl rfl 0 (by decide) q_3_15 rfl rfl dX4_read_50 ?_
        refine wa_iload_n fx 2 dX4_read_53 rfl ?_
        refine wa_iconst fx (2 : Int32) dX4_read_54 (by decide) ?_
        refine wa_S (rmc := (rmh 1)) (As := [.int x9, .int (2 : Int32)]) (st := [.ref (ad 1)]) (wc := (no_ws ())) (wr := (mo_ws g ad w14)) (wcz := fun _ => (no_ws ())) (w2 := fun _ => (mo_ws g ad w14)) (o := fun z15 => some (.int z15)) (s2 := fun z15 => [.int z15, .ref (ad 1)]) fx mm_X4_spotOf q_6_14 dX4_read_55 h (fun _ hz => c_X4_spotOf hz) (rm_ok (by decide) (by decide)) ⟨Nat.zero_le _, Nat.zero_le _⟩ rfl (List.Perm.of_eq (List.append_nil _).symm) (fun _ => (List.Perm.of_eq (List.append_nil _).symm)) rfl (Nat.le_of_ble_eq_true rfl) (fun _ => rfl) (fun z15 h => ?_)
        refine wa_iload fx 4 dX4_read_58 rfl ?_
        refine wa_bipush fx (9 : Int32) dX4_read_60 (by decide) ?_
        refine wa_irem fx dX4_read_62 (by decide) ?_
        refine wa_iconst fx (1 : Int32) dX4_read_63 (by decide) ?_
        refine wa_isub fx dX4_read_64 ?_
        refine wa_iast (mo_ws g ad) (f := w14.1 0) fx 1 rfl dX4_read_65 h rfl (fun w16 h => ?_)
        refine wa_aload_n fx 0 dX4_read_66 rfl ?_
        refine wa_iload fx 3 dX4_read_67 rfl ?_
        refine wa_aload_n fx 0 dX4_read_69 rfl ?_
        refine wa_iload_n fx 1 dX4_read_70 rfl ?_
        refine wa_iload_n fx 2 dX4_read_71 rfl ?_
        refine wa_V (b := ad 0) (rmc := (rmh 9)) (As := [.int x8, .int x9]) (st := [.int x10, .ref (ad 0)]) (wc := (mo_ws g ad w16)) (wr := ([] : va_W)) (wcz := fun z17 => mo_ws g ad z17.2) (w2 := fun z17 => mo_ws g ad z17.2) (o := fun z17 => some (.int z17.1)) (s2 := fun z17 => [.int z17.1, .int x10, .ref (ad 0)]) (ci := 4) (q0 := 0) fx mm_X4_isBook q_38_9 dX4_read_72 h (fun _ hz => c_X4_isBook hz) rfl rfl (rm_ok (by decide) (by decide)) ⟨Nat.zero_le _, Nat.zero_le _⟩ rfl (List.Perm.refl _) (fun _ => List.Perm.refl _) rfl (Nat.le_of_ble_eq_true rfl) (fun _ => rfl) (fun z17 h => ?_)
        refine wa_if_eq fx 82 dX4_read_75 (by decide) h (fun h => ?_) (fun h => ?_)
        · refine wa_iconst fx (0 : Int32) dX4_read_82 (by decide) ?_
          refine wa_sub [0, 1, 2, 4] rfl ?_
          exact B83 (f_X4_read_l27 n) ih x8 x9 x11 (0 : Int32) x10 z17.2 h
        · refine wa_iconst fx (1 : Int32) dX4_read_78 (by decide) ?_
          refine wa_goto fx 83 dX4_read_79 (by decide) ?_
          refine wa_sub [0, 1, 2, 4] rfl ?_
          exact B83 (f_X4_read_l27 n) ih x8 x9 x11 (1 : Int32) x10 z17.2 h
  refine wa_aload_n fx 0 dX4_read_0 rfl ?_
  refine wa_iload_n fx 1 dX4_read_1 rfl ?_
  refine wa_iload_n fx 2 dX4_read_2 rfl ?_
  refine wa_V (b := ad 0) (rmc := (rmh 4)) (As := [.int a1, .int a2]) (st := []) (wc := (mo_ws g ad st)) (wr := ([] : va_W)) (wcz := fun _ => (mo_ws g ad st)) (w2 := fun _ => (mo_ws g ad st)) (o := fun z1 => some (.int z1)) (s2 := fun z1 => [.int z1]) (ci := 4) (q0 := 0) fx mm_X4_wrongBook q_37_17 dX4_read_3 h (fun _ hz => c_X4_wrongBook hz) rfl rfl (rm_ok (by decide) (by decide)) ⟨Nat.zero_le _, Nat.zero_le _⟩ rfl (List.Perm.refl _) (fun _ => (List.Perm.refl _)) rfl (Nat.le_of_ble_eq_true rfl) (fun _ => rfl) (fun z1 h => ?_)
  refine wa_istore_n fx [(3, .int z1), (0, .ref (ad 0)), (1, .int a1), (2, .int a2)] dX4_read_6 rfl (by decide) rfl ?_
  refine wa_iload_n fx 0 dX4_read_7 rfl ?_
  refine wa_if_eq fx 17 dX4_read_8 (by decide) h (fun h => ?_) (fun h => ?_)
  · refine wa_aload_n fx 1 dX4_read_17 rfl ?_
    refine wa_V (b := ad 0) (rmc := (rmh 1)) (As := []) (st := []) (wc := (mo_ws g ad st)) (wr := ([] : va_W)) (wcz := fun z2 => mo_ws g ad z2) (w2 := fun z2 => mo_ws g ad z2) (o := fun _ => none) (s2 := fun z2 => []) (ci := 4) (q0 := 0) fx mm_X4_laysAside q_19_8 dX4_read_18 h (fun _ hz => c_X4_laysAside hz) rfl rfl (rm_ok (by decide) (by decide)) ⟨Nat.zero_le _, Nat.zero_le _⟩ rfl (List.Perm.refl _) (fun _ => List.Perm.refl _) rfl (Nat.le_of_ble_eq_true rfl) (fun _ => rfl) (fun z2 h => ?_)
    refine wa_iconst fx (0 : Int32) dX4_read_21 (by decide) ?_
    refine wa_istore fx [(4, .int (0 : Int32)), (3, .int z1), (0, .ref (ad 0)), (1, .int a1), (2, .int a2)] dX4_read_22 (by decide) rfl ?_
    refine wa_iconst fx (0 : Int32) dX4_read_24 (by decide) ?_
    refine wa_istore fx [(5, .int (0 : Int32)), (4, .int (0 : Int32)), (3, .int z1), (0, .ref (ad 0)), (1, .int a1), (2, .int a2)] dX4_read_25 (by decide) rfl ?_
    refine wa_sub [3, 4, 5, 1, 0] rfl ?_
    exact B27 200 a1 a2 (0 : Int32) (0 : Int32) z2 h
  · refine wa_aload_n fx 1 dX4_read_11 rfl ?_
    refine wa_iload_n fx 0 dX4_read_12 rfl ?_
    refine wa_V (b := ad 0) (rmc := (rmh 1)) (As := [.int z1]) (st := []) (wc := (mo_ws g ad st)) (wr := ([] : va_W)) (wcz := fun z27 => mo_ws g ad z27.2) (w2 := fun z27 => mo_ws g ad z27.2) (o := fun z27 => some (.int z27.1)) (s2 := fun z27 => [.int z27.1]) (ci := 4) (q0 := 0) fx mm_X4_finds q_5_16 dX4_read_13 h (fun _ hz => c_X4_finds hz) rfl rfl (rm_ok (by decide) (by decide)) ⟨Nat.zero_le _, Nat.zero_le _⟩ rfl (List.Perm.refl _) (fun _ => List.Perm.refl _) rfl (Nat.le_of_ble_eq_true rfl) (fun _ => rfl) (fun z27 h => ?_)
    exact fn_i (mo_ws g ad) fx hf (sn1 h) (sn2 h) dX4_read_16
def f_X4_image_l2 : Nat → (Int32) → (StT) → Option (Int32 × (StT))
  | 0, _, _ => none
  | n + 1, x3, w4 => if (66 : Int32) ≤ x3 then (nm (setF w4 0 (1 : Int32)) fun w5 => some ((1 : Int32), w5)) else (ck x3 66 (ck x3 66 (nm (setA w4 1 (upd (w4.1 1) (Int32.toNatClampNeg x3) (w4.1 0 (Int32.toNatClampNeg x3)))) fun w6 => nm (x3 + (1 : Int32)) fun x7 => (f_X4_image_l2 n) x7 w6)))
def f_X4_image  (st : StT) : Option (Int32 × (StT)) := f_X4_image_l2 200 (0 : Int32) st
set_option maxHeartbeats 4000000 in
set_option maxRecDepth 100000 in
theorem c_X4_image {g : GT} {l : Launch} {ad : Nat → Nat}   {st : StT} {r : Int32 × (StT)} (h : f_X4_image st = some r) : Ct g l yX4_image (wd yX4_image cX4_image 2 (some .int)) (rmh 1) [.ref (ad 0)] (mo_ws g ad st) (mo_ws g ad r.2) (some (.int r.1)) := by
  refine Ct.of (lv := [(0, .ref (ad 0))]) (by decide) (Nat.le_of_ble_eq_true rfl) rfl (fun K hl fx hf => ?_)
  subst hl
  rw [f_X4_image] at h
  have B2 : ∀  (n : Nat) (x3 : Int32) (w4 : StT), f_X4_image_l2 n x3 w4 = some r → WA g K 2 0 0 2 [(0, .ref (ad 0)), (1, .int x3)] [] (mo_ws g ad w4) := by
    intro   n
    induction n with
    | zero => intro x3 w4 h; exact absurd h (by rw [f_X4_image_l2]; exact nofun)
    | succ n ih =>
      intro x3 w4 h
      rw [f_X4_image_l2] at h
      refine wa_iload_n fx 1 dX4_image_2 rfl ?_
      refine wa_bipush fx (66 : Int32) dX4_image_3 (by decide) ?_
      refine wa_icmp_ge fx 26 dX4_image_5 (by decide) h (fun h => ?_) (fun h => ?_)
      · refine wa_aload_n fx 0 dX4_image_26 rfl ?_
        refine wa_iconst fx (1 : Int32) dX4_image_27 (by decide) ?_
        refine wa_put (mo_ws g ad) fx wm_X4 tyX4 tyX4_ok nmX4 0 rfl rfl 5 (by decide) q_38_21 rfl rfl (by decide) (by decide) (Nat.le_of_ble_eq_true rfl) dX4_image_28 h rfl (fun w5 h => ?_)
        refine wa_iconst fx (1 : Int32) dX4_image_31 (by decide) ?_
        exact fn_i (mo_ws g ad) fx hf (sn1 h) (sn2 h) dX4_image_32
      · refine wa_aload_n fx 0 dX4_image_8 rfl ?_
        refine wa_get (v := .ref (ad 2)) fx wm_X4 0 rfl rfl 1 (by decide) q_3_16 rfl rfl dX4_image_9 ?_
        refine wa_iload_n fx 1 dX4_image_12 rfl ?_
        refine wa_aload_n fx 0 dX4_image_13 rfl ?_
        refine wa_get (v := .ref (ad 1)) fx wm_X4 0 rfl rfl 0 (by decide) q_3_15 rfl rfl dX4_image_14 ?_
        refine wa_iload_n fx 1 dX4_image_17 rfl ?_
        refine wa_iald (f := w4.1 0) fx 1 rfl dX4_image_18 h (fun h => ?_)
        refine wa_iast (mo_ws g ad) (f := w4.1 1) fx 2 rfl dX4_image_19 h rfl (fun w6 h => ?_)
        refine wa_iinc fx 1 (fun x7 => [(1, .int x7), (0, .ref (ad 0))]) dX4_image_20 rfl (by rfl) (by decide) (fun _ => rfl) h (fun x7 h => ?_)
        refine wa_goto fx 2 dX4_image_23 (by decide) ?_
        refine wa_sub [1, 0] rfl ?_
        exact ih x7 w6 h
  refine wa_iconst fx (0 : Int32) dX4_image_0 (by decide) ?_
  refine wa_istore_n fx [(1, .int (0 : Int32)), (0, .ref (ad 0))] dX4_image_1 rfl (by decide) rfl ?_
  refine wa_sub [1, 0] rfl ?_
  exact B2 200 (0 : Int32) st h
def f_X4_undo_l16 : Nat → (Int32) → (StT) → Option (Int32 × (StT))
  | 0, _, _ => none
  | n + 1, x3, w4 => if (66 : Int32) ≤ x3 then (ck (0 : Int32) 66 (some ((w4.1 0 (Int32.toNatClampNeg (0 : Int32))), w4))) else (ck x3 66 (ck x3 66 (nm (setA w4 0 (upd (w4.1 0) (Int32.toNatClampNeg x3) (w4.1 1 (Int32.toNatClampNeg x3)))) fun w5 => nm (x3 + (1 : Int32)) fun x6 => (f_X4_undo_l16 n) x6 w5)))
def f_X4_undo  (st : StT) : Option (Int32 × (StT)) := if (st.2.2 0) = 0 then (Option.bind (f_X4_finds st (-1000000004 : Int32)) fun z7 => some (z7.1, z7.2)) else (f_X4_undo_l16 200 (0 : Int32) st)
set_option maxHeartbeats 4000000 in
set_option maxRecDepth 100000 in
theorem c_X4_undo {g : GT} {l : Launch} {ad : Nat → Nat}   {st : StT} {r : Int32 × (StT)} (h : f_X4_undo st = some r) : Ct g l yX4_undo (wd yX4_undo cX4_undo 2 (some .int)) (rmh 2) [.ref (ad 0)] (mo_ws g ad st) (mo_ws g ad r.2) (some (.int r.1)) := by
  refine Ct.of (lv := [(0, .ref (ad 0))]) (by decide) (Nat.le_of_ble_eq_true rfl) rfl (fun K hl fx hf => ?_)
  subst hl
  rw [f_X4_undo] at h
  have B16 : ∀  (n : Nat) (x3 : Int32) (w4 : StT), f_X4_undo_l16 n x3 w4 = some r → WA g K 2 0 0 16 [(0, .ref (ad 0)), (1, .int x3)] [] (mo_ws g ad w4) := by
    intro   n
    induction n with
    | zero => intro x3 w4 h; exact absurd h (by rw [f_X4_undo_l16]; exact nofun)
    | succ n ih =>
      intro x3 w4 h
      rw [f_X4_undo_l16] at h
      refine wa_iload_n fx 1 dX4_undo_16 rfl ?_
      refine wa_bipush fx (66 : Int32) dX4_undo_17 (by decide) ?_
      refine wa_icmp_ge fx 40 dX4_undo_19 (by decide) h (fun h => ?_) (fun h => ?_)
      · refine wa_aload_n fx 0 dX4_undo_40 rfl ?_
        refine wa_get (v := .ref (ad 1)) fx wm_X4 0 rfl rfl 0 (by decide) q_3_15 rfl rfl dX4_undo_41 ?_
        refine wa_iconst fx (0 : Int32) dX4_undo_44 (by decide) ?_
        refine wa_iald (f := w4.1 0) fx 1 rfl dX4_undo_45 h (fun h => ?_)
        exact fn_i (mo_ws g ad) fx hf (sn1 h) (sn2 h) dX4_undo_46
      · refine wa_aload_n fx 0 dX4_undo_22 rfl ?_
        refine wa_get (v := .ref (ad 1)) fx wm_X4 0 rfl rfl 0 (by decide) q_3_15 rfl rfl dX4_undo_23 ?_
        refine wa_iload_n fx 1 dX4_undo_26 rfl ?_
        refine wa_aload_n fx 0 dX4_undo_27 rfl ?_
        refine wa_get (v := .ref (ad 2)) fx wm_X4 0 rfl rfl 1 (by decide) q_3_16 rfl rfl dX4_undo_28 ?_
        refine wa_iload_n fx 1 dX4_undo_31 rfl ?_
        refine wa_iald (f := w4.1 1) fx 2 rfl dX4_undo_32 h (fun h => ?_)
        refine wa_iast (mo_ws g ad) (f := w4.1 0) fx 1 rfl dX4_undo_33 h rfl (fun w5 h => ?_)
        refine wa_iinc fx 1 (fun x6 => [(1, .int x6), (0, .ref (ad 0))]) dX4_undo_34 rfl (by rfl) (by decide) (fun _ => rfl) h (fun x6 h => ?_)
        refine wa_goto fx 16 dX4_undo_37 (by decide) ?_
        refine wa_sub [1, 0] rfl ?_
        exact ih x6 w5 h
  refine wa_aload_n fx 0 dX4_undo_0 rfl ?_
  refine wa_get (v := .int (st.2.2 0)) fx wm_X4 0 rfl rfl 5 (by decide) q_38_21 rfl rfl dX4_undo_1 ?_
  refine wa_if_ne fx 14 dX4_undo_4 (by decide) h (fun h => ?_) (fun h => ?_)
  · refine wa_aload_n fx 0 dX4_undo_7 rfl ?_
    refine wa_ldc fx q_20_13 dX4_undo_8 ?_
    refine wa_V (b := ad 0) (rmc := (rmh 1)) (As := [.int (-1000000004 : Int32)]) (st := []) (wc := (mo_ws g ad st)) (wr := ([] : va_W)) (wcz := fun z7 => mo_ws g ad z7.2) (w2 := fun z7 => mo_ws g ad z7.2) (o := fun z7 => some (.int z7.1)) (s2 := fun z7 => [.int z7.1]) (ci := 4) (q0 := 0) fx mm_X4_finds q_5_16 dX4_undo_10 h (fun _ hz => c_X4_finds hz) rfl rfl (rm_ok (by decide) (by decide)) ⟨Nat.zero_le _, Nat.zero_le _⟩ rfl (List.Perm.refl _) (fun _ => List.Perm.refl _) rfl (Nat.le_of_ble_eq_true rfl) (fun _ => rfl) (fun z7 h => ?_)
    exact fn_i (mo_ws g ad) fx hf (sn1 h) (sn2 h) dX4_undo_13
  · refine wa_iconst fx (0 : Int32) dX4_undo_14 (by decide) ?_
    refine wa_istore_n fx [(1, .int (0 : Int32)), (0, .ref (ad 0))] dX4_undo_15 rfl (by decide) rfl ?_
    refine wa_sub [1, 0] rfl ?_
    exact B16 200 (0 : Int32) st h
def f_X4_tear_b12 (x1 : Int32) (w2 : StT) : Option (Int32 × (StT)) := nm (setF w2 0 (0 : Int32)) fun w3 => some (x1, w3)
def f_X4_tear  (st : StT) : Option (Int32 × (StT)) := if (st.2.2 0) = 0 then (f_X4_tear_b12 (0 : Int32) st) else (f_X4_tear_b12 (1 : Int32) st)
set_option maxHeartbeats 4000000 in
set_option maxRecDepth 100000 in
theorem c_X4_tear {g : GT} {l : Launch} {ad : Nat → Nat}   {st : StT} {r : Int32 × (StT)} (h : f_X4_tear st = some r) : Ct g l yX4_tear (wd yX4_tear cX4_tear 2 (some .int)) (rmh 1) [.ref (ad 0)] (mo_ws g ad st) (mo_ws g ad r.2) (some (.int r.1)) := by
  refine Ct.of (lv := [(0, .ref (ad 0))]) (by decide) (Nat.le_of_ble_eq_true rfl) rfl (fun K hl fx hf => ?_)
  subst hl
  rw [f_X4_tear] at h
  have B12 : ∀  (x1 : Int32) (w2 : StT), f_X4_tear_b12 x1 w2 = some r → WA g K 2 0 0 12 [(0, .ref (ad 0))] [.int x1] (mo_ws g ad w2) := by
    intro   x1 w2 h
    rw [f_X4_tear_b12] at h
    refine wa_istore_n fx [(1, .int x1), (0, .ref (ad 0))] dX4_tear_12 rfl (by decide) rfl ?_
    refine wa_aload_n fx 1 dX4_tear_13 rfl ?_
    refine wa_iconst fx (0 : Int32) dX4_tear_14 (by decide) ?_
    refine wa_put (mo_ws g ad) fx wm_X4 tyX4 tyX4_ok nmX4 0 rfl rfl 5 (by decide) q_38_21 rfl rfl (by decide) (by decide) (Nat.le_of_ble_eq_true rfl) dX4_tear_15 h rfl (fun w3 h => ?_)
    refine wa_iload_n fx 0 dX4_tear_18 rfl ?_
    exact fn_i (mo_ws g ad) fx hf (sn1 h) (sn2 h) dX4_tear_19
  refine wa_aload_n fx 0 dX4_tear_0 rfl ?_
  refine wa_get (v := .int (st.2.2 0)) fx wm_X4 0 rfl rfl 5 (by decide) q_38_21 rfl rfl dX4_tear_1 ?_
  refine wa_if_eq fx 11 dX4_tear_4 (by decide) h (fun h => ?_) (fun h => ?_)
  · refine wa_iconst fx (0 : Int32) dX4_tear_11 (by decide) ?_
    refine wa_sub [0] rfl ?_
    exact B12 (0 : Int32) st h
  · refine wa_iconst fx (1 : Int32) dX4_tear_7 (by decide) ?_
    refine wa_goto fx 12 dX4_tear_8 (by decide) ?_
    refine wa_sub [0] rfl ?_
    exact B12 (1 : Int32) st h
def f_X4_pairs_l4 (st : StT) : Nat → (Int32) → (Int32) → Option (Int32)
  | 0, _, _ => none
  | n + 1, x3, x4 => ck (0 : Int32) 66 (if (st.1 0 (Int32.toNatClampNeg (0 : Int32))) ≤ x4 then (some (x3 / (2 : Int32))) else (Option.bind (f_X4_its st x4 (3 : Int32)) fun z5 => Option.bind (f_X4_ones z5) fun z6 => nm (x3 + z6) fun x7 => nm (x4 + (1 : Int32)) fun x8 => (f_X4_pairs_l4 st n) x7 x8))
def f_X4_pairs (st : StT)  : Option (Int32) := f_X4_pairs_l4 st 200 (0 : Int32) (0 : Int32)
set_option maxHeartbeats 4000000 in
set_option maxRecDepth 100000 in
theorem c_X4_pairs {g : GT} {l : Launch} {ad : Nat → Nat}   {st : StT}  {r : Int32} (h : f_X4_pairs st = some r) : Ct g l yX4_pairs (wd yX4_pairs cX4_pairs 3 (some .int)) (rmh 3) [.ref (ad 0)] (mo_ws g ad st) (mo_ws g ad st) (some (.int r)) := by
  refine Ct.of (lv := [(0, .ref (ad 0))]) (by decide) (Nat.le_of_ble_eq_true rfl) rfl (fun K hl fx hf => ?_)
  subst hl
  rw [f_X4_pairs] at h
  have B4 : ∀  (n : Nat) (x3 : Int32) (x4 : Int32), f_X4_pairs_l4 st n x3 x4 = some r → WA g K 3 0 0 4 [(0, .ref (ad 0)), (1, .int x3), (2, .int x4)] [] (mo_ws g ad st) := by
    intro   n
    induction n with
    | zero => intro x3 x4 h; exact absurd h (by rw [f_X4_pairs_l4]; exact nofun)
    | succ n ih =>
      intro x3 x4 h
      rw [f_X4_pairs_l4] at h
      refine wa_iload_n fx 2 dX4_pairs_4 rfl ?_
      refine wa_aload_n fx 0 dX4_pairs_5 rfl ?_
      refine wa_get (v := .ref (ad 1)) fx wm_X4 0 rfl rfl 0 (by decide) q_3_15 rfl rfl dX4_pairs_6 ?_
      refine wa_iconst fx (0 : Int32) dX4_pairs_9 (by decide) ?_
      refine wa_iald (f := st.1 0) fx 1 rfl dX4_pairs_10 h (fun h => ?_)
      refine wa_icmp_ge fx 32 dX4_pairs_11 (by decide) h (fun h => ?_) (fun h => ?_)
      · refine wa_iload_n fx 1 dX4_pairs_32 rfl ?_
        refine wa_iconst fx (2 : Int32) dX4_pairs_33 (by decide) ?_
        refine wa_idiv fx dX4_pairs_34 (by decide) ?_
        exact fn_i (mo_ws g ad) fx hf (Option.some.inj h) rfl dX4_pairs_35
      · refine wa_iload_n fx 1 dX4_pairs_14 rfl ?_
        refine wa_aload_n fx 0 dX4_pairs_15 rfl ?_
        refine wa_iload_n fx 2 dX4_pairs_16 rfl ?_
        refine wa_iconst fx (3 : Int32) dX4_pairs_17 (by decide) ?_
        refine wa_V (b := ad 0) (rmc := (rmh 2)) (As := [.int x4, .int (3 : Int32)]) (st := [.int x3]) (wc := (mo_ws g ad st)) (wr := ([] : va_W)) (wcz := fun _ => (mo_ws g ad st)) (w2 := fun _ => (mo_ws g ad st)) (o := fun z5 => some (.int z5)) (s2 := fun z5 => [.int z5, .int x3]) (ci := 4) (q0 := 0) fx mm_X4_its q_6_10 dX4_pairs_18 h (fun _ hz => c_X4_its hz) rfl rfl (rm_ok (by decide) (by decide)) ⟨Nat.zero_le _, Nat.zero_le _⟩ rfl (List.Perm.refl _) (fun _ => (List.Perm.refl _)) rfl (Nat.le_of_ble_eq_true rfl) (fun _ => rfl) (fun z5 h => ?_)
        refine wa_S (rmc := (rmh 1)) (As := [.int z5]) (st := [.int x3]) (wc := (no_ws ())) (wr := (mo_ws g ad st)) (wcz := fun _ => (no_ws ())) (w2 := fun _ => (mo_ws g ad st)) (o := fun z6 => some (.int z6)) (s2 := fun z6 => [.int z6, .int x3]) fx mm_X4_ones q_21_16 dX4_pairs_21 h (fun _ hz => c_X4_ones hz) (rm_ok (by decide) (by decide)) ⟨Nat.zero_le _, Nat.zero_le _⟩ rfl (List.Perm.of_eq (List.append_nil _).symm) (fun _ => (List.Perm.of_eq (List.append_nil _).symm)) rfl (Nat.le_of_ble_eq_true rfl) (fun _ => rfl) (fun z6 h => ?_)
        refine wa_iadd fx dX4_pairs_24 ?_
        refine wa_istore_nN fx (fun x7 => [(1, .int x7), (0, .ref (ad 0)), (2, .int x4)]) dX4_pairs_25 rfl (by decide) (fun _ => rfl) h (fun x7 h => ?_)
        refine wa_iinc fx 2 (fun x8 => [(2, .int x8), (1, .int x7), (0, .ref (ad 0))]) dX4_pairs_26 rfl (by rfl) (by decide) (fun _ => rfl) h (fun x8 h => ?_)
        refine wa_goto fx 4 dX4_pairs_29 (by decide) ?_
        refine wa_sub [2, 1, 0] rfl ?_
        exact ih x7 x8 h
  refine wa_iconst fx (0 : Int32) dX4_pairs_0 (by decide) ?_
  refine wa_istore_n fx [(1, .int (0 : Int32)), (0, .ref (ad 0))] dX4_pairs_1 rfl (by decide) rfl ?_
  refine wa_iconst fx (0 : Int32) dX4_pairs_2 (by decide) ?_
  refine wa_istore_n fx [(2, .int (0 : Int32)), (1, .int (0 : Int32)), (0, .ref (ad 0))] dX4_pairs_3 rfl (by decide) rfl ?_
  refine wa_sub [2, 1, 0] rfl ?_
  exact B4 200 (0 : Int32) (0 : Int32) h
def f_X4_count  (st : StT) (a1 : Int32) : Option (Int32 × (StT)) := if a1 = (0 : Int32) then (ck (0 : Int32) 66 (some ((st.1 0 (Int32.toNatClampNeg (0 : Int32))), st))) else (if a1 = (1 : Int32) then (some ((st.2.2 3), st)) else (if a1 = (2 : Int32) then (Option.bind (f_X4_sitting st) fun z1 => Option.bind (f_X4_ones z1) fun z2 => some (z2, st)) else (if a1 = (3 : Int32) then (Option.bind (f_X4_pairs st) fun z3 => some (z3, st)) else (Option.bind (f_X4_finds st (-1000000001 : Int32)) fun z4 => some (z4.1, z4.2)))))
set_option maxHeartbeats 4000000 in
set_option maxRecDepth 100000 in
theorem c_X4_count {g : GT} {l : Launch} {ad : Nat → Nat}   {st : StT} {a1 : Int32} {r : Int32 × (StT)} (h : f_X4_count st a1 = some r) : Ct g l yX4_count (wd yX4_count cX4_count 2 (some .int)) (rmh 4) [.ref (ad 0), .int a1] (mo_ws g ad st) (mo_ws g ad r.2) (some (.int r.1)) := by
  refine Ct.of (lv := [(0, .ref (ad 0)), (1, .int a1)]) (by decide) (Nat.le_of_ble_eq_true rfl) rfl (fun K hl fx hf => ?_)
  subst hl
  rw [f_X4_count] at h
  refine wa_iload_n fx 1 dX4_count_0 rfl ?_
  by_cases c0 : a1 = (0 : Int32)
  · have h := (if_pos c0).symm.trans h
    refine wa_tabI fx 32 (0 : Int) dX4_count_1 (by rw [c0] <;> rfl) (by decide) (by decide) (by rfl) (by decide) ?_
    refine wa_aload_n fx 0 dX4_count_32 rfl ?_
    refine wa_get (v := .ref (ad 1)) fx wm_X4 0 rfl rfl 0 (by decide) q_3_15 rfl rfl dX4_count_33 ?_
    refine wa_iconst fx (0 : Int32) dX4_count_36 (by decide) ?_
    refine wa_iald (f := st.1 0) fx 1 rfl dX4_count_37 h (fun h => ?_)
    exact fn_i (mo_ws g ad) fx hf (sn1 h) (sn2 h) dX4_count_38
  · have h := (if_neg c0).symm.trans h
    by_cases c1 : a1 = (1 : Int32)
    · have h := (if_pos c1).symm.trans h
      refine wa_tabI fx 39 (1 : Int) dX4_count_1 (by rw [c1] <;> rfl) (by decide) (by decide) (by rfl) (by decide) ?_
      refine wa_aload_n fx 0 dX4_count_39 rfl ?_
      refine wa_get (v := .int (st.2.2 3)) fx wm_X4 0 rfl rfl 10 (by decide) q_25_10 rfl rfl dX4_count_40 ?_
      exact fn_i (mo_ws g ad) fx hf (sn1 h) (sn2 h) dX4_count_43
    · have h := (if_neg c1).symm.trans h
      by_cases c2 : a1 = (2 : Int32)
      · have h := (if_pos c2).symm.trans h
        refine wa_tabI fx 44 (2 : Int) dX4_count_1 (by rw [c2] <;> rfl) (by decide) (by decide) (by rfl) (by decide) ?_
        refine wa_aload_n fx 0 dX4_count_44 rfl ?_
        refine wa_V (b := ad 0) (rmc := (rmh 3)) (As := []) (st := []) (wc := (mo_ws g ad st)) (wr := ([] : va_W)) (wcz := fun _ => (mo_ws g ad st)) (w2 := fun _ => (mo_ws g ad st)) (o := fun z1 => some (.int z1)) (s2 := fun z1 => [.int z1]) (ci := 4) (q0 := 0) fx mm_X4_sitting q_18_4 dX4_count_45 h (fun _ hz => c_X4_sitting hz) rfl rfl (rm_ok (by decide) (by decide)) ⟨Nat.zero_le _, Nat.zero_le _⟩ rfl (List.Perm.refl _) (fun _ => (List.Perm.refl _)) rfl (Nat.le_of_ble_eq_true rfl) (fun _ => rfl) (fun z1 h => ?_)
        refine wa_S (rmc := (rmh 1)) (As := [.int z1]) (st := []) (wc := (no_ws ())) (wr := (mo_ws g ad st)) (wcz := fun _ => (no_ws ())) (w2 := fun _ => (mo_ws g ad st)) (o := fun z2 => some (.int z2)) (s2 := fun z2 => [.int z2]) fx mm_X4_ones q_21_16 dX4_count_48 h (fun _ hz => c_X4_ones hz) (rm_ok (by decide) (by decide)) ⟨Nat.zero_le _, Nat.zero_le _⟩ rfl (List.Perm.of_eq (List.append_nil _).symm) (fun _ => (List.Perm.of_eq (List.append_nil _).symm)) rfl (Nat.le_of_ble_eq_true rfl) (fun _ => rfl) (fun z2 h => ?_)
        exact fn_i (mo_ws g ad) fx hf (sn1 h) (sn2 h) dX4_count_51
      · have h := (if_neg c2).symm.trans h
        by_cases c3 : a1 = (3 : Int32)
        · have h := (if_pos c3).symm.trans h
          refine wa_tabI fx 52 (3 : Int) dX4_count_1 (by rw [c3] <;> rfl) (by decide) (by decide) (by rfl) (by decide) ?_
          refine wa_aload_n fx 0 dX4_count_52 rfl ?_
          refine wa_V (b := ad 0) (rmc := (rmh 3)) (As := []) (st := []) (wc := (mo_ws g ad st)) (wr := ([] : va_W)) (wcz := fun _ => (mo_ws g ad st)) (w2 := fun _ => (mo_ws g ad st)) (o := fun z3 => some (.int z3)) (s2 := fun z3 => [.int z3]) (ci := 4) (q0 := 0) fx mm_X4_pairs q_40_10 dX4_count_53 h (fun _ hz => c_X4_pairs hz) rfl rfl (rm_ok (by decide) (by decide)) ⟨Nat.zero_le _, Nat.zero_le _⟩ rfl (List.Perm.refl _) (fun _ => (List.Perm.refl _)) rfl (Nat.le_of_ble_eq_true rfl) (fun _ => rfl) (fun z3 h => ?_)
          exact fn_i (mo_ws g ad) fx hf (sn1 h) (sn2 h) dX4_count_56
        · have h := (if_neg c3).symm.trans h
          refine wa_tabD fx 57 dX4_count_1 (by decide) [(0 : Int32), (1 : Int32), (2 : Int32), (3 : Int32)] (by decide) (List.forall_mem_cons.mpr ⟨c0, (List.forall_mem_cons.mpr ⟨c1, (List.forall_mem_cons.mpr ⟨c2, (List.forall_mem_cons.mpr ⟨c3, (fun _ hm => absurd hm List.not_mem_nil)⟩)⟩)⟩)⟩) ?_
          refine wa_aload_n fx 0 dX4_count_57 rfl ?_
          refine wa_ldc fx q_5_4 dX4_count_58 ?_
          refine wa_V (b := ad 0) (rmc := (rmh 1)) (As := [.int (-1000000001 : Int32)]) (st := []) (wc := (mo_ws g ad st)) (wr := ([] : va_W)) (wcz := fun z4 => mo_ws g ad z4.2) (w2 := fun z4 => mo_ws g ad z4.2) (o := fun z4 => some (.int z4.1)) (s2 := fun z4 => [.int z4.1]) (ci := 4) (q0 := 0) fx mm_X4_finds q_5_16 dX4_count_60 h (fun _ hz => c_X4_finds hz) rfl rfl (rm_ok (by decide) (by decide)) ⟨Nat.zero_le _, Nat.zero_le _⟩ rfl (List.Perm.refl _) (fun _ => List.Perm.refl _) rfl (Nat.le_of_ble_eq_true rfl) (fun _ => rfl) (fun z4 h => ?_)
          exact fn_i (mo_ws g ad) fx hf (sn1 h) (sn2 h) dX4_count_63
def f_X4_status_b51 (k25 : (Int32) → (Int32) → (Int32) → (StT) → Option (Int32 × (StT))) (x14 : Int32) (x15 : Int32) (x16 : Int32) (x17 : Int32) (w18 : StT) : Option (Int32 × (StT)) := nm (x17 + x16) fun x19 => nm (x15 + (1 : Int32)) fun x20 => k25 x14 x19 x20 w18
def f_X4_status_b41 (k25 : (Int32) → (Int32) → (Int32) → (StT) → Option (Int32 × (StT))) (x10 : Int32) (x11 : Int32) (x12 : Int32) (w13 : StT) : Option (Int32 × (StT)) := ck x11 7 (f_X4_status_b51 k25 x10 x11 (w13.1 4 (Int32.toNatClampNeg x11)) x12 w13)
def f_X4_status_l25 : Nat → (Int32) → (Int32) → (Int32) → (StT) → Option (Int32 × (StT))
  | 0, _, _, _, _ => none
  | n + 1, x6, x7, x8, w9 => if (7 : Int32) ≤ x8 then (some (x7, w9)) else (if x6 < 0 then (f_X4_status_b41 (f_X4_status_l25 n) x6 x8 x7 w9) else (if x8 = x6 then (f_X4_status_b41 (f_X4_status_l25 n) x6 x8 x7 w9) else (f_X4_status_b51 (f_X4_status_l25 n) x6 x8 (0 : Int32) x7 w9)))
def f_X4_status  (st : StT) (a1 : Int32) : Option (Int32 × (StT)) := Option.bind (f_X4_in (Int32.toInt64 a1) (-1 : Int64) (6 : Int64)) fun z1 => if z1 = 0 then (Option.bind (f_X4_finds st (-1000000001 : Int32)) fun z21 => some (z21.1, z21.2)) else (f_X4_status_l25 200 a1 (0 : Int32) (0 : Int32) st)
set_option maxHeartbeats 4000000 in
set_option maxRecDepth 100000 in
theorem c_X4_status {g : GT} {l : Launch} {ad : Nat → Nat}   {st : StT} {a1 : Int32} {r : Int32 × (StT)} (h : f_X4_status st a1 = some r) : Ct g l yX4_status (wd yX4_status cX4_status 4 (some .int)) (rmh 2) [.ref (ad 0), .int a1] (mo_ws g ad st) (mo_ws g ad r.2) (some (.int r.1)) := by
  refine Ct.of (lv := [(0, .ref (ad 0)), (1, .int a1)]) (by decide) (Nat.le_of_ble_eq_true rfl) rfl (fun K hl fx hf => ?_)
  subst hl
  rw [f_X4_status] at h
  have B51 : ∀ (k25 : (Int32) → (Int32) → (Int32) → (StT) → Option (Int32 × (StT))) (Hk25 : ∀ (y2 : Int32) (y3 : Int32) (y4 : Int32) (w5 : StT), k25 y2 y3 y4 w5 = some r → WA g K 4 0 0 25 [(0, .ref (ad 0)), (1, .int y2), (2, .int y3), (3, .int y4)] [] (mo_ws g ad w5)) (x14 : Int32) (x15 : Int32) (x16 : Int32) (x17 : Int32) (w18 : StT), f_X4_status_b51 k25 x14 x15 x16 x17 w18 = some r → WA g K 4 0 0 51 [(0, .ref (ad 0)), (1, .int x14), (3, .int x15)] [.int x16, .int x17] (mo_ws g ad w18) := by
    intro  k25 Hk25 x14 x15 x16 x17 w18 h
    rw [f_X4_status_b51] at h
    refine wa_iadd fx dX4_status_51 ?_
    refine wa_istore_nN fx (fun x19 => [(2, .int x19), (0, .ref (ad 0)), (1, .int x14), (3, .int x15)]) dX4_status_52 rfl (by decide) (fun _ => rfl) h (fun x19 h => ?_)
    refine wa_iinc fx 3 (fun x20 => [(3, .int x20), (2, .int x19), (0, .ref (ad 0)), (1, .int x14)]) dX4_status_53 rfl (by rfl) (by decide) (fun _ => rfl) h (fun x20 h => ?_)
    refine wa_goto fx 25 dX4_status_56 (by decide) ?_
    refine wa_sub [2, 3, 1, 0] rfl ?_
    exact Hk25 x14 x19 x20 w18 h
  have B41 : ∀ (k25 : (Int32) → (Int32) → (Int32) → (StT) → Option (Int32 × (StT))) (Hk25 : ∀ (y2 : Int32) (y3 : Int32) (y4 : Int32) (w5 : StT), k25 y2 y3 y4 w5 = some r → WA g K 4 0 0 25 [(0, .ref (ad 0)), (1, .int y2), (2, .int y3), (3, .int y4)] [] (mo_ws g ad w5)) (x10 : Int32) (x11 : Int32) (x12 : Int32) (w13 : StT), f_X4_status_b41 k25 x10 x11 x12 w13 = some r → WA g K 4 0 0 41 [(0, .ref (ad 0)), (1, .int x10), (3, .int x11)] [.int x12] (mo_ws g ad w13) := by
    intro  k25 Hk25 x10 x11 x12 w13 h
    rw [f_X4_status_b41] at h
    refine wa_aload_n fx 0 dX4_status_41 rfl ?_
    refine wa_get (v := .ref (ad 5)) fx wm_X4 0 rfl rfl 4 (by decide) q_3_19 rfl rfl dX4_status_42 ?_
    refine wa_iload_n fx 2 dX4_status_45 rfl ?_
    refine wa_iald (f := w13.1 4) fx 5 rfl dX4_status_46 h (fun h => ?_)
    refine wa_goto fx 51 dX4_status_47 (by decide) ?_
    refine wa_sub [0, 1, 2] rfl ?_
    exact B51 k25 Hk25 x10 x11 (w13.1 4 (Int32.toNatClampNeg x11)) x12 w13 h
  have B25 : ∀  (n : Nat) (x6 : Int32) (x7 : Int32) (x8 : Int32) (w9 : StT), f_X4_status_l25 n x6 x7 x8 w9 = some r → WA g K 4 0 0 25 [(0, .ref (ad 0)), (1, .int x6), (2, .int x7), (3, .int x8)] [] (mo_ws g ad w9) := by
    intro   n
    induction n with
    | zero => intro x6 x7 x8 w9 h; exact absurd h (by rw [f_X4_status_l25]; exact nofun)
    | succ n ih =>
      intro x6 x7 x8 w9 h
      rw [f_X4_status_l25] at h
      refine wa_iload_n fx 3 dX4_status_25 rfl ?_
      refine wa_bipush fx (7 : Int32) dX4_status_26 (by decide) ?_
      refine wa_icmp_ge fx 59 dX4_status_28 (by decide) h (fun h => ?_) (fun h => ?_)
      · refine wa_iload_n fx 2 dX4_status_59 rfl ?_
        exact fn_i (mo_ws g ad) fx hf (sn1 h) (sn2 h) dX4_status_60
      · refine wa_iload_n fx 2 dX4_status_31 rfl ?_
        refine wa_iload_n fx 1 dX4_status_32 rfl ?_
        refine wa_if_lt fx 41 dX4_status_33 (by decide) h (fun h => ?_) (fun h => ?_)
        · refine wa_sub [0, 1, 3] rfl ?_
          exact B41 (f_X4_status_l25 n) ih x6 x8 x7 w9 h
        · refine wa_iload_n fx 3 dX4_status_36 rfl ?_
          refine wa_iload_n fx 1 dX4_status_37 rfl ?_
          refine wa_icmp_ne fx 50 dX4_status_38 (by decide) h (fun h => ?_) (fun h => ?_)
          · refine wa_sub [0, 1, 3] rfl ?_
            exact B41 (f_X4_status_l25 n) ih x6 x8 x7 w9 h
          · refine wa_iconst fx (0 : Int32) dX4_status_50 (by decide) ?_
            refine wa_sub [0, 1, 3] rfl ?_
            exact B51 (f_X4_status_l25 n) ih x6 x8 (0 : Int32) x7 w9 h
  refine wa_iload_n fx 1 dX4_status_0 rfl ?_
  refine wa_i2l fx dX4_status_1 ?_
  refine wa_ldc2 fx q_9_18 dX4_status_2 ?_
  refine wa_ldc2 fx q_8_17 dX4_status_5 ?_
  refine wa_S (rmc := (rmh 1)) (As := [.long (Int32.toInt64 a1), .long (-1 : Int64), .long (6 : Int64)]) (st := []) (wc := (no_ws ())) (wr := (mo_ws g ad st)) (wcz := fun _ => (no_ws ())) (w2 := fun _ => (mo_ws g ad st)) (o := fun z1 => some (.int z1)) (s2 := fun z1 => [.int z1]) fx mm_X4_in q_5_5 dX4_status_8 h (fun _ hz => c_X4_in hz) (rm_ok (by decide) (by decide)) ⟨Nat.zero_le _, Nat.zero_le _⟩ rfl (List.Perm.of_eq (List.append_nil _).symm) (fun _ => (List.Perm.of_eq (List.append_nil _).symm)) rfl (Nat.le_of_ble_eq_true rfl) (fun _ => rfl) (fun z1 h => ?_)
  refine wa_if_ne fx 21 dX4_status_11 (by decide) h (fun h => ?_) (fun h => ?_)
  · refine wa_aload_n fx 0 dX4_status_14 rfl ?_
    refine wa_ldc fx q_5_4 dX4_status_15 ?_
    refine wa_V (b := ad 0) (rmc := (rmh 1)) (As := [.int (-1000000001 : Int32)]) (st := []) (wc := (mo_ws g ad st)) (wr := ([] : va_W)) (wcz := fun z21 => mo_ws g ad z21.2) (w2 := fun z21 => mo_ws g ad z21.2) (o := fun z21 => some (.int z21.1)) (s2 := fun z21 => [.int z21.1]) (ci := 4) (q0 := 0) fx mm_X4_finds q_5_16 dX4_status_17 h (fun _ hz => c_X4_finds hz) rfl rfl (rm_ok (by decide) (by decide)) ⟨Nat.zero_le _, Nat.zero_le _⟩ rfl (List.Perm.refl _) (fun _ => List.Perm.refl _) rfl (Nat.le_of_ble_eq_true rfl) (fun _ => rfl) (fun z21 h => ?_)
    exact fn_i (mo_ws g ad) fx hf (sn1 h) (sn2 h) dX4_status_20
  · refine wa_iconst fx (0 : Int32) dX4_status_21 (by decide) ?_
    refine wa_istore_n fx [(2, .int (0 : Int32)), (0, .ref (ad 0)), (1, .int a1)] dX4_status_22 rfl (by decide) rfl ?_
    refine wa_iconst fx (0 : Int32) dX4_status_23 (by decide) ?_
    refine wa_istore_n fx [(3, .int (0 : Int32)), (2, .int (0 : Int32)), (0, .ref (ad 0)), (1, .int a1)] dX4_status_24 rfl (by decide) rfl ?_
    refine wa_sub [2, 3, 1, 0] rfl ?_
    exact B25 200 a1 (0 : Int32) (0 : Int32) st h
