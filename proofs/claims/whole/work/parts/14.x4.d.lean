def f_X4_kindHere (st : StT)  : Option (Int32) := Option.bind (f_X4_word st) fun z1 => if (lg_cmp z1 (8033908 : Int64)) = 0 then (some (0 : Int32)) else (if (lg_cmp z1 (15748 : Int64)) = 0 then (some (1 : Int32)) else (if (lg_cmp z1 (672541874 : Int64)) = 0 then (some (2 : Int32)) else (if (lg_cmp z1 (136230 : Int64)) = 0 then (some (3 : Int32)) else (if (lg_cmp z1 (18519214 : Int64)) = 0 then (some (4 : Int32)) else (if (lg_cmp z1 (20809171122 : Int64)) = 0 then (some (5 : Int32)) else (some (-1 : Int32)))))))
set_option maxHeartbeats 4000000 in
set_option maxRecDepth 100000 in
theorem c_X4_kindHere {g : GT} {l : Launch} {ad : Nat → Nat}   {st : StT}  {r : Int32} (h : f_X4_kindHere st = some r) : Ct g l yX4_kindHere (wd yX4_kindHere cX4_kindHere 3 (some .int)) (rmh 4) [.ref (ad 0)] (mo_ws g ad st) (mo_ws g ad st) (some (.int r)) := by
  refine Ct.of (lv := [(0, .ref (ad 0))]) (by decide) (Nat.le_of_ble_eq_true rfl) rfl (fun K hl fx hf => ?_)
  subst hl
  rw [f_X4_kindHere] at h
  refine wa_aload_n fx 0 dX4_kindHere_0 rfl ?_
  refine wa_V (b := ad 0) (rmc := (rmh 3)) (As := []) (st := []) (wc := (mo_ws g ad st)) (wr := ([] : va_W)) (wcz := fun _ => (mo_ws g ad st)) (w2 := fun _ => (mo_ws g ad st)) (o := fun z1 => some (.long z1)) (s2 := fun z1 => [.long z1]) (ci := 4) (q0 := 0) fx mm_X4_word q_32_16 dX4_kindHere_1 h (fun _ hz => c_X4_word hz) rfl rfl (rm_ok (by decide) (by decide)) ⟨Nat.zero_le _, Nat.zero_le _⟩ rfl (List.Perm.refl _) (fun _ => (List.Perm.refl _)) rfl (Nat.le_of_ble_eq_true rfl) (fun _ => rfl) (fun z1 h => ?_)
  refine wa_lstore_n fx [(1, .long z1), (0, .ref (ad 0))] dX4_kindHere_4 rfl (by decide) rfl ?_
  refine wa_lload_n fx 0 dX4_kindHere_5 rfl ?_
  refine wa_ldc2 fx q_32_10 dX4_kindHere_6 ?_
  refine wa_lcmp fx dX4_kindHere_9 ?_
  refine wa_if_ne fx 17 dX4_kindHere_10 (by decide) h (fun h => ?_) (fun h => ?_)
  · refine wa_iconst fx (0 : Int32) dX4_kindHere_13 (by decide) ?_
    refine wa_goto fx 78 dX4_kindHere_14 (by decide) ?_
    exact fn_i (mo_ws g ad) fx hf (Option.some.inj h) rfl dX4_kindHere_78
  · refine wa_lload_n fx 0 dX4_kindHere_17 rfl ?_
    refine wa_ldc2 fx q_32_11 dX4_kindHere_18 ?_
    refine wa_lcmp fx dX4_kindHere_21 ?_
    refine wa_if_ne fx 29 dX4_kindHere_22 (by decide) h (fun h => ?_) (fun h => ?_)
    · refine wa_iconst fx (1 : Int32) dX4_kindHere_25 (by decide) ?_
      refine wa_goto fx 78 dX4_kindHere_26 (by decide) ?_
      exact fn_i (mo_ws g ad) fx hf (Option.some.inj h) rfl dX4_kindHere_78
    · refine wa_lload_n fx 0 dX4_kindHere_29 rfl ?_
      refine wa_ldc2 fx q_32_12 dX4_kindHere_30 ?_
      refine wa_lcmp fx dX4_kindHere_33 ?_
      refine wa_if_ne fx 41 dX4_kindHere_34 (by decide) h (fun h => ?_) (fun h => ?_)
      · refine wa_iconst fx (2 : Int32) dX4_kindHere_37 (by decide) ?_
        refine wa_goto fx 78 dX4_kindHere_38 (by decide) ?_
        exact fn_i (mo_ws g ad) fx hf (Option.some.inj h) rfl dX4_kindHere_78
      · refine wa_lload_n fx 0 dX4_kindHere_41 rfl ?_
        refine wa_ldc2 fx q_32_13 dX4_kindHere_42 ?_
        refine wa_lcmp fx dX4_kindHere_45 ?_
        refine wa_if_ne fx 53 dX4_kindHere_46 (by decide) h (fun h => ?_) (fun h => ?_)
        · refine wa_iconst fx (3 : Int32) dX4_kindHere_49 (by decide) ?_
          refine wa_goto fx 78 dX4_kindHere_50 (by decide) ?_
          exact fn_i (mo_ws g ad) fx hf (Option.some.inj h) rfl dX4_kindHere_78
        · refine wa_lload_n fx 0 dX4_kindHere_53 rfl ?_
          refine wa_ldc2 fx q_32_14 dX4_kindHere_54 ?_
          refine wa_lcmp fx dX4_kindHere_57 ?_
          refine wa_if_ne fx 65 dX4_kindHere_58 (by decide) h (fun h => ?_) (fun h => ?_)
          · refine wa_iconst fx (4 : Int32) dX4_kindHere_61 (by decide) ?_
            refine wa_goto fx 78 dX4_kindHere_62 (by decide) ?_
            exact fn_i (mo_ws g ad) fx hf (Option.some.inj h) rfl dX4_kindHere_78
          · refine wa_lload_n fx 0 dX4_kindHere_65 rfl ?_
            refine wa_ldc2 fx q_32_15 dX4_kindHere_66 ?_
            refine wa_lcmp fx dX4_kindHere_69 ?_
            refine wa_if_ne fx 77 dX4_kindHere_70 (by decide) h (fun h => ?_) (fun h => ?_)
            · refine wa_iconst fx (5 : Int32) dX4_kindHere_73 (by decide) ?_
              refine wa_goto fx 78 dX4_kindHere_74 (by decide) ?_
              exact fn_i (mo_ws g ad) fx hf (Option.some.inj h) rfl dX4_kindHere_78
            · refine wa_iconst fx (-1 : Int32) dX4_kindHere_77 (by decide) ?_
              exact fn_i (mo_ws g ad) fx hf (Option.some.inj h) rfl dX4_kindHere_78
def f_X4_partItem  (st : StT) (a1 : Int64) (a3 : Int32) (a4 : Int32) : Option ((StT)) := Option.bind (f_X4_word st) fun z1 => if (lg_cmp z1 a1) = 0 then (Option.bind (f_X4_must st (1 : Int32)) fun z2 => Option.bind (f_X4_number z2 (0 : Int32) a4) fun z3 => if (z3.2.2 7) = 0 then (ck a3 66 (nm (setA z3 0 (upd (z3.1 0) (Int32.toNatClampNeg a3) (z3.2.2 6))) fun w4 => some w4)) else (ck a3 66 (ck a3 66 (nm (setA z3 0 (upd (z3.1 0) (Int32.toNatClampNeg a3) (z3.1 0 (Int32.toNatClampNeg a3)))) fun w5 => some w5)))) else (some st)
set_option maxHeartbeats 4000000 in
set_option maxRecDepth 100000 in
theorem c_X4_partItem {g : GT} {l : Launch} {ad : Nat → Nat}   {st : StT} {a1 : Int64} {a3 : Int32} {a4 : Int32} {r : (StT)} (h : f_X4_partItem st a1 a3 a4 = some r) : Ct g l yX4_partItem (wd yX4_partItem cX4_partItem 5 none) (rmh 6) [.ref (ad 0), .long a1, .int a3, .int a4] (mo_ws g ad st) (mo_ws g ad r) none := by
  refine Ct.of (lv := [(0, .ref (ad 0)), (1, .long a1), (3, .int a3), (4, .int a4)]) (by decide) (Nat.le_of_ble_eq_true rfl) rfl (fun K hl fx hf => ?_)
  subst hl
  rw [f_X4_partItem] at h
  refine wa_aload_n fx 0 dX4_partItem_0 rfl ?_
  refine wa_V (b := ad 0) (rmc := (rmh 3)) (As := []) (st := []) (wc := (mo_ws g ad st)) (wr := ([] : va_W)) (wcz := fun _ => (mo_ws g ad st)) (w2 := fun _ => (mo_ws g ad st)) (o := fun z1 => some (.long z1)) (s2 := fun z1 => [.long z1]) (ci := 4) (q0 := 0) fx mm_X4_word q_32_16 dX4_partItem_1 h (fun _ hz => c_X4_word hz) rfl rfl (rm_ok (by decide) (by decide)) ⟨Nat.zero_le _, Nat.zero_le _⟩ rfl (List.Perm.refl _) (fun _ => (List.Perm.refl _)) rfl (Nat.le_of_ble_eq_true rfl) (fun _ => rfl) (fun z1 h => ?_)
  refine wa_lload_n fx 1 dX4_partItem_4 rfl ?_
  refine wa_lcmp fx dX4_partItem_5 ?_
  refine wa_if_ne fx 47 dX4_partItem_6 (by decide) h (fun h => ?_) (fun h => ?_)
  · refine wa_aload_n fx 0 dX4_partItem_9 rfl ?_
    refine wa_iconst fx (1 : Int32) dX4_partItem_10 (by decide) ?_
    refine wa_V (b := ad 0) (rmc := (rmh 4)) (As := [.int (1 : Int32)]) (st := []) (wc := (mo_ws g ad st)) (wr := ([] : va_W)) (wcz := fun z2 => mo_ws g ad z2) (w2 := fun z2 => mo_ws g ad z2) (o := fun _ => none) (s2 := fun z2 => []) (ci := 4) (q0 := 0) fx mm_X4_must q_33_5 dX4_partItem_11 h (fun _ hz => c_X4_must hz) rfl rfl (rm_ok (by decide) (by decide)) ⟨Nat.zero_le _, Nat.zero_le _⟩ rfl (List.Perm.refl _) (fun _ => List.Perm.refl _) rfl (Nat.le_of_ble_eq_true rfl) (fun _ => rfl) (fun z2 h => ?_)
    refine wa_aload_n fx 0 dX4_partItem_14 rfl ?_
    refine wa_iconst fx (0 : Int32) dX4_partItem_15 (by decide) ?_
    refine wa_iload fx 3 dX4_partItem_16 rfl ?_
    refine wa_V (b := ad 0) (rmc := (rmh 5)) (As := [.int (0 : Int32), .int a4]) (st := []) (wc := (mo_ws g ad z2)) (wr := ([] : va_W)) (wcz := fun z3 => mo_ws g ad z3) (w2 := fun z3 => mo_ws g ad z3) (o := fun _ => none) (s2 := fun z3 => []) (ci := 4) (q0 := 0) fx mm_X4_number q_33_14 dX4_partItem_18 h (fun _ hz => c_X4_number hz) rfl rfl (rm_ok (by decide) (by decide)) ⟨Nat.zero_le _, Nat.zero_le _⟩ rfl (List.Perm.refl _) (fun _ => List.Perm.refl _) rfl (Nat.le_of_ble_eq_true rfl) (fun _ => rfl) (fun z3 h => ?_)
    refine wa_aload_n fx 0 dX4_partItem_21 rfl ?_
    refine wa_get (v := .ref (ad 1)) fx wm_X4 0 rfl rfl 0 (by decide) q_3_15 rfl rfl dX4_partItem_22 ?_
    refine wa_iload_n fx 2 dX4_partItem_25 rfl ?_
    refine wa_aload_n fx 0 dX4_partItem_26 rfl ?_
    refine wa_get (v := .int (z3.2.2 7)) fx wm_X4 0 rfl rfl 14 (by decide) q_30_22 rfl rfl dX4_partItem_27 ?_
    refine wa_if_eq fx 42 dX4_partItem_30 (by decide) h (fun h => ?_) (fun h => ?_)
    · refine wa_aload_n fx 0 dX4_partItem_42 rfl ?_
      refine wa_get (v := .int (z3.2.2 6)) fx wm_X4 0 rfl rfl 13 (by decide) q_33_13 rfl rfl dX4_partItem_43 ?_
      refine wa_iast (mo_ws g ad) (f := z3.1 0) fx 1 rfl dX4_partItem_46 h rfl (fun w4 h => ?_)
      exact fn_v (mo_ws g ad) fx hf (Option.some.inj h) dX4_partItem_47
    · refine wa_aload_n fx 0 dX4_partItem_33 rfl ?_
      refine wa_get (v := .ref (ad 1)) fx wm_X4 0 rfl rfl 0 (by decide) q_3_15 rfl rfl dX4_partItem_34 ?_
      refine wa_iload_n fx 2 dX4_partItem_37 rfl ?_
      refine wa_iald (f := z3.1 0) fx 1 rfl dX4_partItem_38 h (fun h => ?_)
      refine wa_goto fx 46 dX4_partItem_39 (by decide) ?_
      refine wa_iast (mo_ws g ad) (f := z3.1 0) fx 1 rfl dX4_partItem_46 h rfl (fun w5 h => ?_)
      exact fn_v (mo_ws g ad) fx hf (Option.some.inj h) dX4_partItem_47
  · exact fn_v (mo_ws g ad) fx hf (Option.some.inj h) dX4_partItem_47
def f_X4_peeked_b64 (k30 : (Int32) → (Int32) → Option (Int32)) (st : StT) (x8 : Int32) (x9 : Int32) : Option (Int32) := nm (x8 + (1 : Int32)) fun x10 => k30 x9 x10
def f_X4_peeked_l30 (st : StT) : Nat → (Int32) → (Int32) → Option (Int32)
  | 0, _, _ => none
  | n + 1, x6, x7 => if (st.2.2 5) ≤ x7 then (some x6) else (if x6 ≤ (99 : Int32) then (ck x7 120 (f_X4_peeked_b64 (f_X4_peeked_l30 st n) st x7 ((((10 : Int32) * x6) + (st.1 6 (Int32.toNatClampNeg x7))) - (48 : Int32)))) else (f_X4_peeked_b64 (f_X4_peeked_l30 st n) st x7 (1000 : Int32)))
def f_X4_peeked (st : StT)  : Option (Int32) := if (st.2.2 7) = 0 then (Option.bind (f_X4_byteAt st (st.2.2 4)) fun z1 => Option.bind (f_X4_isDigit z1) fun z2 => if z2 = 0 then (some (-1 : Int32)) else (nm (st.2.2 4) fun x3 => f_X4_peeked_l30 st 200 (0 : Int32) x3)) else (some (-1 : Int32))
set_option maxHeartbeats 4000000 in
set_option maxRecDepth 100000 in
theorem c_X4_peeked {g : GT} {l : Launch} {ad : Nat → Nat}   {st : StT}  {r : Int32} (h : f_X4_peeked st = some r) : Ct g l yX4_peeked (wd yX4_peeked cX4_peeked 3 (some .int)) (rmh 3) [.ref (ad 0)] (mo_ws g ad st) (mo_ws g ad st) (some (.int r)) := by
  refine Ct.of (lv := [(0, .ref (ad 0))]) (by decide) (Nat.le_of_ble_eq_true rfl) rfl (fun K hl fx hf => ?_)
  subst hl
  rw [f_X4_peeked] at h
  have B64 : ∀ (k30 : (Int32) → (Int32) → Option (Int32)) (Hk30 : ∀ (y4 : Int32) (y5 : Int32), k30 y4 y5 = some r → WA g K 3 0 0 30 [(0, .ref (ad 0)), (1, .int y4), (2, .int y5)] [] (mo_ws g ad st)) (x8 : Int32) (x9 : Int32), f_X4_peeked_b64 k30 st x8 x9 = some r → WA g K 3 0 0 64 [(0, .ref (ad 0)), (2, .int x8)] [.int x9] (mo_ws g ad st) := by
    intro  k30 Hk30 x8 x9 h
    rw [f_X4_peeked_b64] at h
    refine wa_istore_n fx [(1, .int x9), (0, .ref (ad 0)), (2, .int x8)] dX4_peeked_64 rfl (by decide) rfl ?_
    refine wa_iinc fx 2 (fun x10 => [(2, .int x10), (1, .int x9), (0, .ref (ad 0))]) dX4_peeked_65 rfl (by rfl) (by decide) (fun _ => rfl) h (fun x10 h => ?_)
    refine wa_goto fx 30 dX4_peeked_68 (by decide) ?_
    refine wa_sub [2, 1, 0] rfl ?_
    exact Hk30 x9 x10 h
  have B30 : ∀  (n : Nat) (x6 : Int32) (x7 : Int32), f_X4_peeked_l30 st n x6 x7 = some r → WA g K 3 0 0 30 [(0, .ref (ad 0)), (1, .int x6), (2, .int x7)] [] (mo_ws g ad st) := by
    intro   n
    induction n with
    | zero => intro x6 x7 h; exact absurd h (by rw [f_X4_peeked_l30]; exact nofun)
    | succ n ih =>
      intro x6 x7 h
      rw [f_X4_peeked_l30] at h
      refine wa_iload_n fx 2 dX4_peeked_30 rfl ?_
      refine wa_aload_n fx 0 dX4_peeked_31 rfl ?_
      refine wa_get (v := .int (st.2.2 5)) fx wm_X4 0 rfl rfl 12 (by decide) q_30_23 rfl rfl dX4_peeked_32 ?_
      refine wa_icmp_ge fx 71 dX4_peeked_35 (by decide) h (fun h => ?_) (fun h => ?_)
      · refine wa_iload_n fx 1 dX4_peeked_71 rfl ?_
        exact fn_i (mo_ws g ad) fx hf (Option.some.inj h) rfl dX4_peeked_72
      · refine wa_iload_n fx 1 dX4_peeked_38 rfl ?_
        refine wa_bipush fx (99 : Int32) dX4_peeked_39 (by decide) ?_
        refine wa_icmp_le fx 50 dX4_peeked_41 (by decide) h (fun h => ?_) (fun h => ?_)
        · refine wa_bipush fx (10 : Int32) dX4_peeked_50 (by decide) ?_
          refine wa_iload_n fx 1 dX4_peeked_52 rfl ?_
          refine wa_imul fx dX4_peeked_53 ?_
          refine wa_aload_n fx 0 dX4_peeked_54 rfl ?_
          refine wa_get (v := .ref (ad 7)) fx wm_X4 0 rfl rfl 9 (by decide) q_3_21 rfl rfl dX4_peeked_55 ?_
          refine wa_iload_n fx 2 dX4_peeked_58 rfl ?_
          refine wa_iald (f := st.1 6) fx 7 rfl dX4_peeked_59 h (fun h => ?_)
          refine wa_iadd fx dX4_peeked_60 ?_
          refine wa_bipush fx (48 : Int32) dX4_peeked_61 (by decide) ?_
          refine wa_isub fx dX4_peeked_63 ?_
          refine wa_sub [0, 2] rfl ?_
          exact B64 (f_X4_peeked_l30 st n) ih x7 ((((10 : Int32) * x6) + (st.1 6 (Int32.toNatClampNeg x7))) - (48 : Int32)) h
        · refine wa_sipush fx (1000 : Int32) dX4_peeked_44 (by decide) ?_
          refine wa_goto fx 64 dX4_peeked_47 (by decide) ?_
          refine wa_sub [0, 2] rfl ?_
          exact B64 (f_X4_peeked_l30 st n) ih x7 (1000 : Int32) h
  refine wa_aload_n fx 0 dX4_peeked_0 rfl ?_
  refine wa_get (v := .int (st.2.2 7)) fx wm_X4 0 rfl rfl 14 (by decide) q_30_22 rfl rfl dX4_peeked_1 ?_
  refine wa_if_ne fx 21 dX4_peeked_4 (by decide) h (fun h => ?_) (fun h => ?_)
  · refine wa_aload_n fx 0 dX4_peeked_7 rfl ?_
    refine wa_aload_n fx 0 dX4_peeked_8 rfl ?_
    refine wa_get (v := .int (st.2.2 4)) fx wm_X4 0 rfl rfl 11 (by decide) q_31_0 rfl rfl dX4_peeked_9 ?_
    refine wa_V (b := ad 0) (rmc := (rmh 1)) (As := [.int (st.2.2 4)]) (st := []) (wc := (mo_ws g ad st)) (wr := ([] : va_W)) (wcz := fun _ => (mo_ws g ad st)) (w2 := fun _ => (mo_ws g ad st)) (o := fun z1 => some (.int z1)) (s2 := fun z1 => [.int z1]) (ci := 4) (q0 := 0) fx mm_X4_byteAt q_31_9 dX4_peeked_12 h (fun _ hz => c_X4_byteAt hz) rfl rfl (rm_ok (by decide) (by decide)) ⟨Nat.zero_le _, Nat.zero_le _⟩ rfl (List.Perm.refl _) (fun _ => (List.Perm.refl _)) rfl (Nat.le_of_ble_eq_true rfl) (fun _ => rfl) (fun z1 h => ?_)
    refine wa_S (rmc := (rmh 2)) (As := [.int z1]) (st := []) (wc := (no_ws ())) (wr := (mo_ws g ad st)) (wcz := fun _ => (no_ws ())) (w2 := fun _ => (mo_ws g ad st)) (o := fun z2 => some (.int z2)) (s2 := fun z2 => [.int z2]) fx mm_X4_isDigit q_31_18 dX4_peeked_15 h (fun _ hz => c_X4_isDigit hz) (rm_ok (by decide) (by decide)) ⟨Nat.zero_le _, Nat.zero_le _⟩ rfl (List.Perm.of_eq (List.append_nil _).symm) (fun _ => (List.Perm.of_eq (List.append_nil _).symm)) rfl (Nat.le_of_ble_eq_true rfl) (fun _ => rfl) (fun z2 h => ?_)
    refine wa_if_ne fx 23 dX4_peeked_18 (by decide) h (fun h => ?_) (fun h => ?_)
    · refine wa_iconst fx (-1 : Int32) dX4_peeked_21 (by decide) ?_
      exact fn_i (mo_ws g ad) fx hf (Option.some.inj h) rfl dX4_peeked_22
    · refine wa_iconst fx (0 : Int32) dX4_peeked_23 (by decide) ?_
      refine wa_istore_n fx [(1, .int (0 : Int32)), (0, .ref (ad 0))] dX4_peeked_24 rfl (by decide) rfl ?_
      refine wa_aload_n fx 1 dX4_peeked_25 rfl ?_
      refine wa_get (v := .int (st.2.2 4)) fx wm_X4 0 rfl rfl 11 (by decide) q_31_0 rfl rfl dX4_peeked_26 ?_
      refine wa_istore_nN fx (fun x3 => [(2, .int x3), (1, .int (0 : Int32)), (0, .ref (ad 0))]) dX4_peeked_29 rfl (by decide) (fun _ => rfl) h (fun x3 h => ?_)
      refine wa_sub [2, 1, 0] rfl ?_
      exact B30 200 (0 : Int32) x3 h
  · refine wa_iconst fx (-1 : Int32) dX4_peeked_21 (by decide) ?_
    exact fn_i (mo_ws g ad) fx hf (Option.some.inj h) rfl dX4_peeked_22
def f_X4_personItem_b112 (x18 : Int32) (x19 : Int32) (x20 : Int32) (w21 : StT) : Option ((StT)) := Option.bind (f_X4_must w21 x20) fun z22 => Option.bind (f_X4_spotOf x18 (5 : Int32)) fun z23 => if (z22.2.2 7) = 0 then (ck z23 66 (nm (setA z22 0 (upd (z22.1 0) (Int32.toNatClampNeg z23) x19)) fun w24 => some w24)) else (ck z23 66 (nm (setA z22 0 (upd (z22.1 0) (Int32.toNatClampNeg z23) (-1 : Int32))) fun w25 => some w25))
def f_X4_personItem_b111 (x15 : Int32) (x16 : Int32) (w17 : StT) : Option ((StT)) := f_X4_personItem_b112 x15 x16 (0 : Int32) w17
def f_X4_personItem_b17 (x1 : Int32) (x2 : Int32) (w3 : StT) : Option ((StT)) := Option.bind (f_X4_must w3 x2) fun z4 => if (z4.2.2 7) = 0 then (Option.bind (f_X4_adds z4 x1) fun z5 => nm z5.1 fun x6 => Option.bind (f_X4_spotOf x6 (1 : Int32)) fun z7 => Option.bind (f_X4_partItem z5.2 (26379859 : Int64) z7 (99 : Int32)) fun z8 => Option.bind (f_X4_spotOf x6 (2 : Int32)) fun z9 => Option.bind (f_X4_partItem z8 (113288627 : Int64) z9 (7 : Int32)) fun z10 => if (z10.2.2 7) = 0 then (Option.bind (f_X4_word z10) fun z11 => if (lg_cmp z11 (302 : Int64)) = 0 then (Option.bind (f_X4_must z10 (1 : Int32)) fun z12 => Option.bind (f_X4_peeked z12) fun z13 => Option.bind (f_X4_isChair z13) fun z14 => if z14 = 0 then (f_X4_personItem_b111 x6 z13 z12) else (Option.bind (f_X4_whoIn z12 z13) fun z26 => if z26 = (-1 : Int32) then (f_X4_personItem_b112 x6 z13 (1 : Int32) z12) else (f_X4_personItem_b111 x6 z13 z12))) else (some z10)) else (some z10)) else (some z4)
def f_X4_personItem  (st : StT) (a1 : Int32) : Option ((StT)) := ck (0 : Int32) 66 (if (8 : Int32) ≤ (st.1 0 (Int32.toNatClampNeg (0 : Int32))) then (f_X4_personItem_b17 a1 (0 : Int32) st) else (f_X4_personItem_b17 a1 (1 : Int32) st))
set_option maxHeartbeats 4000000 in
set_option maxRecDepth 100000 in
theorem c_X4_personItem {g : GT} {l : Launch} {ad : Nat → Nat}   {st : StT} {a1 : Int32} {r : (StT)} (h : f_X4_personItem st a1 = some r) : Ct g l yX4_personItem (wd yX4_personItem cX4_personItem 4 none) (rmh 7) [.ref (ad 0), .int a1] (mo_ws g ad st) (mo_ws g ad r) none := by
  refine Ct.of (lv := [(0, .ref (ad 0)), (1, .int a1)]) (by decide) (Nat.le_of_ble_eq_true rfl) rfl (fun K hl fx hf => ?_)
  subst hl
  rw [f_X4_personItem] at h
  have B112 : ∀  (x18 : Int32) (x19 : Int32) (x20 : Int32) (w21 : StT), f_X4_personItem_b112 x18 x19 x20 w21 = some r → WA g K 4 0 0 112 [(0, .ref (ad 0)), (2, .int x18), (3, .int x19)] [.int x20, .ref (ad 0)] (mo_ws g ad w21) := by
    intro   x18 x19 x20 w21 h
    rw [f_X4_personItem_b112] at h
    refine wa_V (b := ad 0) (rmc := (rmh 4)) (As := [.int x20]) (st := []) (wc := (mo_ws g ad w21)) (wr := ([] : va_W)) (wcz := fun z22 => mo_ws g ad z22) (w2 := fun z22 => mo_ws g ad z22) (o := fun _ => none) (s2 := fun z22 => []) (ci := 4) (q0 := 0) fx mm_X4_must q_33_5 dX4_personItem_112 h (fun _ hz => c_X4_must hz) rfl rfl (rm_ok (by decide) (by decide)) ⟨Nat.zero_le _, Nat.zero_le _⟩ rfl (List.Perm.refl _) (fun _ => List.Perm.refl _) rfl (Nat.le_of_ble_eq_true rfl) (fun _ => rfl) (fun z22 h => ?_)
    refine wa_aload_n fx 0 dX4_personItem_115 rfl ?_
    refine wa_get (v := .ref (ad 1)) fx wm_X4 0 rfl rfl 0 (by decide) q_3_15 rfl rfl dX4_personItem_116 ?_
    refine wa_iload_n fx 1 dX4_personItem_119 rfl ?_
    refine wa_iconst fx (5 : Int32) dX4_personItem_120 (by decide) ?_
    refine wa_S (rmc := (rmh 1)) (As := [.int x18, .int (5 : Int32)]) (st := [.ref (ad 1)]) (wc := (no_ws ())) (wr := (mo_ws g ad z22)) (wcz := fun _ => (no_ws ())) (w2 := fun _ => (mo_ws g ad z22)) (o := fun z23 => some (.int z23)) (s2 := fun z23 => [.int z23, .ref (ad 1)]) fx mm_X4_spotOf q_6_14 dX4_personItem_121 h (fun _ hz => c_X4_spotOf hz) (rm_ok (by decide) (by decide)) ⟨Nat.zero_le _, Nat.zero_le _⟩ rfl (List.Perm.of_eq (List.append_nil _).symm) (fun _ => (List.Perm.of_eq (List.append_nil _).symm)) rfl (Nat.le_of_ble_eq_true rfl) (fun _ => rfl) (fun z23 h => ?_)
    refine wa_aload_n fx 0 dX4_personItem_124 rfl ?_
    refine wa_get (v := .int (z22.2.2 7)) fx wm_X4 0 rfl rfl 14 (by decide) q_30_22 rfl rfl dX4_personItem_125 ?_
    refine wa_if_eq fx 135 dX4_personItem_128 (by decide) h (fun h => ?_) (fun h => ?_)
    · refine wa_iload_n fx 2 dX4_personItem_135 rfl ?_
      refine wa_iast (mo_ws g ad) (f := z22.1 0) fx 1 rfl dX4_personItem_136 h rfl (fun w24 h => ?_)
      exact fn_v (mo_ws g ad) fx hf (Option.some.inj h) dX4_personItem_137
    · refine wa_iconst fx (-1 : Int32) dX4_personItem_131 (by decide) ?_
      refine wa_goto fx 136 dX4_personItem_132 (by decide) ?_
      refine wa_iast (mo_ws g ad) (f := z22.1 0) fx 1 rfl dX4_personItem_136 h rfl (fun w25 h => ?_)
      exact fn_v (mo_ws g ad) fx hf (Option.some.inj h) dX4_personItem_137
  have B111 : ∀  (x15 : Int32) (x16 : Int32) (w17 : StT), f_X4_personItem_b111 x15 x16 w17 = some r → WA g K 4 0 0 111 [(0, .ref (ad 0)), (2, .int x15), (3, .int x16)] [.ref (ad 0)] (mo_ws g ad w17) := by
    intro   x15 x16 w17 h
    rw [f_X4_personItem_b111] at h
    refine wa_iconst fx (0 : Int32) dX4_personItem_111 (by decide) ?_
    refine wa_sub [0, 1, 2] rfl ?_
    exact B112 x15 x16 (0 : Int32) w17 h
  have B17 : ∀  (x1 : Int32) (x2 : Int32) (w3 : StT), f_X4_personItem_b17 x1 x2 w3 = some r → WA g K 4 0 0 17 [(0, .ref (ad 0)), (1, .int x1)] [.int x2, .ref (ad 0)] (mo_ws g ad w3) := by
    intro   x1 x2 w3 h
    rw [f_X4_personItem_b17] at h
    refine wa_V (b := ad 0) (rmc := (rmh 4)) (As := [.int x2]) (st := []) (wc := (mo_ws g ad w3)) (wr := ([] : va_W)) (wcz := fun z4 => mo_ws g ad z4) (w2 := fun z4 => mo_ws g ad z4) (o := fun _ => none) (s2 := fun z4 => []) (ci := 4) (q0 := 0) fx mm_X4_must q_33_5 dX4_personItem_17 h (fun _ hz => c_X4_must hz) rfl rfl (rm_ok (by decide) (by decide)) ⟨Nat.zero_le _, Nat.zero_le _⟩ rfl (List.Perm.refl _) (fun _ => List.Perm.refl _) rfl (Nat.le_of_ble_eq_true rfl) (fun _ => rfl) (fun z4 h => ?_)
    refine wa_aload_n fx 0 dX4_personItem_20 rfl ?_
    refine wa_get (v := .int (z4.2.2 7)) fx wm_X4 0 rfl rfl 14 (by decide) q_30_22 rfl rfl dX4_personItem_21 ?_
    refine wa_if_eq fx 28 dX4_personItem_24 (by decide) h (fun h => ?_) (fun h => ?_)
    · refine wa_aload_n fx 0 dX4_personItem_28 rfl ?_
      refine wa_iload_n fx 1 dX4_personItem_29 rfl ?_
      refine wa_V (b := ad 0) (rmc := (rmh 2)) (As := [.int x1]) (st := []) (wc := (mo_ws g ad z4)) (wr := ([] : va_W)) (wcz := fun z5 => mo_ws g ad z5.2) (w2 := fun z5 => mo_ws g ad z5.2) (o := fun z5 => some (.int z5.1)) (s2 := fun z5 => [.int z5.1]) (ci := 4) (q0 := 0) fx mm_X4_adds q_7_15 dX4_personItem_30 h (fun _ hz => c_X4_adds hz) rfl rfl (rm_ok (by decide) (by decide)) ⟨Nat.zero_le _, Nat.zero_le _⟩ rfl (List.Perm.refl _) (fun _ => List.Perm.refl _) rfl (Nat.le_of_ble_eq_true rfl) (fun _ => rfl) (fun z5 h => ?_)
      refine wa_istore_nN fx (fun x6 => [(2, .int x6), (0, .ref (ad 0)), (1, .int x1)]) dX4_personItem_33 rfl (by decide) (fun _ => rfl) h (fun x6 h => ?_)
      refine wa_aload_n fx 1 dX4_personItem_34 rfl ?_
      refine wa_ldc2 fx q_33_2 dX4_personItem_35 ?_
      refine wa_iload_n fx 0 dX4_personItem_38 rfl ?_
      refine wa_iconst fx (1 : Int32) dX4_personItem_39 (by decide) ?_
      refine wa_S (rmc := (rmh 1)) (As := [.int x6, .int (1 : Int32)]) (st := [.long (26379859 : Int64), .ref (ad 0)]) (wc := (no_ws ())) (wr := (mo_ws g ad z5.2)) (wcz := fun _ => (no_ws ())) (w2 := fun _ => (mo_ws g ad z5.2)) (o := fun z7 => some (.int z7)) (s2 := fun z7 => [.int z7, .long (26379859 : Int64), .ref (ad 0)]) fx mm_X4_spotOf q_6_14 dX4_personItem_40 h (fun _ hz => c_X4_spotOf hz) (rm_ok (by decide) (by decide)) ⟨Nat.zero_le _, Nat.zero_le _⟩ rfl (List.Perm.of_eq (List.append_nil _).symm) (fun _ => (List.Perm.of_eq (List.append_nil _).symm)) rfl (Nat.le_of_ble_eq_true rfl) (fun _ => rfl) (fun z7 h => ?_)
      refine wa_bipush fx (99 : Int32) dX4_personItem_43 (by decide) ?_
      refine wa_V (b := ad 0) (rmc := (rmh 6)) (As := [.long (26379859 : Int64), .int z7, .int (99 : Int32)]) (st := []) (wc := (mo_ws g ad z5.2)) (wr := ([] : va_W)) (wcz := fun z8 => mo_ws g ad z8) (w2 := fun z8 => mo_ws g ad z8) (o := fun _ => none) (s2 := fun z8 => []) (ci := 4) (q0 := 0) fx mm_X4_partItem q_33_9 dX4_personItem_45 h (fun _ hz => c_X4_partItem hz) rfl rfl (rm_ok (by decide) (by decide)) ⟨Nat.zero_le _, Nat.zero_le _⟩ rfl (List.Perm.refl _) (fun _ => List.Perm.refl _) rfl (Nat.le_of_ble_eq_true rfl) (fun _ => rfl) (fun z8 h => ?_)
      refine wa_aload_n fx 1 dX4_personItem_48 rfl ?_
      refine wa_ldc2 fx q_33_3 dX4_personItem_49 ?_
      refine wa_iload_n fx 0 dX4_personItem_52 rfl ?_
      refine wa_iconst fx (2 : Int32) dX4_personItem_53 (by decide) ?_
      refine wa_S (rmc := (rmh 1)) (As := [.int x6, .int (2 : Int32)]) (st := [.long (113288627 : Int64), .ref (ad 0)]) (wc := (no_ws ())) (wr := (mo_ws g ad z8)) (wcz := fun _ => (no_ws ())) (w2 := fun _ => (mo_ws g ad z8)) (o := fun z9 => some (.int z9)) (s2 := fun z9 => [.int z9, .long (113288627 : Int64), .ref (ad 0)]) fx mm_X4_spotOf q_6_14 dX4_personItem_54 h (fun _ hz => c_X4_spotOf hz) (rm_ok (by decide) (by decide)) ⟨Nat.zero_le _, Nat.zero_le _⟩ rfl (List.Perm.of_eq (List.append_nil _).symm) (fun _ => (List.Perm.of_eq (List.append_nil _).symm)) rfl (Nat.le_of_ble_eq_true rfl) (fun _ => rfl) (fun z9 h => ?_)
      refine wa_bipush fx (7 : Int32) dX4_personItem_57 (by decide) ?_
      refine wa_V (b := ad 0) (rmc := (rmh 6)) (As := [.long (113288627 : Int64), .int z9, .int (7 : Int32)]) (st := []) (wc := (mo_ws g ad z8)) (wr := ([] : va_W)) (wcz := fun z10 => mo_ws g ad z10) (w2 := fun z10 => mo_ws g ad z10) (o := fun _ => none) (s2 := fun z10 => []) (ci := 4) (q0 := 0) fx mm_X4_partItem q_33_9 dX4_personItem_59 h (fun _ hz => c_X4_partItem hz) rfl rfl (rm_ok (by decide) (by decide)) ⟨Nat.zero_le _, Nat.zero_le _⟩ rfl (List.Perm.refl _) (fun _ => List.Perm.refl _) rfl (Nat.le_of_ble_eq_true rfl) (fun _ => rfl) (fun z10 h => ?_)
      refine wa_aload_n fx 1 dX4_personItem_62 rfl ?_
      refine wa_get (v := .int (z10.2.2 7)) fx wm_X4 0 rfl rfl 14 (by decide) q_30_22 rfl rfl dX4_personItem_63 ?_
      refine wa_if_ne fx 137 dX4_personItem_66 (by decide) h (fun h => ?_) (fun h => ?_)
      · refine wa_aload_n fx 1 dX4_personItem_69 rfl ?_
        refine wa_V (b := ad 0) (rmc := (rmh 3)) (As := []) (st := []) (wc := (mo_ws g ad z10)) (wr := ([] : va_W)) (wcz := fun _ => (mo_ws g ad z10)) (w2 := fun _ => (mo_ws g ad z10)) (o := fun z11 => some (.long z11)) (s2 := fun z11 => [.long z11]) (ci := 4) (q0 := 0) fx mm_X4_word q_32_16 dX4_personItem_70 h (fun _ hz => c_X4_word hz) rfl rfl (rm_ok (by decide) (by decide)) ⟨Nat.zero_le _, Nat.zero_le _⟩ rfl (List.Perm.refl _) (fun _ => (List.Perm.refl _)) rfl (Nat.le_of_ble_eq_true rfl) (fun _ => rfl) (fun z11 h => ?_)
        refine wa_ldc2 fx q_33_4 dX4_personItem_73 ?_
        refine wa_lcmp fx dX4_personItem_76 ?_
        refine wa_if_ne fx 137 dX4_personItem_77 (by decide) h (fun h => ?_) (fun h => ?_)
        · refine wa_aload_n fx 1 dX4_personItem_80 rfl ?_
          refine wa_iconst fx (1 : Int32) dX4_personItem_81 (by decide) ?_
          refine wa_V (b := ad 0) (rmc := (rmh 4)) (As := [.int (1 : Int32)]) (st := []) (wc := (mo_ws g ad z10)) (wr := ([] : va_W)) (wcz := fun z12 => mo_ws g ad z12) (w2 := fun z12 => mo_ws g ad z12) (o := fun _ => none) (s2 := fun z12 => []) (ci := 4) (q0 := 0) fx mm_X4_must q_33_5 dX4_personItem_82 h (fun _ hz => c_X4_must hz) rfl rfl (rm_ok (by decide) (by decide)) ⟨Nat.zero_le _, Nat.zero_le _⟩ rfl (List.Perm.refl _) (fun _ => List.Perm.refl _) rfl (Nat.le_of_ble_eq_true rfl) (fun _ => rfl) (fun z12 h => ?_)
          refine wa_aload_n fx 1 dX4_personItem_85 rfl ?_
          refine wa_V (b := ad 0) (rmc := (rmh 3)) (As := []) (st := []) (wc := (mo_ws g ad z12)) (wr := ([] : va_W)) (wcz := fun _ => (mo_ws g ad z12)) (w2 := fun _ => (mo_ws g ad z12)) (o := fun z13 => some (.int z13)) (s2 := fun z13 => [.int z13]) (ci := 4) (q0 := 0) fx mm_X4_peeked q_33_18 dX4_personItem_86 h (fun _ hz => c_X4_peeked hz) rfl rfl (rm_ok (by decide) (by decide)) ⟨Nat.zero_le _, Nat.zero_le _⟩ rfl (List.Perm.refl _) (fun _ => (List.Perm.refl _)) rfl (Nat.le_of_ble_eq_true rfl) (fun _ => rfl) (fun z13 h => ?_)
          refine wa_istore_n fx [(3, .int z13), (2, .int x6), (0, .ref (ad 0)), (1, .int x1)] dX4_personItem_89 rfl (by decide) rfl ?_
          refine wa_aload_n fx 2 dX4_personItem_90 rfl ?_
          refine wa_iload_n fx 0 dX4_personItem_91 rfl ?_
          refine wa_S (rmc := (rmh 2)) (As := [.int z13]) (st := [.ref (ad 0)]) (wc := (no_ws ())) (wr := (mo_ws g ad z12)) (wcz := fun _ => (no_ws ())) (w2 := fun _ => (mo_ws g ad z12)) (o := fun z14 => some (.int z14)) (s2 := fun z14 => [.int z14, .ref (ad 0)]) fx mm_X4_isChair q_5_8 dX4_personItem_92 h (fun _ hz => c_X4_isChair hz) (rm_ok (by decide) (by decide)) ⟨Nat.zero_le _, Nat.zero_le _⟩ rfl (List.Perm.of_eq (List.append_nil _).symm) (fun _ => (List.Perm.of_eq (List.append_nil _).symm)) rfl (Nat.le_of_ble_eq_true rfl) (fun _ => rfl) (fun z14 h => ?_)
          refine wa_if_eq fx 111 dX4_personItem_95 (by decide) h (fun h => ?_) (fun h => ?_)
          · refine wa_sub [2, 1, 0] rfl ?_
            exact B111 x6 z13 z12 h
          · refine wa_aload_n fx 2 dX4_personItem_98 rfl ?_
            refine wa_iload_n fx 0 dX4_personItem_99 rfl ?_
            refine wa_V (b := ad 0) (rmc := (rmh 3)) (As := [.int z13]) (st := [.ref (ad 0)]) (wc := (mo_ws g ad z12)) (wr := ([] : va_W)) (wcz := fun _ => (mo_ws g ad z12)) (w2 := fun _ => (mo_ws g ad z12)) (o := fun z26 => some (.int z26)) (s2 := fun z26 => [.int z26, .ref (ad 0)]) (ci := 4) (q0 := 0) fx mm_X4_whoIn q_6_6 dX4_personItem_100 h (fun _ hz => c_X4_whoIn hz) rfl rfl (rm_ok (by decide) (by decide)) ⟨Nat.zero_le _, Nat.zero_le _⟩ rfl (List.Perm.refl _) (fun _ => (List.Perm.refl _)) rfl (Nat.le_of_ble_eq_true rfl) (fun _ => rfl) (fun z26 h => ?_)
            refine wa_iconst fx (-1 : Int32) dX4_personItem_103 (by decide) ?_
            refine wa_icmp_ne fx 111 dX4_personItem_104 (by decide) h (fun h => ?_) (fun h => ?_)
            · refine wa_iconst fx (1 : Int32) dX4_personItem_107 (by decide) ?_
              refine wa_goto fx 112 dX4_personItem_108 (by decide) ?_
              refine wa_sub [2, 1, 0] rfl ?_
              exact B112 x6 z13 (1 : Int32) z12 h
            · refine wa_sub [2, 1, 0] rfl ?_
              exact B111 x6 z13 z12 h
        · exact fn_v (mo_ws g ad) fx hf (Option.some.inj h) dX4_personItem_137
      · exact fn_v (mo_ws g ad) fx hf (Option.some.inj h) dX4_personItem_137
    · exact fn_v (mo_ws g ad) fx hf (Option.some.inj h) dX4_personItem_27
  refine wa_aload_n fx 0 dX4_personItem_0 rfl ?_
  refine wa_aload_n fx 0 dX4_personItem_1 rfl ?_
  refine wa_get (v := .ref (ad 1)) fx wm_X4 0 rfl rfl 0 (by decide) q_3_15 rfl rfl dX4_personItem_2 ?_
  refine wa_iconst fx (0 : Int32) dX4_personItem_5 (by decide) ?_
  refine wa_iald (f := st.1 0) fx 1 rfl dX4_personItem_6 h (fun h => ?_)
  refine wa_bipush fx (8 : Int32) dX4_personItem_7 (by decide) ?_
  refine wa_icmp_ge fx 16 dX4_personItem_9 (by decide) h (fun h => ?_) (fun h => ?_)
  · refine wa_iconst fx (0 : Int32) dX4_personItem_16 (by decide) ?_
    refine wa_sub [0, 1] rfl ?_
    exact B17 a1 (0 : Int32) st h
  · refine wa_iconst fx (1 : Int32) dX4_personItem_12 (by decide) ?_
    refine wa_goto fx 17 dX4_personItem_13 (by decide) ?_
    refine wa_sub [0, 1] rfl ?_
    exact B17 a1 (1 : Int32) st h
def f_X4_chairItem_b27 (x3 : Int32) (w4 : StT) : Option ((StT)) := Option.bind (f_X4_chairAt x3 (0 : Int32)) fun z5 => Option.bind (f_X4_partItem w4 (730295 : Int64) z5 (20 : Int32)) fun z6 => Option.bind (f_X4_chairAt x3 (1 : Int32)) fun z7 => Option.bind (f_X4_partItem z6 (4900691220 : Int64) z7 (9 : Int32)) fun z8 => some z8
def f_X4_chairItem  (st : StT) : Option ((StT)) := Option.bind (f_X4_must st (1 : Int32)) fun z1 => Option.bind (f_X4_number z1 (0 : Int32) (7 : Int32)) fun z2 => if (z2.2.2 7) = 0 then (f_X4_chairItem_b27 (z2.2.2 6) z2) else (f_X4_chairItem_b27 (0 : Int32) z2)
set_option maxHeartbeats 4000000 in
set_option maxRecDepth 100000 in
theorem c_X4_chairItem {g : GT} {l : Launch} {ad : Nat → Nat}   {st : StT} {r : (StT)} (h : f_X4_chairItem st = some r) : Ct g l yX4_chairItem (wd yX4_chairItem cX4_chairItem 2 none) (rmh 7) [.ref (ad 0)] (mo_ws g ad st) (mo_ws g ad r) none := by
  refine Ct.of (lv := [(0, .ref (ad 0))]) (by decide) (Nat.le_of_ble_eq_true rfl) rfl (fun K hl fx hf => ?_)
  subst hl
  rw [f_X4_chairItem] at h
  have B27 : ∀  (x3 : Int32) (w4 : StT), f_X4_chairItem_b27 x3 w4 = some r → WA g K 2 0 0 27 [(0, .ref (ad 0))] [.int x3] (mo_ws g ad w4) := by
    intro   x3 w4 h
    rw [f_X4_chairItem_b27] at h
    refine wa_istore_n fx [(1, .int x3), (0, .ref (ad 0))] dX4_chairItem_27 rfl (by decide) rfl ?_
    refine wa_aload_n fx 1 dX4_chairItem_28 rfl ?_
    refine wa_ldc2 fx q_34_2 dX4_chairItem_29 ?_
    refine wa_iload_n fx 0 dX4_chairItem_32 rfl ?_
    refine wa_iconst fx (0 : Int32) dX4_chairItem_33 (by decide) ?_
    refine wa_S (rmc := (rmh 1)) (As := [.int x3, .int (0 : Int32)]) (st := [.long (730295 : Int64), .ref (ad 0)]) (wc := (no_ws ())) (wr := (mo_ws g ad w4)) (wcz := fun _ => (no_ws ())) (w2 := fun _ => (mo_ws g ad w4)) (o := fun z5 => some (.int z5)) (s2 := fun z5 => [.int z5, .long (730295 : Int64), .ref (ad 0)]) fx mm_X4_chairAt q_4_2 dX4_chairItem_34 h (fun _ hz => c_X4_chairAt hz) (rm_ok (by decide) (by decide)) ⟨Nat.zero_le _, Nat.zero_le _⟩ rfl (List.Perm.of_eq (List.append_nil _).symm) (fun _ => (List.Perm.of_eq (List.append_nil _).symm)) rfl (Nat.le_of_ble_eq_true rfl) (fun _ => rfl) (fun z5 h => ?_)
    refine wa_bipush fx (20 : Int32) dX4_chairItem_37 (by decide) ?_
    refine wa_V (b := ad 0) (rmc := (rmh 6)) (As := [.long (730295 : Int64), .int z5, .int (20 : Int32)]) (st := []) (wc := (mo_ws g ad w4)) (wr := ([] : va_W)) (wcz := fun z6 => mo_ws g ad z6) (w2 := fun z6 => mo_ws g ad z6) (o := fun _ => none) (s2 := fun z6 => []) (ci := 4) (q0 := 0) fx mm_X4_partItem q_33_9 dX4_chairItem_39 h (fun _ hz => c_X4_partItem hz) rfl rfl (rm_ok (by decide) (by decide)) ⟨Nat.zero_le _, Nat.zero_le _⟩ rfl (List.Perm.refl _) (fun _ => List.Perm.refl _) rfl (Nat.le_of_ble_eq_true rfl) (fun _ => rfl) (fun z6 h => ?_)
    refine wa_aload_n fx 1 dX4_chairItem_42 rfl ?_
    refine wa_ldc2 fx q_34_3 dX4_chairItem_43 ?_
    refine wa_iload_n fx 0 dX4_chairItem_46 rfl ?_
    refine wa_iconst fx (1 : Int32) dX4_chairItem_47 (by decide) ?_
    refine wa_S (rmc := (rmh 1)) (As := [.int x3, .int (1 : Int32)]) (st := [.long (4900691220 : Int64), .ref (ad 0)]) (wc := (no_ws ())) (wr := (mo_ws g ad z6)) (wcz := fun _ => (no_ws ())) (w2 := fun _ => (mo_ws g ad z6)) (o := fun z7 => some (.int z7)) (s2 := fun z7 => [.int z7, .long (4900691220 : Int64), .ref (ad 0)]) fx mm_X4_chairAt q_4_2 dX4_chairItem_48 h (fun _ hz => c_X4_chairAt hz) (rm_ok (by decide) (by decide)) ⟨Nat.zero_le _, Nat.zero_le _⟩ rfl (List.Perm.of_eq (List.append_nil _).symm) (fun _ => (List.Perm.of_eq (List.append_nil _).symm)) rfl (Nat.le_of_ble_eq_true rfl) (fun _ => rfl) (fun z7 h => ?_)
    refine wa_bipush fx (9 : Int32) dX4_chairItem_51 (by decide) ?_
    refine wa_V (b := ad 0) (rmc := (rmh 6)) (As := [.long (4900691220 : Int64), .int z7, .int (9 : Int32)]) (st := []) (wc := (mo_ws g ad z6)) (wr := ([] : va_W)) (wcz := fun z8 => mo_ws g ad z8) (w2 := fun z8 => mo_ws g ad z8) (o := fun _ => none) (s2 := fun z8 => []) (ci := 4) (q0 := 0) fx mm_X4_partItem q_33_9 dX4_chairItem_53 h (fun _ hz => c_X4_partItem hz) rfl rfl (rm_ok (by decide) (by decide)) ⟨Nat.zero_le _, Nat.zero_le _⟩ rfl (List.Perm.refl _) (fun _ => List.Perm.refl _) rfl (Nat.le_of_ble_eq_true rfl) (fun _ => rfl) (fun z8 h => ?_)
    exact fn_v (mo_ws g ad) fx hf (Option.some.inj h) dX4_chairItem_56
  refine wa_aload_n fx 0 dX4_chairItem_0 rfl ?_
  refine wa_iconst fx (1 : Int32) dX4_chairItem_1 (by decide) ?_
  refine wa_V (b := ad 0) (rmc := (rmh 4)) (As := [.int (1 : Int32)]) (st := []) (wc := (mo_ws g ad st)) (wr := ([] : va_W)) (wcz := fun z1 => mo_ws g ad z1) (w2 := fun z1 => mo_ws g ad z1) (o := fun _ => none) (s2 := fun z1 => []) (ci := 4) (q0 := 0) fx mm_X4_must q_33_5 dX4_chairItem_2 h (fun _ hz => c_X4_must hz) rfl rfl (rm_ok (by decide) (by decide)) ⟨Nat.zero_le _, Nat.zero_le _⟩ rfl (List.Perm.refl _) (fun _ => List.Perm.refl _) rfl (Nat.le_of_ble_eq_true rfl) (fun _ => rfl) (fun z1 h => ?_)
  refine wa_aload_n fx 0 dX4_chairItem_5 rfl ?_
  refine wa_iconst fx (0 : Int32) dX4_chairItem_6 (by decide) ?_
  refine wa_bipush fx (7 : Int32) dX4_chairItem_7 (by decide) ?_
  refine wa_V (b := ad 0) (rmc := (rmh 5)) (As := [.int (0 : Int32), .int (7 : Int32)]) (st := []) (wc := (mo_ws g ad z1)) (wr := ([] : va_W)) (wcz := fun z2 => mo_ws g ad z2) (w2 := fun z2 => mo_ws g ad z2) (o := fun _ => none) (s2 := fun z2 => []) (ci := 4) (q0 := 0) fx mm_X4_number q_33_14 dX4_chairItem_9 h (fun _ hz => c_X4_number hz) rfl rfl (rm_ok (by decide) (by decide)) ⟨Nat.zero_le _, Nat.zero_le _⟩ rfl (List.Perm.refl _) (fun _ => List.Perm.refl _) rfl (Nat.le_of_ble_eq_true rfl) (fun _ => rfl) (fun z2 h => ?_)
  refine wa_aload_n fx 0 dX4_chairItem_12 rfl ?_
  refine wa_get (v := .int (z2.2.2 7)) fx wm_X4 0 rfl rfl 14 (by decide) q_30_22 rfl rfl dX4_chairItem_13 ?_
  refine wa_if_eq fx 23 dX4_chairItem_16 (by decide) h (fun h => ?_) (fun h => ?_)
  · refine wa_aload_n fx 0 dX4_chairItem_23 rfl ?_
    refine wa_get (v := .int (z2.2.2 6)) fx wm_X4 0 rfl rfl 13 (by decide) q_33_13 rfl rfl dX4_chairItem_24 ?_
    refine wa_sub [0] rfl ?_
    exact B27 (z2.2.2 6) z2 h
  · refine wa_iconst fx (0 : Int32) dX4_chairItem_19 (by decide) ?_
    refine wa_goto fx 27 dX4_chairItem_20 (by decide) ?_
    refine wa_sub [0] rfl ?_
    exact B27 (0 : Int32) z2 h
def f_X4_item_b118 (x21 : Int32) (x22 : Int32) (x23 : Int32) (x24 : Int32) (w25 : StT) : Option ((StT)) := Option.bind (f_X4_must w25 x24) fun z26 => if (z26.2.2 7) = 0 then (Option.bind (f_X4_quarrels z26 x22 x23 x21) fun z27 => some z27) else (some z26)
def f_X4_item_b117 (x17 : Int32) (x18 : Int32) (x19 : Int32) (w20 : StT) : Option ((StT)) := f_X4_item_b118 x17 x18 x19 (0 : Int32) w20
def f_X4_item_b71 (x8 : Int32) (x9 : Int32) (w10 : StT) : Option ((StT)) := Option.bind (f_X4_must w10 x9) fun z11 => Option.bind (f_X4_peeked z11) fun z12 => Option.bind (f_X4_isPerson z11 z12) fun z13 => Option.bind (f_X4_must z11 z13) fun z14 => Option.bind (f_X4_peeked z14) fun z15 => Option.bind (f_X4_isPerson z14 z15) fun z16 => if z16 = 0 then (f_X4_item_b117 x8 z12 z15 z14) else (if z12 = z15 then (f_X4_item_b117 x8 z12 z15 z14) else (f_X4_item_b118 x8 z12 z15 (1 : Int32) z14))
def f_X4_item_b66 (x6 : Int32) (w7 : StT) : Option ((StT)) := f_X4_item_b71 x6 (1 : Int32) w7
def f_X4_item_b50 (x3 : Int64) (x4 : Int32) (w5 : StT) : Option ((StT)) := if x4 = 0 then (if (lg_cmp x3 (16942181 : Int64)) = 0 then (f_X4_item_b66 x4 w5) else (f_X4_item_b71 x4 (0 : Int32) w5)) else (f_X4_item_b66 x4 w5)
def f_X4_item  (st : StT) : Option ((StT)) := Option.bind (f_X4_kindHere st) fun z1 => Option.bind (f_X4_word st) fun z2 => if z1 < 0 then (if (lg_cmp z2 (3409202 : Int64)) = 0 then (Option.bind (f_X4_chairItem st) fun z28 => some z28) else (if (lg_cmp z2 (18959911084 : Int64)) = 0 then (f_X4_item_b50 z2 (1 : Int32) st) else (f_X4_item_b50 z2 (0 : Int32) st))) else (Option.bind (f_X4_personItem st z1) fun z29 => some z29)
set_option maxHeartbeats 4000000 in
set_option maxRecDepth 100000 in
theorem c_X4_item {g : GT} {l : Launch} {ad : Nat → Nat}   {st : StT} {r : (StT)} (h : f_X4_item st = some r) : Ct g l yX4_item (wd yX4_item cX4_item 7 none) (rmh 8) [.ref (ad 0)] (mo_ws g ad st) (mo_ws g ad r) none := by
  refine Ct.of (lv := [(0, .ref (ad 0))]) (by decide) (Nat.le_of_ble_eq_true rfl) rfl (fun K hl fx hf => ?_)
  subst hl
  rw [f_X4_item] at h
  have B118 : ∀  (x21 : Int32) (x22 : Int32) (x23 : Int32) (x24 : Int32) (w25 : StT), f_X4_item_b118 x21 x22 x23 x24 w25 = some r → WA g K 7 0 0 118 [(0, .ref (ad 0)), (4, .int x21), (5, .int x22), (6, .int x23)] [.int x24, .ref (ad 0)] (mo_ws g ad w25) := by
    intro   x21 x22 x23 x24 w25 h
    rw [f_X4_item_b118] at h
    refine wa_V (b := ad 0) (rmc := (rmh 4)) (As := [.int x24]) (st := []) (wc := (mo_ws g ad w25)) (wr := ([] : va_W)) (wcz := fun z26 => mo_ws g ad z26) (w2 := fun z26 => mo_ws g ad z26) (o := fun _ => none) (s2 := fun z26 => []) (ci := 4) (q0 := 0) fx mm_X4_must q_33_5 dX4_item_118 h (fun _ hz => c_X4_must hz) rfl rfl (rm_ok (by decide) (by decide)) ⟨Nat.zero_le _, Nat.zero_le _⟩ rfl (List.Perm.refl _) (fun _ => List.Perm.refl _) rfl (Nat.le_of_ble_eq_true rfl) (fun _ => rfl) (fun z26 h => ?_)
    refine wa_aload_n fx 0 dX4_item_121 rfl ?_
    refine wa_get (v := .int (z26.2.2 7)) fx wm_X4 0 rfl rfl 14 (by decide) q_30_22 rfl rfl dX4_item_122 ?_
    refine wa_if_ne fx 138 dX4_item_125 (by decide) h (fun h => ?_) (fun h => ?_)
    · refine wa_aload_n fx 0 dX4_item_128 rfl ?_
      refine wa_iload fx 2 dX4_item_129 rfl ?_
      refine wa_iload fx 3 dX4_item_131 rfl ?_
      refine wa_iload fx 1 dX4_item_133 rfl ?_
      refine wa_V (b := ad 0) (rmc := (rmh 2)) (As := [.int x22, .int x23, .int x21]) (st := []) (wc := (mo_ws g ad z26)) (wr := ([] : va_W)) (wcz := fun z27 => mo_ws g ad z27) (w2 := fun z27 => mo_ws g ad z27) (o := fun _ => none) (s2 := fun z27 => []) (ci := 4) (q0 := 0) fx mm_X4_quarrels q_12_0 dX4_item_135 h (fun _ hz => c_X4_quarrels hz) rfl rfl (rm_ok (by decide) (by decide)) ⟨Nat.zero_le _, Nat.zero_le _⟩ rfl (List.Perm.refl _) (fun _ => List.Perm.refl _) rfl (Nat.le_of_ble_eq_true rfl) (fun _ => rfl) (fun z27 h => ?_)
      exact fn_v (mo_ws g ad) fx hf (Option.some.inj h) dX4_item_138
    · exact fn_v (mo_ws g ad) fx hf (Option.some.inj h) dX4_item_138
  have B117 : ∀  (x17 : Int32) (x18 : Int32) (x19 : Int32) (w20 : StT), f_X4_item_b117 x17 x18 x19 w20 = some r → WA g K 7 0 0 117 [(0, .ref (ad 0)), (4, .int x17), (5, .int x18), (6, .int x19)] [.ref (ad 0)] (mo_ws g ad w20) := by
    intro   x17 x18 x19 w20 h
    rw [f_X4_item_b117] at h
    refine wa_iconst fx (0 : Int32) dX4_item_117 (by decide) ?_
    refine wa_sub [0, 1, 2, 3] rfl ?_
    exact B118 x17 x18 x19 (0 : Int32) w20 h
  have B71 : ∀  (x8 : Int32) (x9 : Int32) (w10 : StT), f_X4_item_b71 x8 x9 w10 = some r → WA g K 7 0 0 71 [(0, .ref (ad 0)), (4, .int x8)] [.int x9, .ref (ad 0)] (mo_ws g ad w10) := by
    intro   x8 x9 w10 h
    rw [f_X4_item_b71] at h
    refine wa_V (b := ad 0) (rmc := (rmh 4)) (As := [.int x9]) (st := []) (wc := (mo_ws g ad w10)) (wr := ([] : va_W)) (wcz := fun z11 => mo_ws g ad z11) (w2 := fun z11 => mo_ws g ad z11) (o := fun _ => none) (s2 := fun z11 => []) (ci := 4) (q0 := 0) fx mm_X4_must q_33_5 dX4_item_71 h (fun _ hz => c_X4_must hz) rfl rfl (rm_ok (by decide) (by decide)) ⟨Nat.zero_le _, Nat.zero_le _⟩ rfl (List.Perm.refl _) (fun _ => List.Perm.refl _) rfl (Nat.le_of_ble_eq_true rfl) (fun _ => rfl) (fun z11 h => ?_)
    refine wa_aload_n fx 0 dX4_item_74 rfl ?_
    refine wa_V (b := ad 0) (rmc := (rmh 3)) (As := []) (st := []) (wc := (mo_ws g ad z11)) (wr := ([] : va_W)) (wcz := fun _ => (mo_ws g ad z11)) (w2 := fun _ => (mo_ws g ad z11)) (o := fun z12 => some (.int z12)) (s2 := fun z12 => [.int z12]) (ci := 4) (q0 := 0) fx mm_X4_peeked q_33_18 dX4_item_75 h (fun _ hz => c_X4_peeked hz) rfl rfl (rm_ok (by decide) (by decide)) ⟨Nat.zero_le _, Nat.zero_le _⟩ rfl (List.Perm.refl _) (fun _ => (List.Perm.refl _)) rfl (Nat.le_of_ble_eq_true rfl) (fun _ => rfl) (fun z12 h => ?_)
    refine wa_istore fx [(5, .int z12), (0, .ref (ad 0)), (4, .int x8)] dX4_item_78 (by decide) rfl ?_
    refine wa_aload_n fx 1 dX4_item_80 rfl ?_
    refine wa_aload_n fx 1 dX4_item_81 rfl ?_
    refine wa_iload fx 0 dX4_item_82 rfl ?_
    refine wa_V (b := ad 0) (rmc := (rmh 2)) (As := [.int z12]) (st := [.ref (ad 0)]) (wc := (mo_ws g ad z11)) (wr := ([] : va_W)) (wcz := fun _ => (mo_ws g ad z11)) (w2 := fun _ => (mo_ws g ad z11)) (o := fun z13 => some (.int z13)) (s2 := fun z13 => [.int z13, .ref (ad 0)]) (ci := 4) (q0 := 0) fx mm_X4_isPerson q_8_18 dX4_item_84 h (fun _ hz => c_X4_isPerson hz) rfl rfl (rm_ok (by decide) (by decide)) ⟨Nat.zero_le _, Nat.zero_le _⟩ rfl (List.Perm.refl _) (fun _ => (List.Perm.refl _)) rfl (Nat.le_of_ble_eq_true rfl) (fun _ => rfl) (fun z13 h => ?_)
    refine wa_V (b := ad 0) (rmc := (rmh 4)) (As := [.int z13]) (st := []) (wc := (mo_ws g ad z11)) (wr := ([] : va_W)) (wcz := fun z14 => mo_ws g ad z14) (w2 := fun z14 => mo_ws g ad z14) (o := fun _ => none) (s2 := fun z14 => []) (ci := 4) (q0 := 0) fx mm_X4_must q_33_5 dX4_item_87 h (fun _ hz => c_X4_must hz) rfl rfl (rm_ok (by decide) (by decide)) ⟨Nat.zero_le _, Nat.zero_le _⟩ rfl (List.Perm.refl _) (fun _ => List.Perm.refl _) rfl (Nat.le_of_ble_eq_true rfl) (fun _ => rfl) (fun z14 h => ?_)
    refine wa_aload_n fx 1 dX4_item_90 rfl ?_
    refine wa_V (b := ad 0) (rmc := (rmh 3)) (As := []) (st := []) (wc := (mo_ws g ad z14)) (wr := ([] : va_W)) (wcz := fun _ => (mo_ws g ad z14)) (w2 := fun _ => (mo_ws g ad z14)) (o := fun z15 => some (.int z15)) (s2 := fun z15 => [.int z15]) (ci := 4) (q0 := 0) fx mm_X4_peeked q_33_18 dX4_item_91 h (fun _ hz => c_X4_peeked hz) rfl rfl (rm_ok (by decide) (by decide)) ⟨Nat.zero_le _, Nat.zero_le _⟩ rfl (List.Perm.refl _) (fun _ => (List.Perm.refl _)) rfl (Nat.le_of_ble_eq_true rfl) (fun _ => rfl) (fun z15 h => ?_)
    refine wa_istore fx [(6, .int z15), (5, .int z12), (0, .ref (ad 0)), (4, .int x8)] dX4_item_94 (by decide) rfl ?_
    refine wa_aload_n fx 2 dX4_item_96 rfl ?_
    refine wa_aload_n fx 2 dX4_item_97 rfl ?_
    refine wa_iload fx 0 dX4_item_98 rfl ?_
    refine wa_V (b := ad 0) (rmc := (rmh 2)) (As := [.int z15]) (st := [.ref (ad 0)]) (wc := (mo_ws g ad z14)) (wr := ([] : va_W)) (wcz := fun _ => (mo_ws g ad z14)) (w2 := fun _ => (mo_ws g ad z14)) (o := fun z16 => some (.int z16)) (s2 := fun z16 => [.int z16, .ref (ad 0)]) (ci := 4) (q0 := 0) fx mm_X4_isPerson q_8_18 dX4_item_100 h (fun _ hz => c_X4_isPerson hz) rfl rfl (rm_ok (by decide) (by decide)) ⟨Nat.zero_le _, Nat.zero_le _⟩ rfl (List.Perm.refl _) (fun _ => (List.Perm.refl _)) rfl (Nat.le_of_ble_eq_true rfl) (fun _ => rfl) (fun z16 h => ?_)
    refine wa_if_eq fx 117 dX4_item_103 (by decide) h (fun h => ?_) (fun h => ?_)
    · refine wa_sub [2, 3, 1, 0] rfl ?_
      exact B117 x8 z12 z15 z14 h
    · refine wa_iload fx 1 dX4_item_106 rfl ?_
      refine wa_iload fx 0 dX4_item_108 rfl ?_
      refine wa_icmp_eq fx 117 dX4_item_110 (by decide) h (fun h => ?_) (fun h => ?_)
      · refine wa_sub [2, 3, 1, 0] rfl ?_
        exact B117 x8 z12 z15 z14 h
      · refine wa_iconst fx (1 : Int32) dX4_item_113 (by decide) ?_
        refine wa_goto fx 118 dX4_item_114 (by decide) ?_
        refine wa_sub [2, 3, 1, 0] rfl ?_
        exact B118 x8 z12 z15 (1 : Int32) z14 h
  have B66 : ∀  (x6 : Int32) (w7 : StT), f_X4_item_b66 x6 w7 = some r → WA g K 7 0 0 66 [(0, .ref (ad 0)), (4, .int x6)] [.ref (ad 0)] (mo_ws g ad w7) := by
    intro   x6 w7 h
    rw [f_X4_item_b66] at h
    refine wa_iconst fx (1 : Int32) dX4_item_66 (by decide) ?_
    refine wa_goto fx 71 dX4_item_67 (by decide) ?_
    refine wa_sub [0, 1] rfl ?_
    exact B71 x6 (1 : Int32) w7 h
  have B50 : ∀  (x3 : Int64) (x4 : Int32) (w5 : StT), f_X4_item_b50 x3 x4 w5 = some r → WA g K 7 0 0 50 [(0, .ref (ad 0)), (2, .long x3)] [.int x4] (mo_ws g ad w5) := by
    intro   x3 x4 w5 h
    rw [f_X4_item_b50] at h
    refine wa_istore fx [(4, .int x4), (0, .ref (ad 0)), (2, .long x3)] dX4_item_50 (by decide) rfl ?_
    refine wa_aload_n fx 1 dX4_item_52 rfl ?_
    refine wa_iload fx 0 dX4_item_53 rfl ?_
    refine wa_if_ne fx 66 dX4_item_55 (by decide) h (fun h => ?_) (fun h => ?_)
    · refine wa_lload_n fx 2 dX4_item_58 rfl ?_
      refine wa_ldc2 fx q_32_5 dX4_item_59 ?_
      refine wa_lcmp fx dX4_item_62 ?_
      refine wa_if_ne fx 70 dX4_item_63 (by decide) h (fun h => ?_) (fun h => ?_)
      · refine wa_sub [1, 0] rfl ?_
        exact B66 x4 w5 h
      · refine wa_iconst fx (0 : Int32) dX4_item_70 (by decide) ?_
        refine wa_sub [1, 0] rfl ?_
        exact B71 x4 (0 : Int32) w5 h
    · refine wa_sub [1, 0] rfl ?_
      exact B66 x4 w5 h
  refine wa_aload_n fx 0 dX4_item_0 rfl ?_
  refine wa_V (b := ad 0) (rmc := (rmh 4)) (As := []) (st := []) (wc := (mo_ws g ad st)) (wr := ([] : va_W)) (wcz := fun _ => (mo_ws g ad st)) (w2 := fun _ => (mo_ws g ad st)) (o := fun z1 => some (.int z1)) (s2 := fun z1 => [.int z1]) (ci := 4) (q0 := 0) fx mm_X4_kindHere q_32_6 dX4_item_1 h (fun _ hz => c_X4_kindHere hz) rfl rfl (rm_ok (by decide) (by decide)) ⟨Nat.zero_le _, Nat.zero_le _⟩ rfl (List.Perm.refl _) (fun _ => (List.Perm.refl _)) rfl (Nat.le_of_ble_eq_true rfl) (fun _ => rfl) (fun z1 h => ?_)
  refine wa_istore_n fx [(1, .int z1), (0, .ref (ad 0))] dX4_item_4 rfl (by decide) rfl ?_
  refine wa_aload_n fx 1 dX4_item_5 rfl ?_
  refine wa_V (b := ad 0) (rmc := (rmh 3)) (As := []) (st := []) (wc := (mo_ws g ad st)) (wr := ([] : va_W)) (wcz := fun _ => (mo_ws g ad st)) (w2 := fun _ => (mo_ws g ad st)) (o := fun z2 => some (.long z2)) (s2 := fun z2 => [.long z2]) (ci := 4) (q0 := 0) fx mm_X4_word q_32_16 dX4_item_6 h (fun _ hz => c_X4_word hz) rfl rfl (rm_ok (by decide) (by decide)) ⟨Nat.zero_le _, Nat.zero_le _⟩ rfl (List.Perm.refl _) (fun _ => (List.Perm.refl _)) rfl (Nat.le_of_ble_eq_true rfl) (fun _ => rfl) (fun z2 h => ?_)
  refine wa_lstore_n fx [(2, .long z2), (1, .int z1), (0, .ref (ad 0))] dX4_item_9 rfl (by decide) rfl ?_
  refine wa_iload_n fx 1 dX4_item_10 rfl ?_
  refine wa_if_lt fx 22 dX4_item_11 (by decide) h (fun h => ?_) (fun h => ?_)
  · refine wa_lload_n fx 0 dX4_item_22 rfl ?_
    refine wa_ldc2 fx q_32_3 dX4_item_23 ?_
    refine wa_lcmp fx dX4_item_26 ?_
    refine wa_if_ne fx 37 dX4_item_27 (by decide) h (fun h => ?_) (fun h => ?_)
    · refine wa_aload_n fx 2 dX4_item_30 rfl ?_
      refine wa_V (b := ad 0) (rmc := (rmh 7)) (As := []) (st := []) (wc := (mo_ws g ad st)) (wr := ([] : va_W)) (wcz := fun z28 => mo_ws g ad z28) (w2 := fun z28 => mo_ws g ad z28) (o := fun _ => none) (s2 := fun z28 => []) (ci := 4) (q0 := 0) fx mm_X4_chairItem q_33_22 dX4_item_31 h (fun _ hz => c_X4_chairItem hz) rfl rfl (rm_ok (by decide) (by decide)) ⟨Nat.zero_le _, Nat.zero_le _⟩ rfl (List.Perm.refl _) (fun _ => List.Perm.refl _) rfl (Nat.le_of_ble_eq_true rfl) (fun _ => rfl) (fun z28 h => ?_)
      refine wa_goto fx 138 dX4_item_34 (by decide) ?_
      exact fn_v (mo_ws g ad) fx hf (Option.some.inj h) dX4_item_138
    · refine wa_lload_n fx 0 dX4_item_37 rfl ?_
      refine wa_ldc2 fx q_32_4 dX4_item_38 ?_
      refine wa_lcmp fx dX4_item_41 ?_
      refine wa_if_ne fx 49 dX4_item_42 (by decide) h (fun h => ?_) (fun h => ?_)
      · refine wa_iconst fx (1 : Int32) dX4_item_45 (by decide) ?_
        refine wa_goto fx 50 dX4_item_46 (by decide) ?_
        refine wa_sub [2, 0] rfl ?_
        exact B50 z2 (1 : Int32) st h
      · refine wa_iconst fx (0 : Int32) dX4_item_49 (by decide) ?_
        refine wa_sub [2, 0] rfl ?_
        exact B50 z2 (0 : Int32) st h
  · refine wa_aload_n fx 2 dX4_item_14 rfl ?_
    refine wa_iload_n fx 1 dX4_item_15 rfl ?_
    refine wa_V (b := ad 0) (rmc := (rmh 7)) (As := [.int z1]) (st := []) (wc := (mo_ws g ad st)) (wr := ([] : va_W)) (wcz := fun z29 => mo_ws g ad z29) (w2 := fun z29 => mo_ws g ad z29) (o := fun _ => none) (s2 := fun z29 => []) (ci := 4) (q0 := 0) fx mm_X4_personItem q_32_22 dX4_item_16 h (fun _ hz => c_X4_personItem hz) rfl rfl (rm_ok (by decide) (by decide)) ⟨Nat.zero_le _, Nat.zero_le _⟩ rfl (List.Perm.refl _) (fun _ => List.Perm.refl _) rfl (Nat.le_of_ble_eq_true rfl) (fun _ => rfl) (fun z29 h => ?_)
    refine wa_goto fx 138 dX4_item_19 (by decide) ?_
    exact fn_v (mo_ws g ad) fx hf (Option.some.inj h) dX4_item_138
def f_X4_room_b97 (x18 : Int32) (w19 : StT) : Option (Int32 × (StT)) := nm (setF w19 3 (0 : Int32)) fun w20 => if (w20.2.2 7) = 0 then (some (x18, w20)) else (some (((-1 : Int32) - (w20.2.2 4)), w20))
def f_X4_room_b83 (x14 : Int32) (x15 : Int32) (w16 : StT) : Option (Int32 × (StT)) := ckb x15 (nm (setF w16 7 x15) fun w17 => if (w17.2.2 7) = 0 then (f_X4_room_b97 x14 w17) else (Option.bind (f_X4_putsBack w17) fun z21 => f_X4_room_b97 x14 z21))
def f_X4_room_b78 (x12 : Int32) (w13 : StT) : Option (Int32 × (StT)) := f_X4_room_b83 x12 (1 : Int32) w13
def f_X4_room_b59 (x10 : Int32) (w11 : StT) : Option (Int32 × (StT)) := if (w11.2.2 7) = 0 then (if (w11.2.2 3) ≤ (w11.2.2 4) then (f_X4_room_b83 x10 (0 : Int32) w11) else (f_X4_room_b78 x10 w11)) else (f_X4_room_b78 x10 w11)
def f_X4_room_l24 : Nat → (Int32) → (StT) → Option (Int32 × (StT))
  | 0, _, _ => none
  | n + 1, x8, w9 => if (w9.2.2 7) = 0 then (Option.bind (f_X4_byteAt w9 (w9.2.2 4)) fun z22 => if z22 = (59 : Int32) then (Option.bind (f_X4_must w9 (1 : Int32)) fun z23 => Option.bind (f_X4_item z23) fun z24 => nm (x8 + (1 : Int32)) fun x25 => (f_X4_room_l24 n) x25 z24) else (f_X4_room_b59 x8 w9)) else (f_X4_room_b59 x8 w9)
def f_X4_room  (st : StT) : Option (Int32 × (StT)) := Option.bind (f_X4_saves st) fun z1 => nm (setF z1 7 (0 : Int32)) fun w2 => nm (setF w2 5 (0 : Int32)) fun w3 => Option.bind (f_X4_token w3) fun z4 => Option.bind (f_X4_item z4) fun z5 => f_X4_room_l24 200 (1 : Int32) z5
set_option maxHeartbeats 4000000 in
set_option maxRecDepth 100000 in
theorem c_X4_room {g : GT} {l : Launch} {ad : Nat → Nat}   {st : StT} {r : Int32 × (StT)} (h : f_X4_room st = some r) : Ct g l yX4_room (wd yX4_room cX4_room 2 (some .int)) (rmh 9) [.ref (ad 0)] (mo_ws g ad st) (mo_ws g ad r.2) (some (.int r.1)) := by
  refine Ct.of (lv := [(0, .ref (ad 0))]) (by decide) (Nat.le_of_ble_eq_true rfl) rfl (fun K hl fx hf => ?_)
  subst hl
  rw [f_X4_room] at h
  have B97 : ∀  (x18 : Int32) (w19 : StT), f_X4_room_b97 x18 w19 = some r → WA g K 2 0 0 97 [(0, .ref (ad 0)), (1, .int x18)] [] (mo_ws g ad w19) := by
    intro   x18 w19 h
    rw [f_X4_room_b97] at h
    refine wa_aload_n fx 0 dX4_room_97 rfl ?_
    refine wa_iconst fx (0 : Int32) dX4_room_98 (by decide) ?_
    refine wa_put (mo_ws g ad) fx wm_X4 tyX4 tyX4_ok nmX4 0 rfl rfl 10 (by decide) q_25_10 rfl rfl rfl rfl (Nat.le_of_ble_eq_true rfl) dX4_room_99 h rfl (fun w20 h => ?_)
    refine wa_aload_n fx 0 dX4_room_102 rfl ?_
    refine wa_get (v := .int (w20.2.2 7)) fx wm_X4 0 rfl rfl 14 (by decide) q_30_22 rfl rfl dX4_room_103 ?_
    refine wa_if_eq fx 118 dX4_room_106 (by decide) h (fun h => ?_) (fun h => ?_)
    · refine wa_iload_n fx 1 dX4_room_118 rfl ?_
      exact fn_i (mo_ws g ad) fx hf (sn1 h) (sn2 h) dX4_room_119
    · refine wa_iconst fx (-1 : Int32) dX4_room_109 (by decide) ?_
      refine wa_aload_n fx 0 dX4_room_110 rfl ?_
      refine wa_get (v := .int (w20.2.2 4)) fx wm_X4 0 rfl rfl 11 (by decide) q_31_0 rfl rfl dX4_room_111 ?_
      refine wa_isub fx dX4_room_114 ?_
      refine wa_goto fx 119 dX4_room_115 (by decide) ?_
      exact fn_i (mo_ws g ad) fx hf (sn1 h) (sn2 h) dX4_room_119
  have B83 : ∀  (x14 : Int32) (x15 : Int32) (w16 : StT), f_X4_room_b83 x14 x15 w16 = some r → WA g K 2 0 0 83 [(0, .ref (ad 0)), (1, .int x14)] [.int x15, .ref (ad 0)] (mo_ws g ad w16) := by
    intro   x14 x15 w16 h
    rw [f_X4_room_b83] at h
    obtain ⟨hb, h⟩ := of_ckb h
    refine wa_put (mo_ws g ad) fx wm_X4 tyX4 tyX4_ok nmX4 0 rfl rfl 14 (by decide) q_30_22 rfl rfl (nb_of hb) (fb_of hb) (Nat.le_of_ble_eq_true rfl) dX4_room_83 h rfl (fun w17 h => ?_)
    refine wa_aload_n fx 0 dX4_room_86 rfl ?_
    refine wa_get (v := .int (w17.2.2 7)) fx wm_X4 0 rfl rfl 14 (by decide) q_30_22 rfl rfl dX4_room_87 ?_
    refine wa_if_eq fx 97 dX4_room_90 (by decide) h (fun h => ?_) (fun h => ?_)
    · refine wa_sub [0, 1] rfl ?_
      exact B97 x14 w17 h
    · refine wa_aload_n fx 0 dX4_room_93 rfl ?_
      refine wa_V (b := ad 0) (rmc := (rmh 1)) (As := []) (st := []) (wc := (mo_ws g ad w17)) (wr := ([] : va_W)) (wcz := fun z21 => mo_ws g ad z21) (w2 := fun z21 => mo_ws g ad z21) (o := fun _ => none) (s2 := fun z21 => []) (ci := 4) (q0 := 0) fx mm_X4_putsBack q_34_4 dX4_room_94 h (fun _ hz => c_X4_putsBack hz) rfl rfl (rm_ok (by decide) (by decide)) ⟨Nat.zero_le _, Nat.zero_le _⟩ rfl (List.Perm.refl _) (fun _ => List.Perm.refl _) rfl (Nat.le_of_ble_eq_true rfl) (fun _ => rfl) (fun z21 h => ?_)
      refine wa_sub [0, 1] rfl ?_
      exact B97 x14 z21 h
  have B78 : ∀  (x12 : Int32) (w13 : StT), f_X4_room_b78 x12 w13 = some r → WA g K 2 0 0 78 [(0, .ref (ad 0)), (1, .int x12)] [.ref (ad 0)] (mo_ws g ad w13) := by
    intro   x12 w13 h
    rw [f_X4_room_b78] at h
    refine wa_iconst fx (1 : Int32) dX4_room_78 (by decide) ?_
    refine wa_goto fx 83 dX4_room_79 (by decide) ?_
    refine wa_sub [0, 1] rfl ?_
    exact B83 x12 (1 : Int32) w13 h
  have B59 : ∀  (x10 : Int32) (w11 : StT), f_X4_room_b59 x10 w11 = some r → WA g K 2 0 0 59 [(0, .ref (ad 0)), (1, .int x10)] [] (mo_ws g ad w11) := by
    intro   x10 w11 h
    rw [f_X4_room_b59] at h
    refine wa_aload_n fx 0 dX4_room_59 rfl ?_
    refine wa_aload_n fx 0 dX4_room_60 rfl ?_
    refine wa_get (v := .int (w11.2.2 7)) fx wm_X4 0 rfl rfl 14 (by decide) q_30_22 rfl rfl dX4_room_61 ?_
    refine wa_if_ne fx 78 dX4_room_64 (by decide) h (fun h => ?_) (fun h => ?_)
    · refine wa_aload_n fx 0 dX4_room_67 rfl ?_
      refine wa_get (v := .int (w11.2.2 4)) fx wm_X4 0 rfl rfl 11 (by decide) q_31_0 rfl rfl dX4_room_68 ?_
      refine wa_aload_n fx 0 dX4_room_71 rfl ?_
      refine wa_get (v := .int (w11.2.2 3)) fx wm_X4 0 rfl rfl 10 (by decide) q_25_10 rfl rfl dX4_room_72 ?_
      refine wa_icmp_ge fx 82 dX4_room_75 (by decide) h (fun h => ?_) (fun h => ?_)
      · refine wa_iconst fx (0 : Int32) dX4_room_82 (by decide) ?_
        refine wa_sub [0, 1] rfl ?_
        exact B83 x10 (0 : Int32) w11 h
      · refine wa_sub [0, 1] rfl ?_
        exact B78 x10 w11 h
    · refine wa_sub [0, 1] rfl ?_
      exact B78 x10 w11 h
  have B24 : ∀  (n : Nat) (x8 : Int32) (w9 : StT), f_X4_room_l24 n x8 w9 = some r → WA g K 2 0 0 24 [(0, .ref (ad 0)), (1, .int x8)] [] (mo_ws g ad w9) := by
    intro   n
    induction n with
    | zero => intro x8 w9 h; exact absurd h (by rw [f_X4_room_l24]; exact nofun)
    | succ n ih =>
      intro x8 w9 h
      rw [f_X4_room_l24] at h
      refine wa_aload_n fx 0 dX4_room_24 rfl ?_
      refine wa_get (v := .int (w9.2.2 7)) fx wm_X4 0 rfl rfl 14 (by decide) q_30_22 rfl rfl dX4_room_25 ?_
      refine wa_if_ne fx 59 dX4_room_28 (by decide) h (fun h => ?_) (fun h => ?_)
      · refine wa_aload_n fx 0 dX4_room_31 rfl ?_
        refine wa_aload_n fx 0 dX4_room_32 rfl ?_
        refine wa_get (v := .int (w9.2.2 4)) fx wm_X4 0 rfl rfl 11 (by decide) q_31_0 rfl rfl dX4_room_33 ?_
        refine wa_V (b := ad 0) (rmc := (rmh 1)) (As := [.int (w9.2.2 4)]) (st := []) (wc := (mo_ws g ad w9)) (wr := ([] : va_W)) (wcz := fun _ => (mo_ws g ad w9)) (w2 := fun _ => (mo_ws g ad w9)) (o := fun z22 => some (.int z22)) (s2 := fun z22 => [.int z22]) (ci := 4) (q0 := 0) fx mm_X4_byteAt q_31_9 dX4_room_36 h (fun _ hz => c_X4_byteAt hz) rfl rfl (rm_ok (by decide) (by decide)) ⟨Nat.zero_le _, Nat.zero_le _⟩ rfl (List.Perm.refl _) (fun _ => (List.Perm.refl _)) rfl (Nat.le_of_ble_eq_true rfl) (fun _ => rfl) (fun z22 h => ?_)
        refine wa_bipush fx (59 : Int32) dX4_room_39 (by decide) ?_
        refine wa_icmp_ne fx 59 dX4_room_41 (by decide) h (fun h => ?_) (fun h => ?_)
        · refine wa_aload_n fx 0 dX4_room_44 rfl ?_
          refine wa_iconst fx (1 : Int32) dX4_room_45 (by decide) ?_
          refine wa_V (b := ad 0) (rmc := (rmh 4)) (As := [.int (1 : Int32)]) (st := []) (wc := (mo_ws g ad w9)) (wr := ([] : va_W)) (wcz := fun z23 => mo_ws g ad z23) (w2 := fun z23 => mo_ws g ad z23) (o := fun _ => none) (s2 := fun z23 => []) (ci := 4) (q0 := 0) fx mm_X4_must q_33_5 dX4_room_46 h (fun _ hz => c_X4_must hz) rfl rfl (rm_ok (by decide) (by decide)) ⟨Nat.zero_le _, Nat.zero_le _⟩ rfl (List.Perm.refl _) (fun _ => List.Perm.refl _) rfl (Nat.le_of_ble_eq_true rfl) (fun _ => rfl) (fun z23 h => ?_)
          refine wa_aload_n fx 0 dX4_room_49 rfl ?_
          refine wa_V (b := ad 0) (rmc := (rmh 8)) (As := []) (st := []) (wc := (mo_ws g ad z23)) (wr := ([] : va_W)) (wcz := fun z24 => mo_ws g ad z24) (w2 := fun z24 => mo_ws g ad z24) (o := fun _ => none) (s2 := fun z24 => []) (ci := 4) (q0 := 0) fx mm_X4_item q_31_23 dX4_room_50 h (fun _ hz => c_X4_item hz) rfl rfl (rm_ok (by decide) (by decide)) ⟨Nat.zero_le _, Nat.zero_le _⟩ rfl (List.Perm.refl _) (fun _ => List.Perm.refl _) rfl (Nat.le_of_ble_eq_true rfl) (fun _ => rfl) (fun z24 h => ?_)
          refine wa_iinc fx 1 (fun x25 => [(1, .int x25), (0, .ref (ad 0))]) dX4_room_53 rfl (by rfl) (by decide) (fun _ => rfl) h (fun x25 h => ?_)
          refine wa_goto fx 24 dX4_room_56 (by decide) ?_
          refine wa_sub [1, 0] rfl ?_
          exact ih x25 z24 h
        · refine wa_sub [0, 1] rfl ?_
          exact B59 x8 w9 h
      · refine wa_sub [0, 1] rfl ?_
        exact B59 x8 w9 h
  refine wa_aload_n fx 0 dX4_room_0 rfl ?_
  refine wa_V (b := ad 0) (rmc := (rmh 1)) (As := []) (st := []) (wc := (mo_ws g ad st)) (wr := ([] : va_W)) (wcz := fun z1 => mo_ws g ad z1) (w2 := fun z1 => mo_ws g ad z1) (o := fun _ => none) (s2 := fun z1 => []) (ci := 4) (q0 := 0) fx mm_X4_saves q_31_1 dX4_room_1 h (fun _ hz => c_X4_saves hz) rfl rfl (rm_ok (by decide) (by decide)) ⟨Nat.zero_le _, Nat.zero_le _⟩ rfl (List.Perm.refl _) (fun _ => List.Perm.refl _) rfl (Nat.le_of_ble_eq_true rfl) (fun _ => rfl) (fun z1 h => ?_)
  refine wa_aload_n fx 0 dX4_room_4 rfl ?_
  refine wa_iconst fx (0 : Int32) dX4_room_5 (by decide) ?_
  refine wa_put (mo_ws g ad) fx wm_X4 tyX4 tyX4_ok nmX4 0 rfl rfl 14 (by decide) q_30_22 rfl rfl (by decide) (by decide) (Nat.le_of_ble_eq_true rfl) dX4_room_6 h rfl (fun w2 h => ?_)
  refine wa_aload_n fx 0 dX4_room_9 rfl ?_
  refine wa_iconst fx (0 : Int32) dX4_room_10 (by decide) ?_
  refine wa_put (mo_ws g ad) fx wm_X4 tyX4 tyX4_ok nmX4 0 rfl rfl 12 (by decide) q_30_23 rfl rfl rfl rfl (Nat.le_of_ble_eq_true rfl) dX4_room_11 h rfl (fun w3 h => ?_)
  refine wa_aload_n fx 0 dX4_room_14 rfl ?_
  refine wa_V (b := ad 0) (rmc := (rmh 3)) (As := []) (st := []) (wc := (mo_ws g ad w3)) (wr := ([] : va_W)) (wcz := fun z4 => mo_ws g ad z4) (w2 := fun z4 => mo_ws g ad z4) (o := fun _ => none) (s2 := fun z4 => []) (ci := 4) (q0 := 0) fx mm_X4_token q_31_5 dX4_room_15 h (fun _ hz => c_X4_token hz) rfl rfl (rm_ok (by decide) (by decide)) ⟨Nat.zero_le _, Nat.zero_le _⟩ rfl (List.Perm.refl _) (fun _ => List.Perm.refl _) rfl (Nat.le_of_ble_eq_true rfl) (fun _ => rfl) (fun z4 h => ?_)
  refine wa_iconst fx (1 : Int32) dX4_room_18 (by decide) ?_
  refine wa_istore_n fx [(1, .int (1 : Int32)), (0, .ref (ad 0))] dX4_room_19 rfl (by decide) rfl ?_
  refine wa_aload_n fx 1 dX4_room_20 rfl ?_
  refine wa_V (b := ad 0) (rmc := (rmh 8)) (As := []) (st := []) (wc := (mo_ws g ad z4)) (wr := ([] : va_W)) (wcz := fun z5 => mo_ws g ad z5) (w2 := fun z5 => mo_ws g ad z5) (o := fun _ => none) (s2 := fun z5 => []) (ci := 4) (q0 := 0) fx mm_X4_item q_31_23 dX4_room_21 h (fun _ hz => c_X4_item hz) rfl rfl (rm_ok (by decide) (by decide)) ⟨Nat.zero_le _, Nat.zero_le _⟩ rfl (List.Perm.refl _) (fun _ => List.Perm.refl _) rfl (Nat.le_of_ble_eq_true rfl) (fun _ => rfl) (fun z5 h => ?_)
  refine wa_sub [1, 0] rfl ?_
  exact B24 200 (1 : Int32) z5 h
def f_X4_isOne  (a0 : Int32) : Option (Int32) := Option.bind (f_X4_in (Int32.toInt64 a0) (0 : Int64) (3 : Int64)) fun z1 => ckb z1 (some z1)
set_option maxHeartbeats 4000000 in
set_option maxRecDepth 100000 in
theorem c_X4_isOne {g : GT} {l : Launch}   {a0 : Int32} {r : Int32} (h : f_X4_isOne a0 = some r) : Ct g l yX4_isOne (wd yX4_isOne cX4_isOne 1 (some .boolean)) (rmh 2) [.int a0] (no_ws ()) (no_ws ()) (some (.int r)) := by
  refine Ct.of (lv := [(0, .int a0)]) (by decide) (Nat.le_of_ble_eq_true rfl) rfl (fun K hl fx hf => ?_)
  subst hl
  rw [f_X4_isOne] at h
  refine wa_iload_n fx 0 dX4_isOne_0 rfl ?_
  refine wa_i2l fx dX4_isOne_1 ?_
  refine wa_lconst fx (0 : Int64) dX4_isOne_2 (by decide) ?_
  refine wa_ldc2 fx q_35_7 dX4_isOne_3 ?_
  refine wa_S (rmc := (rmh 1)) (As := [.long (Int32.toInt64 a0), .long (0 : Int64), .long (3 : Int64)]) (st := []) (wc := (no_ws ())) (wr := (no_ws ())) (wcz := fun _ => (no_ws ())) (w2 := fun _ => (no_ws ())) (o := fun z1 => some (.int z1)) (s2 := fun z1 => [.int z1]) fx mm_X4_in q_5_5 dX4_isOne_6 h (fun _ hz => c_X4_in hz) (rm_ok (by decide) (by decide)) ⟨Nat.zero_le _, Nat.zero_le _⟩ rfl (List.Perm.of_eq (List.append_nil _).symm) (fun _ => (List.Perm.of_eq (List.append_nil _).symm)) rfl (Nat.le_of_ble_eq_true rfl) (fun _ => rfl) (fun z1 h => ?_)
  obtain ⟨hb, h⟩ := of_ckb h
  exact fn_z (no_ws) fx hf (nb_of hb) (Option.some.inj h) rfl dX4_isOne_9
def f_X4_sheet_l85 : Nat → (Int32) → (Int32) → (StT) → Option (Int32 × (StT))
  | 0, _, _, _ => none
  | n + 1, x16, x17, w18 => if (40 : Int32) ≤ x17 then (ck x16 4 (some ((w18.1 8 (Int32.toNatClampNeg x16)), w18))) else (ck (((40 : Int32) * x16) + x17) 160 (nm (setL w18 0 (vp_updL (w18.2.1 0) (Int32.toNatClampNeg (((40 : Int32) * x16) + x17)) (0 : Int64))) fun w19 => nm (x17 + (1 : Int32)) fun x20 => (f_X4_sheet_l85 n) x16 x20 w19))
def f_X4_sheet_b81 (x8 : Int32) (x9 : Int32) (x10 : Int32) (w11 : StT) : Option (Int32 × (StT)) := ck x10 4 (nm (setA w11 8 (upd (w11.1 8) (Int32.toNatClampNeg x10) x9)) fun w12 => f_X4_sheet_l85 200 x8 (0 : Int32) w12)
def f_X4_sheet_b36 (x3 : Int32) (x4 : Int32) (x5 : Int32) (w6 : StT) : Option (Int32 × (StT)) := if 0 ≤ x5 then (if x5 ≤ (40 : Int32) then (ck x3 4 (nm (setA w6 7 (upd (w6.1 7) (Int32.toNatClampNeg x3) x4)) fun w7 => if x4 = 0 then (f_X4_sheet_b81 x3 (0 : Int32) x3 w7) else (f_X4_sheet_b81 x3 x5 x3 w7))) else (Option.bind (f_X4_finds w6 (-1000000001 : Int32)) fun z21 => some (z21.1, z21.2))) else (Option.bind (f_X4_finds w6 (-1000000007 : Int32)) fun z22 => some (z22.1, z22.2))
def f_X4_sheet  (st : StT) (a1 : Int32) (a2 : Int32) (a3 : Int32) : Option (Int32 × (StT)) := Option.bind (f_X4_isOne a1) fun z1 => if z1 = 0 then (Option.bind (f_X4_finds st (-1000000001 : Int32)) fun z2 => some (z2.1, z2.2)) else (if a2 = 0 then (f_X4_sheet_b36 a1 a2 a3 st) else (if a2 = (8 : Int32) then (f_X4_sheet_b36 a1 a2 a3 st) else (if a2 = (16 : Int32) then (f_X4_sheet_b36 a1 a2 a3 st) else (if a2 = (64 : Int32) then (f_X4_sheet_b36 a1 a2 a3 st) else (Option.bind (f_X4_finds st (-1000000001 : Int32)) fun z23 => some (z23.1, z23.2))))))
set_option maxHeartbeats 4000000 in
set_option maxRecDepth 100000 in
theorem c_X4_sheet {g : GT} {l : Launch} {ad : Nat → Nat}   {st : StT} {a1 : Int32} {a2 : Int32} {a3 : Int32} {r : Int32 × (StT)} (h : f_X4_sheet st a1 a2 a3 = some r) : Ct g l yX4_sheet (wd yX4_sheet cX4_sheet 5 (some .int)) (rmh 3) [.ref (ad 0), .int a1, .int a2, .int a3] (mo_ws g ad st) (mo_ws g ad r.2) (some (.int r.1)) := by
  refine Ct.of (lv := [(0, .ref (ad 0)), (1, .int a1), (2, .int a2), (3, .int a3)]) (by decide) (Nat.le_of_ble_eq_true rfl) rfl (fun K hl fx hf => ?_)
  subst hl
  rw [f_X4_sheet] at h
  have B85 : ∀  (n : Nat) (x16 : Int32) (x17 : Int32) (w18 : StT), f_X4_sheet_l85 n x16 x17 w18 = some r → WA g K 5 0 0 85 [(0, .ref (ad 0)), (1, .int x16), (4, .int x17)] [] (mo_ws g ad w18) := by
    intro   n
    induction n with
    | zero => intro x16 x17 w18 h; exact absurd h (by rw [f_X4_sheet_l85]; exact nofun)
    | succ n ih =>
      intro x16 x17 w18 h
      rw [f_X4_sheet_l85] at h
      refine wa_iload fx 2 dX4_sheet_85 rfl ?_
      refine wa_bipush fx (40 : Int32) dX4_sheet_87 (by decide) ?_
      refine wa_icmp_ge fx 111 dX4_sheet_89 (by decide) h (fun h => ?_) (fun h => ?_)
      · refine wa_aload_n fx 0 dX4_sheet_111 rfl ?_
        refine wa_get (v := .ref (ad 9)) fx wm_X4 0 rfl rfl 16 (by decide) q_3_23 rfl rfl dX4_sheet_112 ?_
        refine wa_iload_n fx 1 dX4_sheet_115 rfl ?_
        refine wa_iald (f := w18.1 8) fx 9 rfl dX4_sheet_116 h (fun h => ?_)
        exact fn_i (mo_ws g ad) fx hf (sn1 h) (sn2 h) dX4_sheet_117
      · refine wa_aload_n fx 0 dX4_sheet_92 rfl ?_
        refine wa_get (v := .ref (ad 10)) fx wm_X4 0 rfl rfl 17 (by decide) q_4_0 rfl rfl dX4_sheet_93 ?_
        refine wa_bipush fx (40 : Int32) dX4_sheet_96 (by decide) ?_
        refine wa_iload_n fx 1 dX4_sheet_98 rfl ?_
        refine wa_imul fx dX4_sheet_99 ?_
        refine wa_iload fx 2 dX4_sheet_100 rfl ?_
        refine wa_iadd fx dX4_sheet_102 ?_
        refine wa_lconst fx (0 : Int64) dX4_sheet_103 (by decide) ?_
        refine wa_last (mo_ws g ad) (f := w18.2.1 0) fx 10 rfl dX4_sheet_104 h rfl (fun w19 h => ?_)
        refine wa_iinc fx 2 (fun x20 => [(4, .int x20), (0, .ref (ad 0)), (1, .int x16)]) dX4_sheet_105 rfl (by rfl) (by decide) (fun _ => rfl) h (fun x20 h => ?_)
        refine wa_goto fx 85 dX4_sheet_108 (by decide) ?_
        refine wa_sub [1, 2, 0] rfl ?_
        exact ih x16 x20 w19 h
  have B81 : ∀  (x8 : Int32) (x9 : Int32) (x10 : Int32) (w11 : StT), f_X4_sheet_b81 x8 x9 x10 w11 = some r → WA g K 5 0 0 81 [(0, .ref (ad 0)), (1, .int x8)] [.int x9, .int x10, .ref (ad 9)] (mo_ws g ad w11) := by
    intro   x8 x9 x10 w11 h
    rw [f_X4_sheet_b81] at h
    refine wa_iast (mo_ws g ad) (f := w11.1 8) fx 9 rfl dX4_sheet_81 h rfl (fun w12 h => ?_)
    refine wa_iconst fx (0 : Int32) dX4_sheet_82 (by decide) ?_
    refine wa_istore fx [(4, .int (0 : Int32)), (0, .ref (ad 0)), (1, .int x8)] dX4_sheet_83 (by decide) rfl ?_
    refine wa_sub [1, 2, 0] rfl ?_
    exact B85 200 x8 (0 : Int32) w12 h
  have B36 : ∀  (x3 : Int32) (x4 : Int32) (x5 : Int32) (w6 : StT), f_X4_sheet_b36 x3 x4 x5 w6 = some r → WA g K 5 0 0 36 [(0, .ref (ad 0)), (1, .int x3), (2, .int x4), (3, .int x5)] [] (mo_ws g ad w6) := by
    intro   x3 x4 x5 w6 h
    rw [f_X4_sheet_b36] at h
    refine wa_iload_n fx 3 dX4_sheet_36 rfl ?_
    refine wa_if_ge fx 47 dX4_sheet_37 (by decide) h (fun h => ?_) (fun h => ?_)
    · refine wa_iload_n fx 3 dX4_sheet_47 rfl ?_
      refine wa_bipush fx (40 : Int32) dX4_sheet_48 (by decide) ?_
      refine wa_icmp_le fx 60 dX4_sheet_50 (by decide) h (fun h => ?_) (fun h => ?_)
      · refine wa_aload_n fx 0 dX4_sheet_60 rfl ?_
        refine wa_get (v := .ref (ad 8)) fx wm_X4 0 rfl rfl 15 (by decide) q_3_22 rfl rfl dX4_sheet_61 ?_
        refine wa_iload_n fx 1 dX4_sheet_64 rfl ?_
        refine wa_iload_n fx 2 dX4_sheet_65 rfl ?_
        refine wa_iast (mo_ws g ad) (f := w6.1 7) fx 8 rfl dX4_sheet_66 h rfl (fun w7 h => ?_)
        refine wa_aload_n fx 0 dX4_sheet_67 rfl ?_
        refine wa_get (v := .ref (ad 9)) fx wm_X4 0 rfl rfl 16 (by decide) q_3_23 rfl rfl dX4_sheet_68 ?_
        refine wa_iload_n fx 1 dX4_sheet_71 rfl ?_
        refine wa_iload_n fx 2 dX4_sheet_72 rfl ?_
        refine wa_if_ne fx 80 dX4_sheet_73 (by decide) h (fun h => ?_) (fun h => ?_)
        · refine wa_iconst fx (0 : Int32) dX4_sheet_76 (by decide) ?_
          refine wa_goto fx 81 dX4_sheet_77 (by decide) ?_
          refine wa_sub [0, 1] rfl ?_
          exact B81 x3 (0 : Int32) x3 w7 h
        · refine wa_iload_n fx 3 dX4_sheet_80 rfl ?_
          refine wa_sub [0, 1] rfl ?_
          exact B81 x3 x5 x3 w7 h
      · refine wa_aload_n fx 0 dX4_sheet_53 rfl ?_
        refine wa_ldc fx q_5_4 dX4_sheet_54 ?_
        refine wa_V (b := ad 0) (rmc := (rmh 1)) (As := [.int (-1000000001 : Int32)]) (st := []) (wc := (mo_ws g ad w6)) (wr := ([] : va_W)) (wcz := fun z21 => mo_ws g ad z21.2) (w2 := fun z21 => mo_ws g ad z21.2) (o := fun z21 => some (.int z21.1)) (s2 := fun z21 => [.int z21.1]) (ci := 4) (q0 := 0) fx mm_X4_finds q_5_16 dX4_sheet_56 h (fun _ hz => c_X4_finds hz) rfl rfl (rm_ok (by decide) (by decide)) ⟨Nat.zero_le _, Nat.zero_le _⟩ rfl (List.Perm.refl _) (fun _ => List.Perm.refl _) rfl (Nat.le_of_ble_eq_true rfl) (fun _ => rfl) (fun z21 h => ?_)
        exact fn_i (mo_ws g ad) fx hf (sn1 h) (sn2 h) dX4_sheet_59
    · refine wa_aload_n fx 0 dX4_sheet_40 rfl ?_
      refine wa_ldc fx q_21_13 dX4_sheet_41 ?_
      refine wa_V (b := ad 0) (rmc := (rmh 1)) (As := [.int (-1000000007 : Int32)]) (st := []) (wc := (mo_ws g ad w6)) (wr := ([] : va_W)) (wcz := fun z22 => mo_ws g ad z22.2) (w2 := fun z22 => mo_ws g ad z22.2) (o := fun z22 => some (.int z22.1)) (s2 := fun z22 => [.int z22.1]) (ci := 4) (q0 := 0) fx mm_X4_finds q_5_16 dX4_sheet_43 h (fun _ hz => c_X4_finds hz) rfl rfl (rm_ok (by decide) (by decide)) ⟨Nat.zero_le _, Nat.zero_le _⟩ rfl (List.Perm.refl _) (fun _ => List.Perm.refl _) rfl (Nat.le_of_ble_eq_true rfl) (fun _ => rfl) (fun z22 h => ?_)
      exact fn_i (mo_ws g ad) fx hf (sn1 h) (sn2 h) dX4_sheet_46
  refine wa_iload_n fx 1 dX4_sheet_0 rfl ?_
  refine wa_S (rmc := (rmh 2)) (As := [.int a1]) (st := []) (wc := (no_ws ())) (wr := (mo_ws g ad st)) (wcz := fun _ => (no_ws ())) (w2 := fun _ => (mo_ws g ad st)) (o := fun z1 => some (.int z1)) (s2 := fun z1 => [.int z1]) fx mm_X4_isOne q_35_4 dX4_sheet_1 h (fun _ hz => c_X4_isOne hz) (rm_ok (by decide) (by decide)) ⟨Nat.zero_le _, Nat.zero_le _⟩ rfl (List.Perm.of_eq (List.append_nil _).symm) (fun _ => (List.Perm.of_eq (List.append_nil _).symm)) rfl (Nat.le_of_ble_eq_true rfl) (fun _ => rfl) (fun z1 h => ?_)
  refine wa_if_eq fx 29 dX4_sheet_4 (by decide) h (fun h => ?_) (fun h => ?_)
  · refine wa_aload_n fx 0 dX4_sheet_29 rfl ?_
    refine wa_ldc fx q_5_4 dX4_sheet_30 ?_
    refine wa_V (b := ad 0) (rmc := (rmh 1)) (As := [.int (-1000000001 : Int32)]) (st := []) (wc := (mo_ws g ad st)) (wr := ([] : va_W)) (wcz := fun z2 => mo_ws g ad z2.2) (w2 := fun z2 => mo_ws g ad z2.2) (o := fun z2 => some (.int z2.1)) (s2 := fun z2 => [.int z2.1]) (ci := 4) (q0 := 0) fx mm_X4_finds q_5_16 dX4_sheet_32 h (fun _ hz => c_X4_finds hz) rfl rfl (rm_ok (by decide) (by decide)) ⟨Nat.zero_le _, Nat.zero_le _⟩ rfl (List.Perm.refl _) (fun _ => List.Perm.refl _) rfl (Nat.le_of_ble_eq_true rfl) (fun _ => rfl) (fun z2 h => ?_)
    exact fn_i (mo_ws g ad) fx hf (sn1 h) (sn2 h) dX4_sheet_35
  · refine wa_iload_n fx 2 dX4_sheet_7 rfl ?_
    refine wa_if_eq fx 36 dX4_sheet_8 (by decide) h (fun h => ?_) (fun h => ?_)
    · refine wa_sub [0, 1, 2, 3] rfl ?_
      exact B36 a1 a2 a3 st h
    · refine wa_iload_n fx 2 dX4_sheet_11 rfl ?_
      refine wa_bipush fx (8 : Int32) dX4_sheet_12 (by decide) ?_
      refine wa_icmp_eq fx 36 dX4_sheet_14 (by decide) h (fun h => ?_) (fun h => ?_)
      · refine wa_sub [0, 1, 2, 3] rfl ?_
        exact B36 a1 a2 a3 st h
      · refine wa_iload_n fx 2 dX4_sheet_17 rfl ?_
        refine wa_bipush fx (16 : Int32) dX4_sheet_18 (by decide) ?_
        refine wa_icmp_eq fx 36 dX4_sheet_20 (by decide) h (fun h => ?_) (fun h => ?_)
        · refine wa_sub [0, 1, 2, 3] rfl ?_
          exact B36 a1 a2 a3 st h
        · refine wa_iload_n fx 2 dX4_sheet_23 rfl ?_
          refine wa_bipush fx (64 : Int32) dX4_sheet_24 (by decide) ?_
          refine wa_icmp_eq fx 36 dX4_sheet_26 (by decide) h (fun h => ?_) (fun h => ?_)
          · refine wa_sub [0, 1, 2, 3] rfl ?_
            exact B36 a1 a2 a3 st h
          · refine wa_aload_n fx 0 dX4_sheet_29 rfl ?_
            refine wa_ldc fx q_5_4 dX4_sheet_30 ?_
            refine wa_V (b := ad 0) (rmc := (rmh 1)) (As := [.int (-1000000001 : Int32)]) (st := []) (wc := (mo_ws g ad st)) (wr := ([] : va_W)) (wcz := fun z23 => mo_ws g ad z23.2) (w2 := fun z23 => mo_ws g ad z23.2) (o := fun z23 => some (.int z23.1)) (s2 := fun z23 => [.int z23.1]) (ci := 4) (q0 := 0) fx mm_X4_finds q_5_16 dX4_sheet_32 h (fun _ hz => c_X4_finds hz) rfl rfl (rm_ok (by decide) (by decide)) ⟨Nat.zero_le _, Nat.zero_le _⟩ rfl (List.Perm.refl _) (fun _ => List.Perm.refl _) rfl (Nat.le_of_ble_eq_true rfl) (fun _ => rfl) (fun z23 h => ?_)
            exact fn_i (mo_ws g ad) fx hf (sn1 h) (sn2 h) dX4_sheet_35
def f_X4_narrowed  (a0 : Int32) (a1 : Int64) : Option (Int64) := if a0 = (8 : Int32) then (some (Int32.toInt64 (Int8.toInt32 (Int32.toInt8 (Int64.toInt32 a1))))) else (if a0 = (16 : Int32) then (some (Int32.toInt64 (Int16.toInt32 (Int32.toInt16 (Int64.toInt32 a1))))) else (some a1))
set_option maxHeartbeats 4000000 in
set_option maxRecDepth 100000 in
theorem c_X4_narrowed {g : GT} {l : Launch}   {a0 : Int32} {a1 : Int64} {r : Int64} (h : f_X4_narrowed a0 a1 = some r) : Ct g l yX4_narrowed (wd yX4_narrowed cX4_narrowed 3 (some .long)) (rmh 1) [.int a0, .long a1] (no_ws ()) (no_ws ()) (some (.long r)) := by
  refine Ct.of (lv := [(0, .int a0), (1, .long a1)]) (by decide) (Nat.le_of_ble_eq_true rfl) rfl (fun K hl fx hf => ?_)
  subst hl
  rw [f_X4_narrowed] at h
  refine wa_iload_n fx 0 dX4_narrowed_0 rfl ?_
  refine wa_bipush fx (8 : Int32) dX4_narrowed_1 (by decide) ?_
  refine wa_icmp_ne fx 13 dX4_narrowed_3 (by decide) h (fun h => ?_) (fun h => ?_)
  · refine wa_lload_n fx 1 dX4_narrowed_6 rfl ?_
    refine wa_l2i fx dX4_narrowed_7 ?_
    refine wa_i2b fx dX4_narrowed_8 ?_
    refine wa_i2l fx dX4_narrowed_9 ?_
    refine wa_goto fx 27 dX4_narrowed_10 (by decide) ?_
    exact fn_l (no_ws) fx hf (Option.some.inj h) rfl dX4_narrowed_27
  · refine wa_iload_n fx 0 dX4_narrowed_13 rfl ?_
    refine wa_bipush fx (16 : Int32) dX4_narrowed_14 (by decide) ?_
    refine wa_icmp_ne fx 26 dX4_narrowed_16 (by decide) h (fun h => ?_) (fun h => ?_)
    · refine wa_lload_n fx 1 dX4_narrowed_19 rfl ?_
      refine wa_l2i fx dX4_narrowed_20 ?_
      refine wa_i2s fx dX4_narrowed_21 ?_
      refine wa_i2l fx dX4_narrowed_22 ?_
      refine wa_goto fx 27 dX4_narrowed_23 (by decide) ?_
      exact fn_l (no_ws) fx hf (Option.some.inj h) rfl dX4_narrowed_27
    · refine wa_lload_n fx 1 dX4_narrowed_26 rfl ?_
      exact fn_l (no_ws) fx hf (Option.some.inj h) rfl dX4_narrowed_27
def f_X4_wrongSheet (st : StT) (a1 : Int32) : Option (Int32) := Option.bind (f_X4_isOne a1) fun z1 => if z1 = 0 then (some (-1000000001 : Int32)) else (ck a1 4 (if (st.1 7 (Int32.toNatClampNeg a1)) = 0 then (some (-1000000006 : Int32)) else (some (0 : Int32))))
set_option maxHeartbeats 4000000 in
set_option maxRecDepth 100000 in
theorem c_X4_wrongSheet {g : GT} {l : Launch} {ad : Nat → Nat}   {st : StT} {a1 : Int32} {r : Int32} (h : f_X4_wrongSheet st a1 = some r) : Ct g l yX4_wrongSheet (wd yX4_wrongSheet cX4_wrongSheet 2 (some .int)) (rmh 3) [.ref (ad 0), .int a1] (mo_ws g ad st) (mo_ws g ad st) (some (.int r)) := by
  refine Ct.of (lv := [(0, .ref (ad 0)), (1, .int a1)]) (by decide) (Nat.le_of_ble_eq_true rfl) rfl (fun K hl fx hf => ?_)
  subst hl
  rw [f_X4_wrongSheet] at h
  refine wa_iload_n fx 1 dX4_wrongSheet_0 rfl ?_
  refine wa_S (rmc := (rmh 2)) (As := [.int a1]) (st := []) (wc := (no_ws ())) (wr := (mo_ws g ad st)) (wcz := fun _ => (no_ws ())) (w2 := fun _ => (mo_ws g ad st)) (o := fun z1 => some (.int z1)) (s2 := fun z1 => [.int z1]) fx mm_X4_isOne q_35_4 dX4_wrongSheet_1 h (fun _ hz => c_X4_isOne hz) (rm_ok (by decide) (by decide)) ⟨Nat.zero_le _, Nat.zero_le _⟩ rfl (List.Perm.of_eq (List.append_nil _).symm) (fun _ => (List.Perm.of_eq (List.append_nil _).symm)) rfl (Nat.le_of_ble_eq_true rfl) (fun _ => rfl) (fun z1 h => ?_)
  refine wa_if_ne fx 12 dX4_wrongSheet_4 (by decide) h (fun h => ?_) (fun h => ?_)
  · refine wa_ldc fx q_5_4 dX4_wrongSheet_7 ?_
    refine wa_goto fx 28 dX4_wrongSheet_9 (by decide) ?_
    exact fn_i (mo_ws g ad) fx hf (Option.some.inj h) rfl dX4_wrongSheet_28
  · refine wa_aload_n fx 0 dX4_wrongSheet_12 rfl ?_
    refine wa_get (v := .ref (ad 8)) fx wm_X4 0 rfl rfl 15 (by decide) q_3_22 rfl rfl dX4_wrongSheet_13 ?_
    refine wa_iload_n fx 1 dX4_wrongSheet_16 rfl ?_
    refine wa_iald (f := st.1 7) fx 8 rfl dX4_wrongSheet_17 h (fun h => ?_)
    refine wa_if_ne fx 27 dX4_wrongSheet_18 (by decide) h (fun h => ?_) (fun h => ?_)
    · refine wa_ldcw fx q_36_6 dX4_wrongSheet_21 ?_
      refine wa_goto fx 28 dX4_wrongSheet_24 (by decide) ?_
      exact fn_i (mo_ws g ad) fx hf (Option.some.inj h) rfl dX4_wrongSheet_28
    · refine wa_iconst fx (0 : Int32) dX4_wrongSheet_27 (by decide) ?_
      exact fn_i (mo_ws g ad) fx hf (Option.some.inj h) rfl dX4_wrongSheet_28
def f_X4_write  (st : StT) (a1 : Int32) (a2 : Int32) (a3 : Int64) : Option (Int64 × (StT)) := Option.bind (f_X4_wrongSheet st a1) fun z1 => if z1 = 0 then (ck a1 4 (Option.bind (f_X4_in (Int32.toInt64 a2) (0 : Int64) (Int32.toInt64 ((st.1 8 (Int32.toNatClampNeg a1)) - (1 : Int32)))) fun z2 => if z2 = 0 then (Option.bind (f_X4_finds st (-1000000001 : Int32)) fun z6 => some ((Int32.toInt64 z6.1), z6.2)) else (ck (((40 : Int32) * a1) + a2) 160 (nm (st.2.1 0 (Int32.toNatClampNeg (((40 : Int32) * a1) + a2))) fun x3 => ck a1 4 (Option.bind (f_X4_narrowed (st.1 7 (Int32.toNatClampNeg a1)) a3) fun z4 => ck (((40 : Int32) * a1) + a2) 160 (nm (setL st 0 (vp_updL (st.2.1 0) (Int32.toNatClampNeg (((40 : Int32) * a1) + a2)) z4)) fun w5 => some (x3, w5))))))) else (Option.bind (f_X4_finds st z1) fun z7 => some ((Int32.toInt64 z7.1), z7.2))
set_option maxHeartbeats 4000000 in
set_option maxRecDepth 100000 in
theorem c_X4_write {g : GT} {l : Launch} {ad : Nat → Nat}   {st : StT} {a1 : Int32} {a2 : Int32} {a3 : Int64} {r : Int64 × (StT)} (h : f_X4_write st a1 a2 a3 = some r) : Ct g l yX4_write (wd yX4_write cX4_write 8 (some .long)) (rmh 4) [.ref (ad 0), .int a1, .int a2, .long a3] (mo_ws g ad st) (mo_ws g ad r.2) (some (.long r.1)) := by
  refine Ct.of (lv := [(0, .ref (ad 0)), (1, .int a1), (2, .int a2), (3, .long a3)]) (by decide) (Nat.le_of_ble_eq_true rfl) rfl (fun K hl fx hf => ?_)
  subst hl
  rw [f_X4_write] at h
  refine wa_aload_n fx 0 dX4_write_0 rfl ?_
  refine wa_iload_n fx 1 dX4_write_1 rfl ?_
  refine wa_V (b := ad 0) (rmc := (rmh 3)) (As := [.int a1]) (st := []) (wc := (mo_ws g ad st)) (wr := ([] : va_W)) (wcz := fun _ => (mo_ws g ad st)) (w2 := fun _ => (mo_ws g ad st)) (o := fun z1 => some (.int z1)) (s2 := fun z1 => [.int z1]) (ci := 4) (q0 := 0) fx mm_X4_wrongSheet q_36_2 dX4_write_2 h (fun _ hz => c_X4_wrongSheet hz) rfl rfl (rm_ok (by decide) (by decide)) ⟨Nat.zero_le _, Nat.zero_le _⟩ rfl (List.Perm.refl _) (fun _ => (List.Perm.refl _)) rfl (Nat.le_of_ble_eq_true rfl) (fun _ => rfl) (fun z1 h => ?_)
  refine wa_istore fx [(5, .int z1), (0, .ref (ad 0)), (1, .int a1), (2, .int a2), (3, .long a3)] dX4_write_5 (by decide) rfl ?_
  refine wa_iload fx 0 dX4_write_7 rfl ?_
  refine wa_if_eq fx 20 dX4_write_9 (by decide) h (fun h => ?_) (fun h => ?_)
  · refine wa_iload_n fx 3 dX4_write_20 rfl ?_
    refine wa_i2l fx dX4_write_21 ?_
    refine wa_lconst fx (0 : Int64) dX4_write_22 (by decide) ?_
    refine wa_aload_n fx 1 dX4_write_23 rfl ?_
    refine wa_get (v := .ref (ad 9)) fx wm_X4 0 rfl rfl 16 (by decide) q_3_23 rfl rfl dX4_write_24 ?_
    refine wa_iload_n fx 2 dX4_write_27 rfl ?_
    refine wa_iald (f := st.1 8) fx 9 rfl dX4_write_28 h (fun h => ?_)
    refine wa_iconst fx (1 : Int32) dX4_write_29 (by decide) ?_
    refine wa_isub fx dX4_write_30 ?_
    refine wa_i2l fx dX4_write_31 ?_
    refine wa_S (rmc := (rmh 1)) (As := [.long (Int32.toInt64 a2), .long (0 : Int64), .long (Int32.toInt64 ((st.1 8 (Int32.toNatClampNeg a1)) - (1 : Int32)))]) (st := []) (wc := (no_ws ())) (wr := (mo_ws g ad st)) (wcz := fun _ => (no_ws ())) (w2 := fun _ => (mo_ws g ad st)) (o := fun z2 => some (.int z2)) (s2 := fun z2 => [.int z2]) fx mm_X4_in q_5_5 dX4_write_32 h (fun _ hz => c_X4_in hz) (rm_ok (by decide) (by decide)) ⟨Nat.zero_le _, Nat.zero_le _⟩ rfl (List.Perm.of_eq (List.append_nil _).symm) (fun _ => (List.Perm.of_eq (List.append_nil _).symm)) rfl (Nat.le_of_ble_eq_true rfl) (fun _ => rfl) (fun z2 h => ?_)
    refine wa_if_ne fx 46 dX4_write_35 (by decide) h (fun h => ?_) (fun h => ?_)
    · refine wa_aload_n fx 1 dX4_write_38 rfl ?_
      refine wa_ldc fx q_5_4 dX4_write_39 ?_
      refine wa_V (b := ad 0) (rmc := (rmh 1)) (As := [.int (-1000000001 : Int32)]) (st := []) (wc := (mo_ws g ad st)) (wr := ([] : va_W)) (wcz := fun z6 => mo_ws g ad z6.2) (w2 := fun z6 => mo_ws g ad z6.2) (o := fun z6 => some (.int z6.1)) (s2 := fun z6 => [.int z6.1]) (ci := 4) (q0 := 0) fx mm_X4_finds q_5_16 dX4_write_41 h (fun _ hz => c_X4_finds hz) rfl rfl (rm_ok (by decide) (by decide)) ⟨Nat.zero_le _, Nat.zero_le _⟩ rfl (List.Perm.refl _) (fun _ => List.Perm.refl _) rfl (Nat.le_of_ble_eq_true rfl) (fun _ => rfl) (fun z6 h => ?_)
      refine wa_i2l fx dX4_write_44 ?_
      exact fn_l (mo_ws g ad) fx hf (sn1 h) (sn2 h) dX4_write_45
    · refine wa_aload_n fx 1 dX4_write_46 rfl ?_
      refine wa_get (v := .ref (ad 10)) fx wm_X4 0 rfl rfl 17 (by decide) q_4_0 rfl rfl dX4_write_47 ?_
      refine wa_bipush fx (40 : Int32) dX4_write_50 (by decide) ?_
      refine wa_iload_n fx 2 dX4_write_52 rfl ?_
      refine wa_imul fx dX4_write_53 ?_
      refine wa_iload_n fx 3 dX4_write_54 rfl ?_
      refine wa_iadd fx dX4_write_55 ?_
      refine wa_lald (f := st.2.1 0) fx 10 rfl dX4_write_56 h (fun h => ?_)
      refine wa_lstoreN fx (fun x3 => [(6, .long x3), (5, .int z1), (0, .ref (ad 0)), (1, .int a1), (2, .int a2), (3, .long a3)]) dX4_write_57 (by decide) (fun _ => rfl) h (fun x3 h => ?_)
      refine wa_aload_n fx 2 dX4_write_59 rfl ?_
      refine wa_get (v := .ref (ad 10)) fx wm_X4 0 rfl rfl 17 (by decide) q_4_0 rfl rfl dX4_write_60 ?_
      refine wa_bipush fx (40 : Int32) dX4_write_63 (by decide) ?_
      refine wa_iload_n fx 3 dX4_write_65 rfl ?_
      refine wa_imul fx dX4_write_66 ?_
      refine wa_iload_n fx 4 dX4_write_67 rfl ?_
      refine wa_iadd fx dX4_write_68 ?_
      refine wa_aload_n fx 2 dX4_write_69 rfl ?_
      refine wa_get (v := .ref (ad 8)) fx wm_X4 0 rfl rfl 15 (by decide) q_3_22 rfl rfl dX4_write_70 ?_
      refine wa_iload_n fx 3 dX4_write_73 rfl ?_
      refine wa_iald (f := st.1 7) fx 8 rfl dX4_write_74 h (fun h => ?_)
      refine wa_lload_n fx 5 dX4_write_75 rfl ?_
      refine wa_S (rmc := (rmh 1)) (As := [.int (st.1 7 (Int32.toNatClampNeg a1)), .long a3]) (st := [.int (((40 : Int32) * a1) + a2), .ref (ad 10)]) (wc := (no_ws ())) (wr := (mo_ws g ad st)) (wcz := fun _ => (no_ws ())) (w2 := fun _ => (mo_ws g ad st)) (o := fun z4 => some (.long z4)) (s2 := fun z4 => [.long z4, .int (((40 : Int32) * a1) + a2), .ref (ad 10)]) fx mm_X4_narrowed q_36_7 dX4_write_76 h (fun _ hz => c_X4_narrowed hz) (rm_ok (by decide) (by decide)) ⟨Nat.zero_le _, Nat.zero_le _⟩ rfl (List.Perm.of_eq (List.append_nil _).symm) (fun _ => (List.Perm.of_eq (List.append_nil _).symm)) rfl (Nat.le_of_ble_eq_true rfl) (fun _ => rfl) (fun z4 h => ?_)
      refine wa_last (mo_ws g ad) (f := st.2.1 0) fx 10 rfl dX4_write_79 h rfl (fun w5 h => ?_)
      refine wa_lload fx 0 dX4_write_80 rfl ?_
      exact fn_l (mo_ws g ad) fx hf (sn1 h) (sn2 h) dX4_write_82
  · refine wa_aload_n fx 1 dX4_write_12 rfl ?_
    refine wa_iload fx 0 dX4_write_13 rfl ?_
    refine wa_V (b := ad 0) (rmc := (rmh 1)) (As := [.int z1]) (st := []) (wc := (mo_ws g ad st)) (wr := ([] : va_W)) (wcz := fun z7 => mo_ws g ad z7.2) (w2 := fun z7 => mo_ws g ad z7.2) (o := fun z7 => some (.int z7.1)) (s2 := fun z7 => [.int z7.1]) (ci := 4) (q0 := 0) fx mm_X4_finds q_5_16 dX4_write_15 h (fun _ hz => c_X4_finds hz) rfl rfl (rm_ok (by decide) (by decide)) ⟨Nat.zero_le _, Nat.zero_le _⟩ rfl (List.Perm.refl _) (fun _ => List.Perm.refl _) rfl (Nat.le_of_ble_eq_true rfl) (fun _ => rfl) (fun z7 h => ?_)
    refine wa_i2l fx dX4_write_18 ?_
    exact fn_l (mo_ws g ad) fx hf (sn1 h) (sn2 h) dX4_write_19
def f_X4_copy_l157 : Nat → (Int32) → (Int32) → (Int32) → (Int32) → (StT) → Option (Int32 × (StT))
  | 0, _, _, _, _, _ => none
  | n + 1, x28, x29, x30, x31, w32 => if x30 ≤ x31 then (some (x30, w32)) else (ck x31 40 (ck ((((40 : Int32) * x28) + x29) + x31) 160 (nm (setL w32 0 (vp_updL (w32.2.1 0) (Int32.toNatClampNeg ((((40 : Int32) * x28) + x29) + x31)) (w32.2.1 1 (Int32.toNatClampNeg x31)))) fun w33 => nm (x31 + (1 : Int32)) fun x34 => (f_X4_copy_l157 n) x28 x29 x30 x34 w33)))
def f_X4_copy_l120 : Nat → (Int32) → (Int32) → (Int32) → (Int32) → (Int32) → (Int32) → (StT) → Option (Int32 × (StT))
  | 0, _, _, _, _, _, _, _ => none
  | n + 1, x16, x17, x18, x19, x20, x21, w22 => if x20 ≤ x21 then (f_X4_copy_l157 200 x18 x19 x20 (0 : Int32) w22) else (ck ((((40 : Int32) * x16) + x17) + x21) 160 (ck x21 40 (nm (setL w22 1 (vp_updL (w22.2.1 1) (Int32.toNatClampNeg x21) (w22.2.1 0 (Int32.toNatClampNeg ((((40 : Int32) * x16) + x17) + x21))))) fun w35 => nm (x21 + (1 : Int32)) fun x36 => (f_X4_copy_l120 n) x16 x17 x18 x19 x20 x36 w35)))
def f_X4_copy  (st : StT) (a1 : Int32) (a2 : Int32) (a3 : Int32) (a4 : Int32) (a5 : Int32) : Option (Int32 × (StT)) := Option.bind (f_X4_isOne a1) fun z1 => if z1 = 0 then (Option.bind (f_X4_finds st (-1000000001 : Int32)) fun z2 => some (z2.1, z2.2)) else (Option.bind (f_X4_isOne a3) fun z3 => if z3 = 0 then (Option.bind (f_X4_finds st (-1000000001 : Int32)) fun z40 => some (z40.1, z40.2)) else (ck a1 4 (if (st.1 7 (Int32.toNatClampNeg a1)) = 0 then (Option.bind (f_X4_finds st (-1000000006 : Int32)) fun z4 => some (z4.1, z4.2)) else (ck a3 4 (if (st.1 7 (Int32.toNatClampNeg a3)) = 0 then (Option.bind (f_X4_finds st (-1000000006 : Int32)) fun z39 => some (z39.1, z39.2)) else (ck a1 4 (ck a3 4 (if (st.1 7 (Int32.toNatClampNeg a1)) = (st.1 7 (Int32.toNatClampNeg a3)) then (if a2 < 0 then (Option.bind (f_X4_finds st (-1000000001 : Int32)) fun z5 => some (z5.1, z5.2)) else (if a4 < 0 then (Option.bind (f_X4_finds st (-1000000001 : Int32)) fun z6 => some (z6.1, z6.2)) else (if a5 < 0 then (Option.bind (f_X4_finds st (-1000000001 : Int32)) fun z7 => some (z7.1, z7.2)) else (ck a1 4 (if ((st.1 8 (Int32.toNatClampNeg a1)) - a2) < a5 then (Option.bind (f_X4_finds st (-1000000001 : Int32)) fun z8 => some (z8.1, z8.2)) else (ck a3 4 (if a5 ≤ ((st.1 8 (Int32.toNatClampNeg a3)) - a4) then (f_X4_copy_l120 200 a1 a2 a3 a4 a5 (0 : Int32) st) else (Option.bind (f_X4_finds st (-1000000001 : Int32)) fun z37 => some (z37.1, z37.2))))))))) else (Option.bind (f_X4_finds st (-1000000003 : Int32)) fun z38 => some (z38.1, z38.2))))))))))
set_option maxHeartbeats 4000000 in
set_option maxRecDepth 100000 in
theorem c_X4_copy {g : GT} {l : Launch} {ad : Nat → Nat}   {st : StT} {a1 : Int32} {a2 : Int32} {a3 : Int32} {a4 : Int32} {a5 : Int32} {r : Int32 × (StT)} (h : f_X4_copy st a1 a2 a3 a4 a5 = some r) : Ct g l yX4_copy (wd yX4_copy cX4_copy 7 (some .int)) (rmh 3) [.ref (ad 0), .int a1, .int a2, .int a3, .int a4, .int a5] (mo_ws g ad st) (mo_ws g ad r.2) (some (.int r.1)) := by
  refine Ct.of (lv := [(0, .ref (ad 0)), (1, .int a1), (2, .int a2), (3, .int a3), (4, .int a4), (5, .int a5)]) (by decide) (Nat.le_of_ble_eq_true rfl) rfl (fun K hl fx hf => ?_)
  subst hl
  rw [f_X4_copy] at h
  have B157 : ∀  (n : Nat) (x28 : Int32) (x29 : Int32) (x30 : Int32) (x31 : Int32) (w32 : StT), f_X4_copy_l157 n x28 x29 x30 x31 w32 = some r → WA g K 7 0 0 157 [(0, .ref (ad 0)), (3, .int x28), (4, .int x29), (5, .int x30), (6, .int x31)] [] (mo_ws g ad w32) := by
    intro   n
    induction n with
    | zero => intro x28 x29 x30 x31 w32 h; exact absurd h (by rw [f_X4_copy_l157]; exact nofun)
    | succ n ih =>
      intro x28 x29 x30 x31 w32 h
      rw [f_X4_copy_l157] at h
      refine wa_iload fx 4 dX4_copy_157 rfl ?_
      refine wa_iload fx 3 dX4_copy_159 rfl ?_
      refine wa_icmp_ge fx 192 dX4_copy_161 (by decide) h (fun h => ?_) (fun h => ?_)
      · refine wa_iload fx 3 dX4_copy_192 rfl ?_
        exact fn_i (mo_ws g ad) fx hf (sn1 h) (sn2 h) dX4_copy_194
      · refine wa_aload_n fx 0 dX4_copy_164 rfl ?_
        refine wa_get (v := .ref (ad 10)) fx wm_X4 0 rfl rfl 17 (by decide) q_4_0 rfl rfl dX4_copy_165 ?_
        refine wa_bipush fx (40 : Int32) dX4_copy_168 (by decide) ?_
        refine wa_iload_n fx 1 dX4_copy_170 rfl ?_
        refine wa_imul fx dX4_copy_171 ?_
        refine wa_iload fx 2 dX4_copy_172 rfl ?_
        refine wa_iadd fx dX4_copy_174 ?_
        refine wa_iload fx 4 dX4_copy_175 rfl ?_
        refine wa_iadd fx dX4_copy_177 ?_
        refine wa_aload_n fx 0 dX4_copy_178 rfl ?_
        refine wa_get (v := .ref (ad 11)) fx wm_X4 0 rfl rfl 18 (by decide) q_4_1 rfl rfl dX4_copy_179 ?_
        refine wa_iload fx 4 dX4_copy_182 rfl ?_
        refine wa_lald (f := w32.2.1 1) fx 11 rfl dX4_copy_184 h (fun h => ?_)
        refine wa_last (mo_ws g ad) (f := w32.2.1 0) fx 10 rfl dX4_copy_185 h rfl (fun w33 h => ?_)
        refine wa_iinc fx 4 (fun x34 => [(6, .int x34), (0, .ref (ad 0)), (3, .int x28), (4, .int x29), (5, .int x30)]) dX4_copy_186 rfl (by rfl) (by decide) (fun _ => rfl) h (fun x34 h => ?_)
        refine wa_goto fx 157 dX4_copy_189 (by decide) ?_
        refine wa_sub [1, 2, 3, 4, 0] rfl ?_
        exact ih x28 x29 x30 x34 w33 h
  have B120 : ∀  (n : Nat) (x16 : Int32) (x17 : Int32) (x18 : Int32) (x19 : Int32) (x20 : Int32) (x21 : Int32) (w22 : StT), f_X4_copy_l120 n x16 x17 x18 x19 x20 x21 w22 = some r → WA g K 7 0 0 120 [(0, .ref (ad 0)), (1, .int x16), (2, .int x17), (3, .int x18), (4, .int x19), (5, .int x20), (6, .int x21)] [] (mo_ws g ad w22) := by
    intro   n
    induction n with
    | zero => intro x16 x17 x18 x19 x20 x21 w22 h; exact absurd h (by rw [f_X4_copy_l120]; exact nofun)
    | succ n ih =>
      intro x16 x17 x18 x19 x20 x21 w22 h
      rw [f_X4_copy_l120] at h
      refine wa_iload fx 6 dX4_copy_120 rfl ?_
      refine wa_iload fx 5 dX4_copy_122 rfl ?_
      refine wa_icmp_ge fx 154 dX4_copy_124 (by decide) h (fun h => ?_) (fun h => ?_)
      · refine wa_iconst fx (0 : Int32) dX4_copy_154 (by decide) ?_
        refine wa_istore fx [(6, .int (0 : Int32)), (0, .ref (ad 0)), (1, .int x16), (2, .int x17), (3, .int x18), (4, .int x19), (5, .int x20)] dX4_copy_155 (by decide) rfl ?_
        refine wa_sub [1, 4, 5, 6, 0] rfl ?_
        exact B157 200 x18 x19 x20 (0 : Int32) w22 h
      · refine wa_aload_n fx 0 dX4_copy_127 rfl ?_
        refine wa_get (v := .ref (ad 11)) fx wm_X4 0 rfl rfl 18 (by decide) q_4_1 rfl rfl dX4_copy_128 ?_
        refine wa_iload fx 6 dX4_copy_131 rfl ?_
        refine wa_aload_n fx 0 dX4_copy_133 rfl ?_
        refine wa_get (v := .ref (ad 10)) fx wm_X4 0 rfl rfl 17 (by decide) q_4_0 rfl rfl dX4_copy_134 ?_
        refine wa_bipush fx (40 : Int32) dX4_copy_137 (by decide) ?_
        refine wa_iload_n fx 1 dX4_copy_139 rfl ?_
        refine wa_imul fx dX4_copy_140 ?_
        refine wa_iload_n fx 2 dX4_copy_141 rfl ?_
        refine wa_iadd fx dX4_copy_142 ?_
        refine wa_iload fx 6 dX4_copy_143 rfl ?_
        refine wa_iadd fx dX4_copy_145 ?_
        refine wa_lald (f := w22.2.1 0) fx 10 rfl dX4_copy_146 h (fun h => ?_)
        refine wa_last (mo_ws g ad) (f := w22.2.1 1) fx 11 rfl dX4_copy_147 h rfl (fun w35 h => ?_)
        refine wa_iinc fx 6 (fun x36 => [(6, .int x36), (0, .ref (ad 0)), (1, .int x16), (2, .int x17), (3, .int x18), (4, .int x19), (5, .int x20)]) dX4_copy_148 rfl (by rfl) (by decide) (fun _ => rfl) h (fun x36 h => ?_)
        refine wa_goto fx 120 dX4_copy_151 (by decide) ?_
        refine wa_sub [1, 2, 3, 4, 5, 6, 0] rfl ?_
        exact ih x16 x17 x18 x19 x20 x36 w35 h
  refine wa_iload_n fx 1 dX4_copy_0 rfl ?_
  refine wa_S (rmc := (rmh 2)) (As := [.int a1]) (st := []) (wc := (no_ws ())) (wr := (mo_ws g ad st)) (wcz := fun _ => (no_ws ())) (w2 := fun _ => (mo_ws g ad st)) (o := fun z1 => some (.int z1)) (s2 := fun z1 => [.int z1]) fx mm_X4_isOne q_35_4 dX4_copy_1 h (fun _ hz => c_X4_isOne hz) (rm_ok (by decide) (by decide)) ⟨Nat.zero_le _, Nat.zero_le _⟩ rfl (List.Perm.of_eq (List.append_nil _).symm) (fun _ => (List.Perm.of_eq (List.append_nil _).symm)) rfl (Nat.le_of_ble_eq_true rfl) (fun _ => rfl) (fun z1 h => ?_)
  refine wa_if_eq fx 14 dX4_copy_4 (by decide) h (fun h => ?_) (fun h => ?_)
  · refine wa_aload_n fx 0 dX4_copy_14 rfl ?_
    refine wa_ldc fx q_5_4 dX4_copy_15 ?_
    refine wa_V (b := ad 0) (rmc := (rmh 1)) (As := [.int (-1000000001 : Int32)]) (st := []) (wc := (mo_ws g ad st)) (wr := ([] : va_W)) (wcz := fun z2 => mo_ws g ad z2.2) (w2 := fun z2 => mo_ws g ad z2.2) (o := fun z2 => some (.int z2.1)) (s2 := fun z2 => [.int z2.1]) (ci := 4) (q0 := 0) fx mm_X4_finds q_5_16 dX4_copy_17 h (fun _ hz => c_X4_finds hz) rfl rfl (rm_ok (by decide) (by decide)) ⟨Nat.zero_le _, Nat.zero_le _⟩ rfl (List.Perm.refl _) (fun _ => List.Perm.refl _) rfl (Nat.le_of_ble_eq_true rfl) (fun _ => rfl) (fun z2 h => ?_)
    exact fn_i (mo_ws g ad) fx hf (sn1 h) (sn2 h) dX4_copy_20
  · refine wa_iload_n fx 3 dX4_copy_7 rfl ?_
    refine wa_S (rmc := (rmh 2)) (As := [.int a3]) (st := []) (wc := (no_ws ())) (wr := (mo_ws g ad st)) (wcz := fun _ => (no_ws ())) (w2 := fun _ => (mo_ws g ad st)) (o := fun z3 => some (.int z3)) (s2 := fun z3 => [.int z3]) fx mm_X4_isOne q_35_4 dX4_copy_8 h (fun _ hz => c_X4_isOne hz) (rm_ok (by decide) (by decide)) ⟨Nat.zero_le _, Nat.zero_le _⟩ rfl (List.Perm.of_eq (List.append_nil _).symm) (fun _ => (List.Perm.of_eq (List.append_nil _).symm)) rfl (Nat.le_of_ble_eq_true rfl) (fun _ => rfl) (fun z3 h => ?_)
    refine wa_if_ne fx 21 dX4_copy_11 (by decide) h (fun h => ?_) (fun h => ?_)
    · refine wa_aload_n fx 0 dX4_copy_14 rfl ?_
      refine wa_ldc fx q_5_4 dX4_copy_15 ?_
      refine wa_V (b := ad 0) (rmc := (rmh 1)) (As := [.int (-1000000001 : Int32)]) (st := []) (wc := (mo_ws g ad st)) (wr := ([] : va_W)) (wcz := fun z40 => mo_ws g ad z40.2) (w2 := fun z40 => mo_ws g ad z40.2) (o := fun z40 => some (.int z40.1)) (s2 := fun z40 => [.int z40.1]) (ci := 4) (q0 := 0) fx mm_X4_finds q_5_16 dX4_copy_17 h (fun _ hz => c_X4_finds hz) rfl rfl (rm_ok (by decide) (by decide)) ⟨Nat.zero_le _, Nat.zero_le _⟩ rfl (List.Perm.refl _) (fun _ => List.Perm.refl _) rfl (Nat.le_of_ble_eq_true rfl) (fun _ => rfl) (fun z40 h => ?_)
      exact fn_i (mo_ws g ad) fx hf (sn1 h) (sn2 h) dX4_copy_20
    · refine wa_aload_n fx 0 dX4_copy_21 rfl ?_
      refine wa_get (v := .ref (ad 8)) fx wm_X4 0 rfl rfl 15 (by decide) q_3_22 rfl rfl dX4_copy_22 ?_
      refine wa_iload_n fx 1 dX4_copy_25 rfl ?_
      refine wa_iald (f := st.1 7) fx 8 rfl dX4_copy_26 h (fun h => ?_)
      refine wa_if_eq fx 39 dX4_copy_27 (by decide) h (fun h => ?_) (fun h => ?_)
      · refine wa_aload_n fx 0 dX4_copy_39 rfl ?_
        refine wa_ldcw fx q_36_6 dX4_copy_40 ?_
        refine wa_V (b := ad 0) (rmc := (rmh 1)) (As := [.int (-1000000006 : Int32)]) (st := []) (wc := (mo_ws g ad st)) (wr := ([] : va_W)) (wcz := fun z4 => mo_ws g ad z4.2) (w2 := fun z4 => mo_ws g ad z4.2) (o := fun z4 => some (.int z4.1)) (s2 := fun z4 => [.int z4.1]) (ci := 4) (q0 := 0) fx mm_X4_finds q_5_16 dX4_copy_43 h (fun _ hz => c_X4_finds hz) rfl rfl (rm_ok (by decide) (by decide)) ⟨Nat.zero_le _, Nat.zero_le _⟩ rfl (List.Perm.refl _) (fun _ => List.Perm.refl _) rfl (Nat.le_of_ble_eq_true rfl) (fun _ => rfl) (fun z4 h => ?_)
        exact fn_i (mo_ws g ad) fx hf (sn1 h) (sn2 h) dX4_copy_46
      · refine wa_aload_n fx 0 dX4_copy_30 rfl ?_
        refine wa_get (v := .ref (ad 8)) fx wm_X4 0 rfl rfl 15 (by decide) q_3_22 rfl rfl dX4_copy_31 ?_
        refine wa_iload_n fx 3 dX4_copy_34 rfl ?_
        refine wa_iald (f := st.1 7) fx 8 rfl dX4_copy_35 h (fun h => ?_)
        refine wa_if_ne fx 47 dX4_copy_36 (by decide) h (fun h => ?_) (fun h => ?_)
        · refine wa_aload_n fx 0 dX4_copy_39 rfl ?_
          refine wa_ldcw fx q_36_6 dX4_copy_40 ?_
          refine wa_V (b := ad 0) (rmc := (rmh 1)) (As := [.int (-1000000006 : Int32)]) (st := []) (wc := (mo_ws g ad st)) (wr := ([] : va_W)) (wcz := fun z39 => mo_ws g ad z39.2) (w2 := fun z39 => mo_ws g ad z39.2) (o := fun z39 => some (.int z39.1)) (s2 := fun z39 => [.int z39.1]) (ci := 4) (q0 := 0) fx mm_X4_finds q_5_16 dX4_copy_43 h (fun _ hz => c_X4_finds hz) rfl rfl (rm_ok (by decide) (by decide)) ⟨Nat.zero_le _, Nat.zero_le _⟩ rfl (List.Perm.refl _) (fun _ => List.Perm.refl _) rfl (Nat.le_of_ble_eq_true rfl) (fun _ => rfl) (fun z39 h => ?_)
          exact fn_i (mo_ws g ad) fx hf (sn1 h) (sn2 h) dX4_copy_46
        · refine wa_aload_n fx 0 dX4_copy_47 rfl ?_
          refine wa_get (v := .ref (ad 8)) fx wm_X4 0 rfl rfl 15 (by decide) q_3_22 rfl rfl dX4_copy_48 ?_
          refine wa_iload_n fx 1 dX4_copy_51 rfl ?_
          refine wa_iald (f := st.1 7) fx 8 rfl dX4_copy_52 h (fun h => ?_)
          refine wa_aload_n fx 0 dX4_copy_53 rfl ?_
          refine wa_get (v := .ref (ad 8)) fx wm_X4 0 rfl rfl 15 (by decide) q_3_22 rfl rfl dX4_copy_54 ?_
          refine wa_iload_n fx 3 dX4_copy_57 rfl ?_
          refine wa_iald (f := st.1 7) fx 8 rfl dX4_copy_58 h (fun h => ?_)
          refine wa_icmp_eq fx 69 dX4_copy_59 (by decide) h (fun h => ?_) (fun h => ?_)
          · refine wa_iload_n fx 2 dX4_copy_69 rfl ?_
            refine wa_if_lt fx 110 dX4_copy_70 (by decide) h (fun h => ?_) (fun h => ?_)
            · refine wa_aload_n fx 0 dX4_copy_110 rfl ?_
              refine wa_ldc fx q_5_4 dX4_copy_111 ?_
              refine wa_V (b := ad 0) (rmc := (rmh 1)) (As := [.int (-1000000001 : Int32)]) (st := []) (wc := (mo_ws g ad st)) (wr := ([] : va_W)) (wcz := fun z5 => mo_ws g ad z5.2) (w2 := fun z5 => mo_ws g ad z5.2) (o := fun z5 => some (.int z5.1)) (s2 := fun z5 => [.int z5.1]) (ci := 4) (q0 := 0) fx mm_X4_finds q_5_16 dX4_copy_113 h (fun _ hz => c_X4_finds hz) rfl rfl (rm_ok (by decide) (by decide)) ⟨Nat.zero_le _, Nat.zero_le _⟩ rfl (List.Perm.refl _) (fun _ => List.Perm.refl _) rfl (Nat.le_of_ble_eq_true rfl) (fun _ => rfl) (fun z5 h => ?_)
              exact fn_i (mo_ws g ad) fx hf (sn1 h) (sn2 h) dX4_copy_116
            · refine wa_iload fx 4 dX4_copy_73 rfl ?_
              refine wa_if_lt fx 110 dX4_copy_75 (by decide) h (fun h => ?_) (fun h => ?_)
              · refine wa_aload_n fx 0 dX4_copy_110 rfl ?_
                refine wa_ldc fx q_5_4 dX4_copy_111 ?_
                refine wa_V (b := ad 0) (rmc := (rmh 1)) (As := [.int (-1000000001 : Int32)]) (st := []) (wc := (mo_ws g ad st)) (wr := ([] : va_W)) (wcz := fun z6 => mo_ws g ad z6.2) (w2 := fun z6 => mo_ws g ad z6.2) (o := fun z6 => some (.int z6.1)) (s2 := fun z6 => [.int z6.1]) (ci := 4) (q0 := 0) fx mm_X4_finds q_5_16 dX4_copy_113 h (fun _ hz => c_X4_finds hz) rfl rfl (rm_ok (by decide) (by decide)) ⟨Nat.zero_le _, Nat.zero_le _⟩ rfl (List.Perm.refl _) (fun _ => List.Perm.refl _) rfl (Nat.le_of_ble_eq_true rfl) (fun _ => rfl) (fun z6 h => ?_)
                exact fn_i (mo_ws g ad) fx hf (sn1 h) (sn2 h) dX4_copy_116
              · refine wa_iload fx 5 dX4_copy_78 rfl ?_
                refine wa_if_lt fx 110 dX4_copy_80 (by decide) h (fun h => ?_) (fun h => ?_)
                · refine wa_aload_n fx 0 dX4_copy_110 rfl ?_
                  refine wa_ldc fx q_5_4 dX4_copy_111 ?_
                  refine wa_V (b := ad 0) (rmc := (rmh 1)) (As := [.int (-1000000001 : Int32)]) (st := []) (wc := (mo_ws g ad st)) (wr := ([] : va_W)) (wcz := fun z7 => mo_ws g ad z7.2) (w2 := fun z7 => mo_ws g ad z7.2) (o := fun z7 => some (.int z7.1)) (s2 := fun z7 => [.int z7.1]) (ci := 4) (q0 := 0) fx mm_X4_finds q_5_16 dX4_copy_113 h (fun _ hz => c_X4_finds hz) rfl rfl (rm_ok (by decide) (by decide)) ⟨Nat.zero_le _, Nat.zero_le _⟩ rfl (List.Perm.refl _) (fun _ => List.Perm.refl _) rfl (Nat.le_of_ble_eq_true rfl) (fun _ => rfl) (fun z7 h => ?_)
                  exact fn_i (mo_ws g ad) fx hf (sn1 h) (sn2 h) dX4_copy_116
                · refine wa_iload fx 5 dX4_copy_83 rfl ?_
                  refine wa_aload_n fx 0 dX4_copy_85 rfl ?_
                  refine wa_get (v := .ref (ad 9)) fx wm_X4 0 rfl rfl 16 (by decide) q_3_23 rfl rfl dX4_copy_86 ?_
                  refine wa_iload_n fx 1 dX4_copy_89 rfl ?_
                  refine wa_iald (f := st.1 8) fx 9 rfl dX4_copy_90 h (fun h => ?_)
                  refine wa_iload_n fx 2 dX4_copy_91 rfl ?_
                  refine wa_isub fx dX4_copy_92 ?_
                  refine wa_icmp_gt fx 110 dX4_copy_93 (by decide) h (fun h => ?_) (fun h => ?_)
                  · refine wa_aload_n fx 0 dX4_copy_110 rfl ?_
                    refine wa_ldc fx q_5_4 dX4_copy_111 ?_
                    refine wa_V (b := ad 0) (rmc := (rmh 1)) (As := [.int (-1000000001 : Int32)]) (st := []) (wc := (mo_ws g ad st)) (wr := ([] : va_W)) (wcz := fun z8 => mo_ws g ad z8.2) (w2 := fun z8 => mo_ws g ad z8.2) (o := fun z8 => some (.int z8.1)) (s2 := fun z8 => [.int z8.1]) (ci := 4) (q0 := 0) fx mm_X4_finds q_5_16 dX4_copy_113 h (fun _ hz => c_X4_finds hz) rfl rfl (rm_ok (by decide) (by decide)) ⟨Nat.zero_le _, Nat.zero_le _⟩ rfl (List.Perm.refl _) (fun _ => List.Perm.refl _) rfl (Nat.le_of_ble_eq_true rfl) (fun _ => rfl) (fun z8 h => ?_)
                    exact fn_i (mo_ws g ad) fx hf (sn1 h) (sn2 h) dX4_copy_116
                  · refine wa_iload fx 5 dX4_copy_96 rfl ?_
                    refine wa_aload_n fx 0 dX4_copy_98 rfl ?_
                    refine wa_get (v := .ref (ad 9)) fx wm_X4 0 rfl rfl 16 (by decide) q_3_23 rfl rfl dX4_copy_99 ?_
                    refine wa_iload_n fx 3 dX4_copy_102 rfl ?_
                    refine wa_iald (f := st.1 8) fx 9 rfl dX4_copy_103 h (fun h => ?_)
                    refine wa_iload fx 4 dX4_copy_104 rfl ?_
                    refine wa_isub fx dX4_copy_106 ?_
                    refine wa_icmp_le fx 117 dX4_copy_107 (by decide) h (fun h => ?_) (fun h => ?_)
                    · refine wa_iconst fx (0 : Int32) dX4_copy_117 (by decide) ?_
                      refine wa_istore fx [(6, .int (0 : Int32)), (0, .ref (ad 0)), (1, .int a1), (2, .int a2), (3, .int a3), (4, .int a4), (5, .int a5)] dX4_copy_118 (by decide) rfl ?_
                      refine wa_sub [1, 2, 3, 4, 5, 6, 0] rfl ?_
                      exact B120 200 a1 a2 a3 a4 a5 (0 : Int32) st h
                    · refine wa_aload_n fx 0 dX4_copy_110 rfl ?_
                      refine wa_ldc fx q_5_4 dX4_copy_111 ?_
                      refine wa_V (b := ad 0) (rmc := (rmh 1)) (As := [.int (-1000000001 : Int32)]) (st := []) (wc := (mo_ws g ad st)) (wr := ([] : va_W)) (wcz := fun z37 => mo_ws g ad z37.2) (w2 := fun z37 => mo_ws g ad z37.2) (o := fun z37 => some (.int z37.1)) (s2 := fun z37 => [.int z37.1]) (ci := 4) (q0 := 0) fx mm_X4_finds q_5_16 dX4_copy_113 h (fun _ hz => c_X4_finds hz) rfl rfl (rm_ok (by decide) (by decide)) ⟨Nat.zero_le _, Nat.zero_le _⟩ rfl (List.Perm.refl _) (fun _ => List.Perm.refl _) rfl (Nat.le_of_ble_eq_true rfl) (fun _ => rfl) (fun z37 h => ?_)
                      exact fn_i (mo_ws g ad) fx hf (sn1 h) (sn2 h) dX4_copy_116
          · refine wa_aload_n fx 0 dX4_copy_62 rfl ?_
            refine wa_ldc fx q_10_16 dX4_copy_63 ?_
            refine wa_V (b := ad 0) (rmc := (rmh 1)) (As := [.int (-1000000003 : Int32)]) (st := []) (wc := (mo_ws g ad st)) (wr := ([] : va_W)) (wcz := fun z38 => mo_ws g ad z38.2) (w2 := fun z38 => mo_ws g ad z38.2) (o := fun z38 => some (.int z38.1)) (s2 := fun z38 => [.int z38.1]) (ci := 4) (q0 := 0) fx mm_X4_finds q_5_16 dX4_copy_65 h (fun _ hz => c_X4_finds hz) rfl rfl (rm_ok (by decide) (by decide)) ⟨Nat.zero_le _, Nat.zero_le _⟩ rfl (List.Perm.refl _) (fun _ => List.Perm.refl _) rfl (Nat.le_of_ble_eq_true rfl) (fun _ => rfl) (fun z38 h => ?_)
            exact fn_i (mo_ws g ad) fx hf (sn1 h) (sn2 h) dX4_copy_68
def f_X4_lays_b114 (k21 : (Int32) → (Int32) → (Int32) → (StT) → Option (Int32 × (StT))) (x21 : Int32) (x22 : Int32) (x23 : Int32) (x24 : Int32) (w25 : StT) : Option (Int32 × (StT)) := nm (x24 + x23) fun x26 => nm (x22 + (1 : Int32)) fun x27 => k21 x21 x26 x27 w25
def f_X4_lays_b102 (k21 : (Int32) → (Int32) → (Int32) → (StT) → Option (Int32 × (StT))) (x13 : Int32) (x14 : Int32) (x15 : Int32) (x16 : Int32) (x17 : Int32) (x18 : Int32) (w19 : StT) : Option (Int32 × (StT)) := ck x18 66 (nm (setA w19 0 (upd (w19.1 0) (Int32.toNatClampNeg x18) x17)) fun w20 => if x16 = 0 then (f_X4_lays_b114 k21 x13 x15 (0 : Int32) x14 w20) else (f_X4_lays_b114 k21 x13 x15 (1 : Int32) x14 w20))
def f_X4_lays_l21 : Nat → (Int32) → (Int32) → (Int32) → (StT) → Option (Int32 × (StT))
  | 0, _, _, _, _ => none
  | n + 1, x6, x7, x8, w9 => ck x6 4 (if (w9.1 8 (Int32.toNatClampNeg x6)) ≤ x8 then (some (x7, w9)) else (if (8 : Int32) ≤ x8 then (some (x7, w9)) else (ck (((40 : Int32) * x6) + x8) 160 (Option.bind (f_X4_in (w9.2.1 0 (Int32.toNatClampNeg (((40 : Int32) * x6) + x8))) (0 : Int64) (20 : Int64)) fun z10 => Option.bind (f_X4_chairAt x8 (0 : Int32)) fun z11 => if z10 = 0 then (Option.bind (f_X4_chairAt x8 (0 : Int32)) fun z12 => ck z12 66 (f_X4_lays_b102 (f_X4_lays_l21 n) x6 x7 x8 z10 (w9.1 0 (Int32.toNatClampNeg z12)) z11 w9)) else (ck (((40 : Int32) * x6) + x8) 160 (f_X4_lays_b102 (f_X4_lays_l21 n) x6 x7 x8 z10 (Int64.toInt32 (w9.2.1 0 (Int32.toNatClampNeg (((40 : Int32) * x6) + x8)))) z11 w9))))))
def f_X4_lays  (st : StT) (a1 : Int32) : Option (Int32 × (StT)) := Option.bind (f_X4_wrongSheet st a1) fun z1 => if z1 = 0 then (f_X4_lays_l21 200 a1 (0 : Int32) (0 : Int32) st) else (Option.bind (f_X4_finds st z1) fun z28 => some (z28.1, z28.2))
set_option maxHeartbeats 4000000 in
set_option maxRecDepth 100000 in
theorem c_X4_lays {g : GT} {l : Launch} {ad : Nat → Nat}   {st : StT} {a1 : Int32} {r : Int32 × (StT)} (h : f_X4_lays st a1 = some r) : Ct g l yX4_lays (wd yX4_lays cX4_lays 6 (some .int)) (rmh 4) [.ref (ad 0), .int a1] (mo_ws g ad st) (mo_ws g ad r.2) (some (.int r.1)) := by
  refine Ct.of (lv := [(0, .ref (ad 0)), (1, .int a1)]) (by decide) (Nat.le_of_ble_eq_true rfl) rfl (fun K hl fx hf => ?_)
  subst hl
  rw [f_X4_lays] at h
  have B114 : ∀ (k21 : (Int32) → (Int32) → (Int32) → (StT) → Option (Int32 × (StT))) (Hk21 : ∀ (y2 : Int32) (y3 : Int32) (y4 : Int32) (w5 : StT), k21 y2 y3 y4 w5 = some r → WA g K 6 0 0 21 [(0, .ref (ad 0)), (1, .int y2), (3, .int y3), (4, .int y4)] [] (mo_ws g ad w5)) (x21 : Int32) (x22 : Int32) (x23 : Int32) (x24 : Int32) (w25 : StT), f_X4_lays_b114 k21 x21 x22 x23 x24 w25 = some r → WA g K 6 0 0 114 [(0, .ref (ad 0)), (1, .int x21), (4, .int x22)] [.int x23, .int x24] (mo_ws g ad w25) := by
    intro  k21 Hk21 x21 x22 x23 x24 w25 h
    rw [f_X4_lays_b114] at h
    refine wa_iadd fx dX4_lays_114 ?_
    refine wa_istore_nN fx (fun x26 => [(3, .int x26), (0, .ref (ad 0)), (1, .int x21), (4, .int x22)]) dX4_lays_115 rfl (by decide) (fun _ => rfl) h (fun x26 h => ?_)
    refine wa_iinc fx 3 (fun x27 => [(4, .int x27), (3, .int x26), (0, .ref (ad 0)), (1, .int x21)]) dX4_lays_116 rfl (by rfl) (by decide) (fun _ => rfl) h (fun x27 h => ?_)
    refine wa_goto fx 21 dX4_lays_119 (by decide) ?_
    refine wa_sub [2, 3, 1, 0] rfl ?_
    exact Hk21 x21 x26 x27 w25 h
  have B102 : ∀ (k21 : (Int32) → (Int32) → (Int32) → (StT) → Option (Int32 × (StT))) (Hk21 : ∀ (y2 : Int32) (y3 : Int32) (y4 : Int32) (w5 : StT), k21 y2 y3 y4 w5 = some r → WA g K 6 0 0 21 [(0, .ref (ad 0)), (1, .int y2), (3, .int y3), (4, .int y4)] [] (mo_ws g ad w5)) (x13 : Int32) (x14 : Int32) (x15 : Int32) (x16 : Int32) (x17 : Int32) (x18 : Int32) (w19 : StT), f_X4_lays_b102 k21 x13 x14 x15 x16 x17 x18 w19 = some r → WA g K 6 0 0 102 [(0, .ref (ad 0)), (1, .int x13), (3, .int x14), (4, .int x15), (5, .int x16)] [.int x17, .int x18, .ref (ad 1)] (mo_ws g ad w19) := by
    intro  k21 Hk21 x13 x14 x15 x16 x17 x18 w19 h
    rw [f_X4_lays_b102] at h
    refine wa_iast (mo_ws g ad) (f := w19.1 0) fx 1 rfl dX4_lays_102 h rfl (fun w20 h => ?_)
    refine wa_iload_n fx 2 dX4_lays_103 rfl ?_
    refine wa_iload fx 4 dX4_lays_104 rfl ?_
    refine wa_if_eq fx 113 dX4_lays_106 (by decide) h (fun h => ?_) (fun h => ?_)
    · refine wa_iconst fx (0 : Int32) dX4_lays_113 (by decide) ?_
      refine wa_sub [0, 1, 3] rfl ?_
      exact B114 k21 Hk21 x13 x15 (0 : Int32) x14 w20 h
    · refine wa_iconst fx (1 : Int32) dX4_lays_109 (by decide) ?_
      refine wa_goto fx 114 dX4_lays_110 (by decide) ?_
      refine wa_sub [0, 1, 3] rfl ?_
      exact B114 k21 Hk21 x13 x15 (1 : Int32) x14 w20 h
  have B21 : ∀  (n : Nat) (x6 : Int32) (x7 : Int32) (x8 : Int32) (w9 : StT), f_X4_lays_l21 n x6 x7 x8 w9 = some r → WA g K 6 0 0 21 [(0, .ref (ad 0)), (1, .int x6), (3, .int x7), (4, .int x8)] [] (mo_ws g ad w9) := by
    intro   n
    induction n with
    | zero => intro x6 x7 x8 w9 h; exact absurd h (by rw [f_X4_lays_l21]; exact nofun)
    | succ n ih =>
      intro x6 x7 x8 w9 h
      rw [f_X4_lays_l21] at h
      refine wa_iload fx 3 dX4_lays_21 rfl ?_
      refine wa_aload_n fx 0 dX4_lays_23 rfl ?_
      refine wa_get (v := .ref (ad 9)) fx wm_X4 0 rfl rfl 16 (by decide) q_3_23 rfl rfl dX4_lays_24 ?_
      refine wa_iload_n fx 1 dX4_lays_27 rfl ?_
      refine wa_iald (f := w9.1 8) fx 9 rfl dX4_lays_28 h (fun h => ?_)
      refine wa_icmp_ge fx 122 dX4_lays_29 (by decide) h (fun h => ?_) (fun h => ?_)
      · refine wa_iload_n fx 2 dX4_lays_122 rfl ?_
        exact fn_i (mo_ws g ad) fx hf (sn1 h) (sn2 h) dX4_lays_123
      · refine wa_iload fx 3 dX4_lays_32 rfl ?_
        refine wa_bipush fx (8 : Int32) dX4_lays_34 (by decide) ?_
        refine wa_icmp_ge fx 122 dX4_lays_36 (by decide) h (fun h => ?_) (fun h => ?_)
        · refine wa_iload_n fx 2 dX4_lays_122 rfl ?_
          exact fn_i (mo_ws g ad) fx hf (sn1 h) (sn2 h) dX4_lays_123
        · refine wa_aload_n fx 0 dX4_lays_39 rfl ?_
          refine wa_get (v := .ref (ad 10)) fx wm_X4 0 rfl rfl 17 (by decide) q_4_0 rfl rfl dX4_lays_40 ?_
          refine wa_bipush fx (40 : Int32) dX4_lays_43 (by decide) ?_
          refine wa_iload_n fx 1 dX4_lays_45 rfl ?_
          refine wa_imul fx dX4_lays_46 ?_
          refine wa_iload fx 3 dX4_lays_47 rfl ?_
          refine wa_iadd fx dX4_lays_49 ?_
          refine wa_lald (f := w9.2.1 0) fx 10 rfl dX4_lays_50 h (fun h => ?_)
          refine wa_lconst fx (0 : Int64) dX4_lays_51 (by decide) ?_
          refine wa_ldc2 fx q_5_2 dX4_lays_52 ?_
          refine wa_S (rmc := (rmh 1)) (As := [.long (w9.2.1 0 (Int32.toNatClampNeg (((40 : Int32) * x6) + x8))), .long (0 : Int64), .long (20 : Int64)]) (st := []) (wc := (no_ws ())) (wr := (mo_ws g ad w9)) (wcz := fun _ => (no_ws ())) (w2 := fun _ => (mo_ws g ad w9)) (o := fun z10 => some (.int z10)) (s2 := fun z10 => [.int z10]) fx mm_X4_in q_5_5 dX4_lays_55 h (fun _ hz => c_X4_in hz) (rm_ok (by decide) (by decide)) ⟨Nat.zero_le _, Nat.zero_le _⟩ rfl (List.Perm.of_eq (List.append_nil _).symm) (fun _ => (List.Perm.of_eq (List.append_nil _).symm)) rfl (Nat.le_of_ble_eq_true rfl) (fun _ => rfl) (fun z10 h => ?_)
          refine wa_istore fx [(5, .int z10), (0, .ref (ad 0)), (1, .int x6), (3, .int x7), (4, .int x8)] dX4_lays_58 (by decide) rfl ?_
          refine wa_aload_n fx 1 dX4_lays_60 rfl ?_
          refine wa_get (v := .ref (ad 1)) fx wm_X4 0 rfl rfl 0 (by decide) q_3_15 rfl rfl dX4_lays_61 ?_
          refine wa_iload fx 4 dX4_lays_64 rfl ?_
          refine wa_iconst fx (0 : Int32) dX4_lays_66 (by decide) ?_
          refine wa_S (rmc := (rmh 1)) (As := [.int x8, .int (0 : Int32)]) (st := [.ref (ad 1)]) (wc := (no_ws ())) (wr := (mo_ws g ad w9)) (wcz := fun _ => (no_ws ())) (w2 := fun _ => (mo_ws g ad w9)) (o := fun z11 => some (.int z11)) (s2 := fun z11 => [.int z11, .ref (ad 1)]) fx mm_X4_chairAt q_4_2 dX4_lays_67 h (fun _ hz => c_X4_chairAt hz) (rm_ok (by decide) (by decide)) ⟨Nat.zero_le _, Nat.zero_le _⟩ rfl (List.Perm.of_eq (List.append_nil _).symm) (fun _ => (List.Perm.of_eq (List.append_nil _).symm)) rfl (Nat.le_of_ble_eq_true rfl) (fun _ => rfl) (fun z11 h => ?_)
          refine wa_iload fx 0 dX4_lays_70 rfl ?_
          refine wa_if_eq fx 91 dX4_lays_72 (by decide) h (fun h => ?_) (fun h => ?_)
          · refine wa_aload_n fx 1 dX4_lays_91 rfl ?_
            refine wa_get (v := .ref (ad 1)) fx wm_X4 0 rfl rfl 0 (by decide) q_3_15 rfl rfl dX4_lays_92 ?_
            refine wa_iload fx 4 dX4_lays_95 rfl ?_
            refine wa_iconst fx (0 : Int32) dX4_lays_97 (by decide) ?_
            refine wa_S (rmc := (rmh 1)) (As := [.int x8, .int (0 : Int32)]) (st := [.ref (ad 1), .int z11, .ref (ad 1)]) (wc := (no_ws ())) (wr := (mo_ws g ad w9)) (wcz := fun _ => (no_ws ())) (w2 := fun _ => (mo_ws g ad w9)) (o := fun z12 => some (.int z12)) (s2 := fun z12 => [.int z12, .ref (ad 1), .int z11, .ref (ad 1)]) fx mm_X4_chairAt q_4_2 dX4_lays_98 h (fun _ hz => c_X4_chairAt hz) (rm_ok (by decide) (by decide)) ⟨Nat.zero_le _, Nat.zero_le _⟩ rfl (List.Perm.of_eq (List.append_nil _).symm) (fun _ => (List.Perm.of_eq (List.append_nil _).symm)) rfl (Nat.le_of_ble_eq_true rfl) (fun _ => rfl) (fun z12 h => ?_)
            refine wa_iald (f := w9.1 0) fx 1 rfl dX4_lays_101 h (fun h => ?_)
            refine wa_sub [1, 2, 3, 4, 0] rfl ?_
            exact B102 (f_X4_lays_l21 n) ih x6 x7 x8 z10 (w9.1 0 (Int32.toNatClampNeg z12)) z11 w9 h
          · refine wa_aload_n fx 1 dX4_lays_75 rfl ?_
            refine wa_get (v := .ref (ad 10)) fx wm_X4 0 rfl rfl 17 (by decide) q_4_0 rfl rfl dX4_lays_76 ?_
            refine wa_bipush fx (40 : Int32) dX4_lays_79 (by decide) ?_
            refine wa_iload_n fx 2 dX4_lays_81 rfl ?_
            refine wa_imul fx dX4_lays_82 ?_
            refine wa_iload fx 4 dX4_lays_83 rfl ?_
            refine wa_iadd fx dX4_lays_85 ?_
            refine wa_lald (f := w9.2.1 0) fx 10 rfl dX4_lays_86 h (fun h => ?_)
            refine wa_l2i fx dX4_lays_87 ?_
            refine wa_goto fx 102 dX4_lays_88 (by decide) ?_
            refine wa_sub [1, 2, 3, 4, 0] rfl ?_
            exact B102 (f_X4_lays_l21 n) ih x6 x7 x8 z10 (Int64.toInt32 (w9.2.1 0 (Int32.toNatClampNeg (((40 : Int32) * x6) + x8)))) z11 w9 h
  refine wa_aload_n fx 0 dX4_lays_0 rfl ?_
  refine wa_iload_n fx 1 dX4_lays_1 rfl ?_
  refine wa_V (b := ad 0) (rmc := (rmh 3)) (As := [.int a1]) (st := []) (wc := (mo_ws g ad st)) (wr := ([] : va_W)) (wcz := fun _ => (mo_ws g ad st)) (w2 := fun _ => (mo_ws g ad st)) (o := fun z1 => some (.int z1)) (s2 := fun z1 => [.int z1]) (ci := 4) (q0 := 0) fx mm_X4_wrongSheet q_36_2 dX4_lays_2 h (fun _ hz => c_X4_wrongSheet hz) rfl rfl (rm_ok (by decide) (by decide)) ⟨Nat.zero_le _, Nat.zero_le _⟩ rfl (List.Perm.refl _) (fun _ => (List.Perm.refl _)) rfl (Nat.le_of_ble_eq_true rfl) (fun _ => rfl) (fun z1 h => ?_)
  refine wa_istore_n fx [(2, .int z1), (0, .ref (ad 0)), (1, .int a1)] dX4_lays_5 rfl (by decide) rfl ?_
  refine wa_iload_n fx 0 dX4_lays_6 rfl ?_
  refine wa_if_eq fx 16 dX4_lays_7 (by decide) h (fun h => ?_) (fun h => ?_)
  · refine wa_iconst fx (0 : Int32) dX4_lays_16 (by decide) ?_
    refine wa_istore_n fx [(3, .int (0 : Int32)), (2, .int z1), (0, .ref (ad 0)), (1, .int a1)] dX4_lays_17 rfl (by decide) rfl ?_
    refine wa_iconst fx (0 : Int32) dX4_lays_18 (by decide) ?_
    refine wa_istore fx [(4, .int (0 : Int32)), (3, .int (0 : Int32)), (2, .int z1), (0, .ref (ad 0)), (1, .int a1)] dX4_lays_19 (by decide) rfl ?_
    refine wa_sub [3, 4, 1, 0] rfl ?_
    exact B21 200 a1 (0 : Int32) (0 : Int32) st h
  · refine wa_aload_n fx 1 dX4_lays_10 rfl ?_
    refine wa_iload_n fx 0 dX4_lays_11 rfl ?_
    refine wa_V (b := ad 0) (rmc := (rmh 1)) (As := [.int z1]) (st := []) (wc := (mo_ws g ad st)) (wr := ([] : va_W)) (wcz := fun z28 => mo_ws g ad z28.2) (w2 := fun z28 => mo_ws g ad z28.2) (o := fun z28 => some (.int z28.1)) (s2 := fun z28 => [.int z28.1]) (ci := 4) (q0 := 0) fx mm_X4_finds q_5_16 dX4_lays_12 h (fun _ hz => c_X4_finds hz) rfl rfl (rm_ok (by decide) (by decide)) ⟨Nat.zero_le _, Nat.zero_le _⟩ rfl (List.Perm.refl _) (fun _ => List.Perm.refl _) rfl (Nat.le_of_ble_eq_true rfl) (fun _ => rfl) (fun z28 h => ?_)
    exact fn_i (mo_ws g ad) fx hf (sn1 h) (sn2 h) dX4_lays_15
def f_X4_wrongBook (st : StT) (a1 : Int32) (a2 : Int32) : Option (Int32) := Option.bind (f_X4_wrongSheet st a1) fun z1 => if z1 = 0 then (Option.bind (f_X4_isPerson st a2) fun z2 => if z2 = 0 then (some (-1000000001 : Int32)) else (some (0 : Int32))) else (some z1)
set_option maxHeartbeats 4000000 in
set_option maxRecDepth 100000 in
theorem c_X4_wrongBook {g : GT} {l : Launch} {ad : Nat → Nat}   {st : StT} {a1 : Int32} {a2 : Int32} {r : Int32} (h : f_X4_wrongBook st a1 a2 = some r) : Ct g l yX4_wrongBook (wd yX4_wrongBook cX4_wrongBook 4 (some .int)) (rmh 4) [.ref (ad 0), .int a1, .int a2] (mo_ws g ad st) (mo_ws g ad st) (some (.int r)) := by
  refine Ct.of (lv := [(0, .ref (ad 0)), (1, .int a1), (2, .int a2)]) (by decide) (Nat.le_of_ble_eq_true rfl) rfl (fun K hl fx hf => ?_)
  subst hl
  rw [f_X4_wrongBook] at h
  refine wa_aload_n fx 0 dX4_wrongBook_0 rfl ?_
  refine wa_iload_n fx 1 dX4_wrongBook_1 rfl ?_
  refine wa_V (b := ad 0) (rmc := (rmh 3)) (As := [.int a1]) (st := []) (wc := (mo_ws g ad st)) (wr := ([] : va_W)) (wcz := fun _ => (mo_ws g ad st)) (w2 := fun _ => (mo_ws g ad st)) (o := fun z1 => some (.int z1)) (s2 := fun z1 => [.int z1]) (ci := 4) (q0 := 0) fx mm_X4_wrongSheet q_36_2 dX4_wrongBook_2 h (fun _ hz => c_X4_wrongSheet hz) rfl rfl (rm_ok (by decide) (by decide)) ⟨Nat.zero_le _, Nat.zero_le _⟩ rfl (List.Perm.refl _) (fun _ => (List.Perm.refl _)) rfl (Nat.le_of_ble_eq_true rfl) (fun _ => rfl) (fun z1 h => ?_)
  refine wa_istore_n fx [(3, .int z1), (0, .ref (ad 0)), (1, .int a1), (2, .int a2)] dX4_wrongBook_5 rfl (by decide) rfl ?_
  refine wa_iload_n fx 0 dX4_wrongBook_6 rfl ?_
  refine wa_if_eq fx 14 dX4_wrongBook_7 (by decide) h (fun h => ?_) (fun h => ?_)
  · refine wa_aload_n fx 1 dX4_wrongBook_14 rfl ?_
    refine wa_iload_n fx 3 dX4_wrongBook_15 rfl ?_
    refine wa_V (b := ad 0) (rmc := (rmh 2)) (As := [.int a2]) (st := []) (wc := (mo_ws g ad st)) (wr := ([] : va_W)) (wcz := fun _ => (mo_ws g ad st)) (w2 := fun _ => (mo_ws g ad st)) (o := fun z2 => some (.int z2)) (s2 := fun z2 => [.int z2]) (ci := 4) (q0 := 0) fx mm_X4_isPerson q_8_18 dX4_wrongBook_16 h (fun _ hz => c_X4_isPerson hz) rfl rfl (rm_ok (by decide) (by decide)) ⟨Nat.zero_le _, Nat.zero_le _⟩ rfl (List.Perm.refl _) (fun _ => (List.Perm.refl _)) rfl (Nat.le_of_ble_eq_true rfl) (fun _ => rfl) (fun z2 h => ?_)
    refine wa_if_eq fx 26 dX4_wrongBook_19 (by decide) h (fun h => ?_) (fun h => ?_)
    · refine wa_ldc fx q_5_4 dX4_wrongBook_26 ?_
      exact fn_i (mo_ws g ad) fx hf (Option.some.inj h) rfl dX4_wrongBook_28
    · refine wa_iconst fx (0 : Int32) dX4_wrongBook_22 (by decide) ?_
      refine wa_goto fx 28 dX4_wrongBook_23 (by decide) ?_
      exact fn_i (mo_ws g ad) fx hf (Option.some.inj h) rfl dX4_wrongBook_28
  · refine wa_iload_n fx 0 dX4_wrongBook_10 rfl ?_
    refine wa_goto fx 28 dX4_wrongBook_11 (by decide) ?_
    exact fn_i (mo_ws g ad) fx hf (Option.some.inj h) rfl dX4_wrongBook_28
def f_X4_book_l24 : Nat → (Int32) → (Int32) → (Int32) → (StT) → Option (Int32 × (StT))
  | 0, _, _, _, _ => none
  | n + 1, x7, x8, x9, w10 => ck x7 4 (if (w10.1 8 (Int32.toNatClampNeg x7)) ≤ x9 then (ck x7 4 (Option.bind (f_X4_takesBack w10 (w10.1 8 (Int32.toNatClampNeg x7))) fun z11 => some (z11.1, z11.2))) else (ck x7 4 (Option.bind (f_X4_its w10 x8 (5 : Int32)) fun z12 => Option.bind (f_X4_narrowed (w10.1 7 (Int32.toNatClampNeg x7)) (Int32.toInt64 z12)) fun z13 => ck (((40 : Int32) * x7) + x9) 160 (nm (setL w10 0 (vp_updL (w10.2.1 0) (Int32.toNatClampNeg (((40 : Int32) * x7) + x9)) z13)) fun w14 => Option.bind (f_X4_hour w14) fun z15 => nm z15.1 fun x16 => nm (x9 + (1 : Int32)) fun x17 => (f_X4_book_l24 n) x7 x8 x17 z15.2))))
def f_X4_book  (st : StT) (a1 : Int32) (a2 : Int32) : Option (Int32 × (StT)) := Option.bind (f_X4_wrongBook st a1 a2) fun z1 => if z1 = 0 then (Option.bind (f_X4_laysAside st) fun z2 => f_X4_book_l24 200 a1 a2 (0 : Int32) z2) else (Option.bind (f_X4_finds st z1) fun z18 => some (z18.1, z18.2))
set_option maxHeartbeats 4000000 in
set_option maxRecDepth 100000 in
theorem c_X4_book {g : GT} {l : Launch} {ad : Nat → Nat}   {st : StT} {a1 : Int32} {a2 : Int32} {r : Int32 × (StT)} (h : f_X4_book st a1 a2 = some r) : Ct g l yX4_book (wd yX4_book cX4_book 6 (some .int)) (rmh 9) [.ref (ad 0), .int a1, .int a2] (mo_ws g ad st) (mo_ws g ad r.2) (some (.int r.1)) := by
  refine Ct.of (lv := [(0, .ref (ad 0)), (1, .int a1), (2, .int a2)]) (by decide) (Nat.le_of_ble_eq_true rfl) rfl (fun K hl fx hf => ?_)
  subst hl
  rw [f_X4_book] at h
  have B24 : ∀  (n : Nat) (x7 : Int32) (x8 : Int32) (x9 : Int32) (w10 : StT), f_X4_book_l24 n x7 x8 x9 w10 = some r → WA g K 6 0 0 24 [(0, .ref (ad 0)), (1, .int x7), (2, .int x8), (4, .int x9)] [] (mo_ws g ad w10) := by
    intro   n
    induction n with
    | zero => intro x7 x8 x9 w10 h; exact absurd h (by rw [f_X4_book_l24]; exact nofun)
    | succ n ih =>
      intro x7 x8 x9 w10 h
      rw [f_X4_book_l24] at h
      refine wa_iload fx 3 dX4_book_24 rfl ?_
      refine wa_aload_n fx 0 dX4_book_26 rfl ?_
      refine wa_get (v := .ref (ad 9)) fx wm_X4 0 rfl rfl 16 (by decide) q_3_23 rfl rfl dX4_book_27 ?_
      refine wa_iload_n fx 1 dX4_book_30 rfl ?_
      refine wa_iald (f := w10.1 8) fx 9 rfl dX4_book_31 h (fun h => ?_)
      refine wa_icmp_ge fx 75 dX4_book_32 (by decide) h (fun h => ?_) (fun h => ?_)
      · refine wa_aload_n fx 0 dX4_book_75 rfl ?_
        refine wa_aload_n fx 0 dX4_book_76 rfl ?_
        refine wa_get (v := .ref (ad 9)) fx wm_X4 0 rfl rfl 16 (by decide) q_3_23 rfl rfl dX4_book_77 ?_
        refine wa_iload_n fx 1 dX4_book_80 rfl ?_
        refine wa_iald (f := w10.1 8) fx 9 rfl dX4_book_81 h (fun h => ?_)
        refine wa_V (b := ad 0) (rmc := (rmh 1)) (As := [.int (w10.1 8 (Int32.toNatClampNeg x7))]) (st := []) (wc := (mo_ws g ad w10)) (wr := ([] : va_W)) (wcz := fun z11 => mo_ws g ad z11.2) (w2 := fun z11 => mo_ws g ad z11.2) (o := fun z11 => some (.int z11.1)) (s2 := fun z11 => [.int z11.1]) (ci := 4) (q0 := 0) fx mm_X4_takesBack q_19_12 dX4_book_82 h (fun _ hz => c_X4_takesBack hz) rfl rfl (rm_ok (by decide) (by decide)) ⟨Nat.zero_le _, Nat.zero_le _⟩ rfl (List.Perm.refl _) (fun _ => List.Perm.refl _) rfl (Nat.le_of_ble_eq_true rfl) (fun _ => rfl) (fun z11 h => ?_)
        exact fn_i (mo_ws g ad) fx hf (sn1 h) (sn2 h) dX4_book_85
      · refine wa_aload_n fx 0 dX4_book_35 rfl ?_
        refine wa_get (v := .ref (ad 10)) fx wm_X4 0 rfl rfl 17 (by decide) q_4_0 rfl rfl dX4_book_36 ?_
        refine wa_bipush fx (40 : Int32) dX4_book_39 (by decide) ?_
        refine wa_iload_n fx 1 dX4_book_41 rfl ?_
        refine wa_imul fx dX4_book_42 ?_
        refine wa_iload fx 3 dX4_book_43 rfl ?_
        refine wa_iadd fx dX4_book_45 ?_
        refine wa_aload_n fx 0 dX4_book_46 rfl ?_
        refine wa_get (v := .ref (ad 8)) fx wm_X4 0 rfl rfl 15 (by decide) q_3_22 rfl rfl dX4_book_47 ?_
        refine wa_iload_n fx 1 dX4_book_50 rfl ?_
        refine wa_iald (f := w10.1 7) fx 8 rfl dX4_book_51 h (fun h => ?_)
        refine wa_aload_n fx 0 dX4_book_52 rfl ?_
        refine wa_iload_n fx 2 dX4_book_53 rfl ?_
        refine wa_iconst fx (5 : Int32) dX4_book_54 (by decide) ?_
        refine wa_V (b := ad 0) (rmc := (rmh 2)) (As := [.int x8, .int (5 : Int32)]) (st := [.int (w10.1 7 (Int32.toNatClampNeg x7)), .int (((40 : Int32) * x7) + x9), .ref (ad 10)]) (wc := (mo_ws g ad w10)) (wr := ([] : va_W)) (wcz := fun _ => (mo_ws g ad w10)) (w2 := fun _ => (mo_ws g ad w10)) (o := fun z12 => some (.int z12)) (s2 := fun z12 => [.int z12, .int (w10.1 7 (Int32.toNatClampNeg x7)), .int (((40 : Int32) * x7) + x9), .ref (ad 10)]) (ci := 4) (q0 := 0) fx mm_X4_its q_6_10 dX4_book_55 h (fun _ hz => c_X4_its hz) rfl rfl (rm_ok (by decide) (by decide)) ⟨Nat.zero_le _, Nat.zero_le _⟩ rfl (List.Perm.refl _) (fun _ => (List.Perm.refl _)) rfl (Nat.le_of_ble_eq_true rfl) (fun _ => rfl) (fun z12 h => ?_)
        refine wa_i2l fx dX4_book_58 ?_
        refine wa_S (rmc := (rmh 1)) (As := [.int (w10.1 7 (Int32.toNatClampNeg x7)), .long (Int32.toInt64 z12)]) (st := [.int (((40 : Int32) * x7) + x9), .ref (ad 10)]) (wc := (no_ws ())) (wr := (mo_ws g ad w10)) (wcz := fun _ => (no_ws ())) (w2 := fun _ => (mo_ws g ad w10)) (o := fun z13 => some (.long z13)) (s2 := fun z13 => [.long z13, .int (((40 : Int32) * x7) + x9), .ref (ad 10)]) fx mm_X4_narrowed q_36_7 dX4_book_59 h (fun _ hz => c_X4_narrowed hz) (rm_ok (by decide) (by decide)) ⟨Nat.zero_le _, Nat.zero_le _⟩ rfl (List.Perm.of_eq (List.append_nil _).symm) (fun _ => (List.Perm.of_eq (List.append_nil _).symm)) rfl (Nat.le_of_ble_eq_true rfl) (fun _ => rfl) (fun z13 h => ?_)
        refine wa_last (mo_ws g ad) (f := w10.2.1 0) fx 10 rfl dX4_book_62 h rfl (fun w14 h => ?_)
        refine wa_aload_n fx 0 dX4_book_63 rfl ?_
        refine wa_V (b := ad 0) (rmc := (rmh 8)) (As := []) (st := []) (wc := (mo_ws g ad w14)) (wr := ([] : va_W)) (wcz := fun z15 => mo_ws g ad z15.2) (w2 := fun z15 => mo_ws g ad z15.2) (o := fun z15 => some (.int z15.1)) (s2 := fun z15 => [.int z15.1]) (ci := 4) (q0 := 0) fx mm_X4_hour q_16_19 dX4_book_64 h (fun _ hz => c_X4_hour hz) rfl rfl (rm_ok (by decide) (by decide)) ⟨Nat.zero_le _, Nat.zero_le _⟩ rfl (List.Perm.refl _) (fun _ => List.Perm.refl _) rfl (Nat.le_of_ble_eq_true rfl) (fun _ => rfl) (fun z15 h => ?_)
        refine wa_istoreN fx (fun x16 => [(5, .int x16), (0, .ref (ad 0)), (1, .int x7), (2, .int x8), (4, .int x9)]) dX4_book_67 (by decide) (fun _ => rfl) h (fun x16 h => ?_)
        refine wa_iinc fx 4 (fun x17 => [(4, .int x17), (5, .int x16), (0, .ref (ad 0)), (1, .int x7), (2, .int x8)]) dX4_book_69 rfl (by rfl) (by decide) (fun _ => rfl) h (fun x17 h => ?_)
        refine wa_goto fx 24 dX4_book_72 (by decide) ?_
        refine wa_sub [2, 3, 4, 0] rfl ?_
        exact ih x7 x8 x17 z15.2 h
  refine wa_aload_n fx 0 dX4_book_0 rfl ?_
  refine wa_iload_n fx 1 dX4_book_1 rfl ?_
  refine wa_iload_n fx 2 dX4_book_2 rfl ?_
  refine wa_V (b := ad 0) (rmc := (rmh 4)) (As := [.int a1, .int a2]) (st := []) (wc := (mo_ws g ad st)) (wr := ([] : va_W)) (wcz := fun _ => (mo_ws g ad st)) (w2 := fun _ => (mo_ws g ad st)) (o := fun z1 => some (.int z1)) (s2 := fun z1 => [.int z1]) (ci := 4) (q0 := 0) fx mm_X4_wrongBook q_37_17 dX4_book_3 h (fun _ hz => c_X4_wrongBook hz) rfl rfl (rm_ok (by decide) (by decide)) ⟨Nat.zero_le _, Nat.zero_le _⟩ rfl (List.Perm.refl _) (fun _ => (List.Perm.refl _)) rfl (Nat.le_of_ble_eq_true rfl) (fun _ => rfl) (fun z1 h => ?_)
  refine wa_istore_n fx [(3, .int z1), (0, .ref (ad 0)), (1, .int a1), (2, .int a2)] dX4_book_6 rfl (by decide) rfl ?_
  refine wa_iload_n fx 0 dX4_book_7 rfl ?_
  refine wa_if_eq fx 17 dX4_book_8 (by decide) h (fun h => ?_) (fun h => ?_)
  · refine wa_aload_n fx 1 dX4_book_17 rfl ?_
    refine wa_V (b := ad 0) (rmc := (rmh 1)) (As := []) (st := []) (wc := (mo_ws g ad st)) (wr := ([] : va_W)) (wcz := fun z2 => mo_ws g ad z2) (w2 := fun z2 => mo_ws g ad z2) (o := fun _ => none) (s2 := fun z2 => []) (ci := 4) (q0 := 0) fx mm_X4_laysAside q_19_8 dX4_book_18 h (fun _ hz => c_X4_laysAside hz) rfl rfl (rm_ok (by decide) (by decide)) ⟨Nat.zero_le _, Nat.zero_le _⟩ rfl (List.Perm.refl _) (fun _ => List.Perm.refl _) rfl (Nat.le_of_ble_eq_true rfl) (fun _ => rfl) (fun z2 h => ?_)
    refine wa_iconst fx (0 : Int32) dX4_book_21 (by decide) ?_
    refine wa_istore fx [(4, .int (0 : Int32)), (3, .int z1), (0, .ref (ad 0)), (1, .int a1), (2, .int a2)] dX4_book_22 (by decide) rfl ?_
    refine wa_sub [2, 3, 4, 0] rfl ?_
    exact B24 200 a1 a2 (0 : Int32) z2 h
  · refine wa_aload_n fx 1 dX4_book_11 rfl ?_
    refine wa_iload_n fx 0 dX4_book_12 rfl ?_
    refine wa_V (b := ad 0) (rmc := (rmh 1)) (As := [.int z1]) (st := []) (wc := (mo_ws g ad st)) (wr := ([] : va_W)) (wcz := fun z18 => mo_ws g ad z18.2) (w2 := fun z18 => mo_ws g ad z18.2) (o := fun z18 => some (.int z18.1)) (s2 := fun z18 => [.int z18.1]) (ci := 4) (q0 := 0) fx mm_X4_finds q_5_16 dX4_book_13 h (fun _ hz => c_X4_finds hz) rfl rfl (rm_ok (by decide) (by decide)) ⟨Nat.zero_le _, Nat.zero_le _⟩ rfl (List.Perm.refl _) (fun _ => List.Perm.refl _) rfl (Nat.le_of_ble_eq_true rfl) (fun _ => rfl) (fun z18 h => ?_)
    exact fn_i (mo_ws g ad) fx hf (sn1 h) (sn2 h) dX4_book_16
