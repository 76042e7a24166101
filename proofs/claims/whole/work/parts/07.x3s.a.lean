def f_J6_bitCount_0f7a4  (a0 : Int32) : Option (Int32) := nm (a0 - ((UInt32.toInt32 (Int32.toUInt32 a0 >>> (Int32.toUInt32 (1 : Int32) &&& Int32.toUInt32 31))) &&& (1431655765 : Int32))) fun x1 => nm ((x1 &&& (858993459 : Int32)) + ((UInt32.toInt32 (Int32.toUInt32 x1 >>> (Int32.toUInt32 (2 : Int32) &&& Int32.toUInt32 31))) &&& (858993459 : Int32))) fun x2 => nm ((x2 + (UInt32.toInt32 (Int32.toUInt32 x2 >>> (Int32.toUInt32 (4 : Int32) &&& Int32.toUInt32 31)))) &&& (252645135 : Int32)) fun x3 => nm (x3 + (UInt32.toInt32 (Int32.toUInt32 x3 >>> (Int32.toUInt32 (8 : Int32) &&& Int32.toUInt32 31)))) fun x4 => nm (x4 + (UInt32.toInt32 (Int32.toUInt32 x4 >>> (Int32.toUInt32 (16 : Int32) &&& Int32.toUInt32 31)))) fun x5 => some (x5 &&& (63 : Int32))
set_option maxHeartbeats 4000000 in
set_option maxRecDepth 100000 in
theorem c_J6_bitCount_0f7a4 {g : GT} {l : Launch}   {a0 : Int32} {r : Int32} (h : f_J6_bitCount_0f7a4 a0 = some r) : Ct g l yJ6_bitCount_0f7a4 (wd yJ6_bitCount_0f7a4 cJ6_bitCount_0f7a4 1 (some .int)) (rmh 1) [.int a0] (no_ws ()) (no_ws ()) (some (.int r)) := by
  refine Ct.of (lv := [(0, .int a0)]) (by decide) (Nat.le_of_ble_eq_true rfl) rfl (fun K hl fx hf => ?_)
  subst hl
  rw [f_J6_bitCount_0f7a4] at h
  refine wa_iload_n fx 0 dJ6_bitCount_0f7a4_0 rfl ?_
  refine wa_iload_n fx 0 dJ6_bitCount_0f7a4_1 rfl ?_
  refine wa_iconst fx (1 : Int32) dJ6_bitCount_0f7a4_2 (by decide) ?_
  refine wa_iushr fx dJ6_bitCount_0f7a4_3 ?_
  refine wa_ldcw fx q_39_22 dJ6_bitCount_0f7a4_4 ?_
  refine wa_iand fx dJ6_bitCount_0f7a4_7 ?_
  refine wa_isub fx dJ6_bitCount_0f7a4_8 ?_
  refine wa_istore_nN fx (fun x1 => [(0, .int x1)]) dJ6_bitCount_0f7a4_9 rfl (by decide) (fun _ => rfl) h (fun x1 h => ?_)
  refine wa_iload_n fx 0 dJ6_bitCount_0f7a4_10 rfl ?_
  refine wa_ldcw fx q_39_23 dJ6_bitCount_0f7a4_11 ?_
  refine wa_iand fx dJ6_bitCount_0f7a4_14 ?_
  refine wa_iload_n fx 0 dJ6_bitCount_0f7a4_15 rfl ?_
  refine wa_iconst fx (2 : Int32) dJ6_bitCount_0f7a4_16 (by decide) ?_
  refine wa_iushr fx dJ6_bitCount_0f7a4_17 ?_
  refine wa_ldcw fx q_39_23 dJ6_bitCount_0f7a4_18 ?_
  refine wa_iand fx dJ6_bitCount_0f7a4_21 ?_
  refine wa_iadd fx dJ6_bitCount_0f7a4_22 ?_
  refine wa_istore_nN fx (fun x2 => [(0, .int x2)]) dJ6_bitCount_0f7a4_23 rfl (by decide) (fun _ => rfl) h (fun x2 h => ?_)
  refine wa_iload_n fx 0 dJ6_bitCount_0f7a4_24 rfl ?_
  refine wa_iload_n fx 0 dJ6_bitCount_0f7a4_25 rfl ?_
  refine wa_iconst fx (4 : Int32) dJ6_bitCount_0f7a4_26 (by decide) ?_
  refine wa_iushr fx dJ6_bitCount_0f7a4_27 ?_
  refine wa_iadd fx dJ6_bitCount_0f7a4_28 ?_
  refine wa_ldcw fx q_40_0 dJ6_bitCount_0f7a4_29 ?_
  refine wa_iand fx dJ6_bitCount_0f7a4_32 ?_
  refine wa_istore_nN fx (fun x3 => [(0, .int x3)]) dJ6_bitCount_0f7a4_33 rfl (by decide) (fun _ => rfl) h (fun x3 h => ?_)
  refine wa_iload_n fx 0 dJ6_bitCount_0f7a4_34 rfl ?_
  refine wa_iload_n fx 0 dJ6_bitCount_0f7a4_35 rfl ?_
  refine wa_bipush fx (8 : Int32) dJ6_bitCount_0f7a4_36 (by decide) ?_
  refine wa_iushr fx dJ6_bitCount_0f7a4_38 ?_
  refine wa_iadd fx dJ6_bitCount_0f7a4_39 ?_
  refine wa_istore_nN fx (fun x4 => [(0, .int x4)]) dJ6_bitCount_0f7a4_40 rfl (by decide) (fun _ => rfl) h (fun x4 h => ?_)
  refine wa_iload_n fx 0 dJ6_bitCount_0f7a4_41 rfl ?_
  refine wa_iload_n fx 0 dJ6_bitCount_0f7a4_42 rfl ?_
  refine wa_bipush fx (16 : Int32) dJ6_bitCount_0f7a4_43 (by decide) ?_
  refine wa_iushr fx dJ6_bitCount_0f7a4_45 ?_
  refine wa_iadd fx dJ6_bitCount_0f7a4_46 ?_
  refine wa_istore_nN fx (fun x5 => [(0, .int x5)]) dJ6_bitCount_0f7a4_47 rfl (by decide) (fun _ => rfl) h (fun x5 h => ?_)
  refine wa_iload_n fx 0 dJ6_bitCount_0f7a4_48 rfl ?_
  refine wa_bipush fx (63 : Int32) dJ6_bitCount_0f7a4_49 (by decide) ?_
  refine wa_iand fx dJ6_bitCount_0f7a4_51 ?_
  exact fn_i (no_ws) fx hf (Option.some.inj h) rfl dJ6_bitCount_0f7a4_52
def f_X3_isWithin  (a0 : Int32) (a1 : Int32) (a2 : Int32) : Option (Int32) := if a0 < a1 then (some (0 : Int32)) else (if a2 < a0 then (some (0 : Int32)) else (some (1 : Int32)))
set_option maxHeartbeats 4000000 in
set_option maxRecDepth 100000 in
theorem c_X3_isWithin {g : GT} {l : Launch}   {a0 : Int32} {a1 : Int32} {a2 : Int32} {r : Int32} (h : f_X3_isWithin a0 a1 a2 = some r) : Ct g l yX3_isWithin (wd yX3_isWithin cX3_isWithin 3 (some .boolean)) (rmh 1) [.int a0, .int a1, .int a2] (no_ws ()) (no_ws ()) (some (.int r)) := by
  refine Ct.of (lv := [(0, .int a0), (1, .int a1), (2, .int a2)]) (by decide) (Nat.le_of_ble_eq_true rfl) rfl (fun K hl fx hf => ?_)
  subst hl
  rw [f_X3_isWithin] at h
  refine wa_iload_n fx 0 dX3_isWithin_0 rfl ?_
  refine wa_iload_n fx 1 dX3_isWithin_1 rfl ?_
  refine wa_icmp_lt fx 14 dX3_isWithin_2 (by decide) h (fun h => ?_) (fun h => ?_)
  · refine wa_iconst fx (0 : Int32) dX3_isWithin_14 (by decide) ?_
    exact fn_z (no_ws) fx hf (by decide) (Option.some.inj h) rfl dX3_isWithin_15
  · refine wa_iload_n fx 0 dX3_isWithin_5 rfl ?_
    refine wa_iload_n fx 2 dX3_isWithin_6 rfl ?_
    refine wa_icmp_gt fx 14 dX3_isWithin_7 (by decide) h (fun h => ?_) (fun h => ?_)
    · refine wa_iconst fx (0 : Int32) dX3_isWithin_14 (by decide) ?_
      exact fn_z (no_ws) fx hf (by decide) (Option.some.inj h) rfl dX3_isWithin_15
    · refine wa_iconst fx (1 : Int32) dX3_isWithin_10 (by decide) ?_
      refine wa_goto fx 15 dX3_isWithin_11 (by decide) ?_
      exact fn_z (no_ws) fx hf (by decide) (Option.some.inj h) rfl dX3_isWithin_15
def f_X3_isChair  (a0 : Int32) : Option (Int32) := Option.bind (f_X3_isWithin a0 (0 : Int32) (7 : Int32)) fun z1 => ckb z1 (some z1)
set_option maxHeartbeats 4000000 in
set_option maxRecDepth 100000 in
theorem c_X3_isChair {g : GT} {l : Launch}   {a0 : Int32} {r : Int32} (h : f_X3_isChair a0 = some r) : Ct g l yX3_isChair (wd yX3_isChair cX3_isChair 1 (some .boolean)) (rmh 2) [.int a0] (no_ws ()) (no_ws ()) (some (.int r)) := by
  refine Ct.of (lv := [(0, .int a0)]) (by decide) (Nat.le_of_ble_eq_true rfl) rfl (fun K hl fx hf => ?_)
  subst hl
  rw [f_X3_isChair] at h
  refine wa_iload_n fx 0 dX3_isChair_0 rfl ?_
  refine wa_iconst fx (0 : Int32) dX3_isChair_1 (by decide) ?_
  refine wa_bipush fx (7 : Int32) dX3_isChair_2 (by decide) ?_
  refine wa_S (rmc := (rmh 1)) (As := [.int a0, .int (0 : Int32), .int (7 : Int32)]) (st := []) (wc := (no_ws ())) (wr := (no_ws ())) (wcz := fun _ => (no_ws ())) (w2 := fun _ => (no_ws ())) (o := fun z1 => some (.int z1)) (s2 := fun z1 => [.int z1]) fx mm_X3_isWithin q_4_14 dX3_isChair_4 h (fun _ hz => c_X3_isWithin hz) (rm_ok (by decide) (by decide)) ⟨Nat.zero_le _, Nat.zero_le _⟩ rfl (List.Perm.of_eq (List.append_nil _).symm) (fun _ => (List.Perm.of_eq (List.append_nil _).symm)) rfl (Nat.le_of_ble_eq_true rfl) (fun _ => rfl) (fun z1 h => ?_)
  obtain ⟨hb, h⟩ := of_ckb h
  exact fn_z (no_ws) fx hf (nb_of hb) (Option.some.inj h) rfl dX3_isChair_7
def f_X3_isKind  (a0 : Int32) : Option (Int32) := Option.bind (f_X3_isWithin a0 (0 : Int32) (5 : Int32)) fun z1 => ckb z1 (some z1)
set_option maxHeartbeats 4000000 in
set_option maxRecDepth 100000 in
theorem c_X3_isKind {g : GT} {l : Launch}   {a0 : Int32} {r : Int32} (h : f_X3_isKind a0 = some r) : Ct g l yX3_isKind (wd yX3_isKind cX3_isKind 1 (some .boolean)) (rmh 2) [.int a0] (no_ws ()) (no_ws ()) (some (.int r)) := by
  refine Ct.of (lv := [(0, .int a0)]) (by decide) (Nat.le_of_ble_eq_true rfl) rfl (fun K hl fx hf => ?_)
  subst hl
  rw [f_X3_isKind] at h
  refine wa_iload_n fx 0 dX3_isKind_0 rfl ?_
  refine wa_iconst fx (0 : Int32) dX3_isKind_1 (by decide) ?_
  refine wa_iconst fx (5 : Int32) dX3_isKind_2 (by decide) ?_
  refine wa_S (rmc := (rmh 1)) (As := [.int a0, .int (0 : Int32), .int (5 : Int32)]) (st := []) (wc := (no_ws ())) (wr := (no_ws ())) (wcz := fun _ => (no_ws ())) (w2 := fun _ => (no_ws ())) (o := fun z1 => some (.int z1)) (s2 := fun z1 => [.int z1]) fx mm_X3_isWithin q_4_14 dX3_isKind_3 h (fun _ hz => c_X3_isWithin hz) (rm_ok (by decide) (by decide)) ⟨Nat.zero_le _, Nat.zero_le _⟩ rfl (List.Perm.of_eq (List.append_nil _).symm) (fun _ => (List.Perm.of_eq (List.append_nil _).symm)) rfl (Nat.le_of_ble_eq_true rfl) (fun _ => rfl) (fun z1 h => ?_)
  obtain ⟨hb, h⟩ := of_ckb h
  exact fn_z (no_ws) fx hf (nb_of hb) (Option.some.inj h) rfl dX3_isKind_6
def f_X3_isSheet  (a0 : Int32) : Option (Int32) := Option.bind (f_X3_isWithin a0 (0 : Int32) (3 : Int32)) fun z1 => ckb z1 (some z1)
set_option maxHeartbeats 4000000 in
set_option maxRecDepth 100000 in
theorem c_X3_isSheet {g : GT} {l : Launch}   {a0 : Int32} {r : Int32} (h : f_X3_isSheet a0 = some r) : Ct g l yX3_isSheet (wd yX3_isSheet cX3_isSheet 1 (some .boolean)) (rmh 2) [.int a0] (no_ws ()) (no_ws ()) (some (.int r)) := by
  refine Ct.of (lv := [(0, .int a0)]) (by decide) (Nat.le_of_ble_eq_true rfl) rfl (fun K hl fx hf => ?_)
  subst hl
  rw [f_X3_isSheet] at h
  refine wa_iload_n fx 0 dX3_isSheet_0 rfl ?_
  refine wa_iconst fx (0 : Int32) dX3_isSheet_1 (by decide) ?_
  refine wa_iconst fx (3 : Int32) dX3_isSheet_2 (by decide) ?_
  refine wa_S (rmc := (rmh 1)) (As := [.int a0, .int (0 : Int32), .int (3 : Int32)]) (st := []) (wc := (no_ws ())) (wr := (no_ws ())) (wcz := fun _ => (no_ws ())) (w2 := fun _ => (no_ws ())) (o := fun z1 => some (.int z1)) (s2 := fun z1 => [.int z1]) fx mm_X3_isWithin q_4_14 dX3_isSheet_3 h (fun _ hz => c_X3_isWithin hz) (rm_ok (by decide) (by decide)) ⟨Nat.zero_le _, Nat.zero_le _⟩ rfl (List.Perm.of_eq (List.append_nil _).symm) (fun _ => (List.Perm.of_eq (List.append_nil _).symm)) rfl (Nat.le_of_ble_eq_true rfl) (fun _ => rfl) (fun z1 h => ?_)
  obtain ⟨hb, h⟩ := of_ckb h
  exact fn_z (no_ws) fx hf (nb_of hb) (Option.some.inj h) rfl dX3_isSheet_6
def f_X3_isOfKind_l4 : Nat → (Int32) → (Int32) → (Int32) → Option (Int32)
  | 0, _, _, _ => none
  | n + 1, x4, x5, x6 => if (6 : Int32) ≤ x6 then (some (0 : Int32)) else (if x5 < 0 then (some (0 : Int32)) else (if (6 : Int32) ≤ x5 then (some (0 : Int32)) else (if x5 = x4 then (some (1 : Int32)) else (ck x5 6 (nm (kaF (Int32.toNatClampNeg x5)) fun x7 => nm (x6 + (1 : Int32)) fun x8 => (f_X3_isOfKind_l4 n) x4 x7 x8)))))
def f_X3_isOfKind  (a0 : Int32) (a1 : Int32) : Option (Int32) := f_X3_isOfKind_l4 200 a1 a0 (0 : Int32)
set_option maxHeartbeats 4000000 in
set_option maxRecDepth 100000 in
theorem c_X3_isOfKind {g : GT} {l : Launch}   {a0 : Int32} {a1 : Int32} {r : Int32} (h : f_X3_isOfKind a0 a1 = some r) : Ct g l yX3_isOfKind (wd yX3_isOfKind cX3_isOfKind 4 (some .boolean)) (rmh 1) [.int a0, .int a1] (no_ws ()) (no_ws ()) (some (.int r)) := by
  refine Ct.of (lv := [(0, .int a0), (1, .int a1)]) (by decide) (Nat.le_of_ble_eq_true rfl) rfl (fun K hl fx hf => ?_)
  subst hl
  rw [f_X3_isOfKind] at h
  have B4 : ∀  (n : Nat) (x4 : Int32) (x5 : Int32) (x6 : Int32), f_X3_isOfKind_l4 n x4 x5 x6 = some r → WA g K 4 0 0 4 [(1, .int x4), (2, .int x5), (3, .int x6)] [] (no_ws ()) := by
    intro   n
    induction n with
    | zero => intro x4 x5 x6 h; exact absurd h (by rw [f_X3_isOfKind_l4]; exact nofun)
    | succ n ih =>
      intro x4 x5 x6 h
      rw [f_X3_isOfKind_l4] at h
      refine wa_iload_n fx 2 dX3_isOfKind_4 rfl ?_
      refine wa_bipush fx (6 : Int32) dX3_isOfKind_5 (by decide) ?_
      refine wa_icmp_ge fx 39 dX3_isOfKind_7 (by decide) h (fun h => ?_) (fun h => ?_)
      · refine wa_iconst fx (0 : Int32) dX3_isOfKind_39 (by decide) ?_
        exact fn_z (no_ws) fx hf (by decide) (Option.some.inj h) rfl dX3_isOfKind_40
      · refine wa_iload_n fx 1 dX3_isOfKind_10 rfl ?_
        refine wa_if_lt fx 39 dX3_isOfKind_11 (by decide) h (fun h => ?_) (fun h => ?_)
        · refine wa_iconst fx (0 : Int32) dX3_isOfKind_39 (by decide) ?_
          exact fn_z (no_ws) fx hf (by decide) (Option.some.inj h) rfl dX3_isOfKind_40
        · refine wa_iload_n fx 1 dX3_isOfKind_14 rfl ?_
          refine wa_bipush fx (6 : Int32) dX3_isOfKind_15 (by decide) ?_
          refine wa_icmp_ge fx 39 dX3_isOfKind_17 (by decide) h (fun h => ?_) (fun h => ?_)
          · refine wa_iconst fx (0 : Int32) dX3_isOfKind_39 (by decide) ?_
            exact fn_z (no_ws) fx hf (by decide) (Option.some.inj h) rfl dX3_isOfKind_40
          · refine wa_iload_n fx 1 dX3_isOfKind_20 rfl ?_
            refine wa_iload_n fx 0 dX3_isOfKind_21 rfl ?_
            refine wa_icmp_ne fx 27 dX3_isOfKind_22 (by decide) h (fun h => ?_) (fun h => ?_)
            · refine wa_iconst fx (1 : Int32) dX3_isOfKind_25 (by decide) ?_
              exact fn_z (no_ws) fx hf (by decide) (Option.some.inj h) rfl dX3_isOfKind_26
            · refine wa_ka fx q_10_11 dX3_isOfKind_27 ?_
              refine wa_iload_n fx 1 dX3_isOfKind_30 rfl ?_
              refine wa_kald fx dX3_isOfKind_31 h (fun h => ?_)
              refine wa_istore_nN fx (fun x7 => [(2, .int x7), (1, .int x4), (3, .int x6)]) dX3_isOfKind_32 rfl (by decide) (fun _ => rfl) h (fun x7 h => ?_)
              refine wa_iinc fx 2 (fun x8 => [(3, .int x8), (2, .int x7), (1, .int x4)]) dX3_isOfKind_33 rfl (by rfl) (by decide) (fun _ => rfl) h (fun x8 h => ?_)
              refine wa_goto fx 4 dX3_isOfKind_36 (by decide) ?_
              refine wa_sub [2, 1, 0] rfl ?_
              exact ih x4 x7 x8 h
  refine wa_iload_n fx 0 dX3_isOfKind_0 rfl ?_
  refine wa_istore_n fx [(2, .int a0), (0, .int a0), (1, .int a1)] dX3_isOfKind_1 rfl (by decide) rfl ?_
  refine wa_iconst fx (0 : Int32) dX3_isOfKind_2 (by decide) ?_
  refine wa_istore_n fx [(3, .int (0 : Int32)), (2, .int a0), (0, .int a0), (1, .int a1)] dX3_isOfKind_3 rfl (by decide) rfl ?_
  refine wa_sub [3, 1, 0] rfl ?_
  exact B4 200 a1 a0 (0 : Int32) h
