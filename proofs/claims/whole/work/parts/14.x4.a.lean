def f_X4_in  (a0 : Int64) (a2 : Int64) (a4 : Int64) : Option (Int32) := if (lg_cmp a0 a2) < 0 then (some (0 : Int32)) else (if 0 < (lg_cmp a0 a4) then (some (0 : Int32)) else (some (1 : Int32)))
set_option maxHeartbeats 4000000 in
set_option maxRecDepth 100000 in
theorem c_X4_in {g : GT} {l : Launch}   {a0 : Int64} {a2 : Int64} {a4 : Int64} {r : Int32} (h : f_X4_in a0 a2 a4 = some r) : Ct g l yX4_in (wd yX4_in cX4_in 6 (some .boolean)) (rmh 1) [.long a0, .long a2, .long a4] (no_ws ()) (no_ws ()) (some (.int r)) := by
  refine Ct.of (lv := [(0, .long a0), (2, .long a2), (4, .long a4)]) (by decide) (Nat.le_of_ble_eq_true rfl) rfl (fun K hl fx hf => ?_)
  subst hl
  rw [f_X4_in] at h
  refine wa_lload_n fx 0 dX4_in_0 rfl ?_
  refine wa_lload_n fx 1 dX4_in_1 rfl ?_
  refine wa_lcmp fx dX4_in_2 ?_
  refine wa_if_lt fx 17 dX4_in_3 (by decide) h (fun h => ?_) (fun h => ?_)
  · refine wa_iconst fx (0 : Int32) dX4_in_17 (by decide) ?_
    exact fn_z (no_ws) fx hf (by decide) (Option.some.inj h) rfl dX4_in_18
  · refine wa_lload_n fx 0 dX4_in_6 rfl ?_
    refine wa_lload fx 2 dX4_in_7 rfl ?_
    refine wa_lcmp fx dX4_in_9 ?_
    refine wa_if_gt fx 17 dX4_in_10 (by decide) h (fun h => ?_) (fun h => ?_)
    · refine wa_iconst fx (0 : Int32) dX4_in_17 (by decide) ?_
      exact fn_z (no_ws) fx hf (by decide) (Option.some.inj h) rfl dX4_in_18
    · refine wa_iconst fx (1 : Int32) dX4_in_13 (by decide) ?_
      refine wa_goto fx 18 dX4_in_14 (by decide) ?_
      exact fn_z (no_ws) fx hf (by decide) (Option.some.inj h) rfl dX4_in_18
def f_X4_finds  (st : StT) (a1 : Int32) : Option (Int32 × (StT)) := ck ((-1000000001 : Int32) - a1) 7 (ck ((-1000000001 : Int32) - a1) 7 (nm (setA st 4 (upd (st.1 4) (Int32.toNatClampNeg ((-1000000001 : Int32) - a1)) ((st.1 4 (Int32.toNatClampNeg ((-1000000001 : Int32) - a1))) + (1 : Int32)))) fun w1 => some (a1, w1)))
set_option maxHeartbeats 4000000 in
set_option maxRecDepth 100000 in
theorem c_X4_finds {g : GT} {l : Launch} {ad : Nat → Nat}   {st : StT} {a1 : Int32} {r : Int32 × (StT)} (h : f_X4_finds st a1 = some r) : Ct g l yX4_finds (wd yX4_finds cX4_finds 2 (some .int)) (rmh 1) [.ref (ad 0), .int a1] (mo_ws g ad st) (mo_ws g ad r.2) (some (.int r.1)) := by
  refine Ct.of (lv := [(0, .ref (ad 0)), (1, .int a1)]) (by decide) (Nat.le_of_ble_eq_true rfl) rfl (fun K hl fx hf => ?_)
  subst hl
  rw [f_X4_finds] at h
  refine wa_aload_n fx 0 dX4_finds_0 rfl ?_
  refine wa_get (v := .ref (ad 5)) fx wm_X4 0 rfl rfl 4 (by decide) q_3_19 rfl rfl dX4_finds_1 ?_
  refine wa_ldc fx q_5_4 dX4_finds_4 ?_
  refine wa_iload_n fx 1 dX4_finds_6 rfl ?_
  refine wa_isub fx dX4_finds_7 ?_
  refine wa_dup2 fx dX4_finds_8 rfl rfl ?_
  refine wa_iald (f := st.1 4) fx 5 rfl dX4_finds_9 h (fun h => ?_)
  refine wa_iconst fx (1 : Int32) dX4_finds_10 (by decide) ?_
  refine wa_iadd fx dX4_finds_11 ?_
  refine wa_iast (mo_ws g ad) (f := st.1 4) fx 5 rfl dX4_finds_12 h rfl (fun w1 h => ?_)
  refine wa_iload_n fx 1 dX4_finds_13 rfl ?_
  exact fn_i (mo_ws g ad) fx hf (sn1 h) (sn2 h) dX4_finds_14
def f_X4_saves_l2 : Nat → (Int32) → (StT) → Option ((StT))
  | 0, _, _ => none
  | n + 1, x3, w4 => if (66 : Int32) ≤ x3 then (some w4) else (ck x3 66 (ck x3 66 (nm (setA w4 2 (upd (w4.1 2) (Int32.toNatClampNeg x3) (w4.1 0 (Int32.toNatClampNeg x3)))) fun w5 => nm (x3 + (1 : Int32)) fun x6 => (f_X4_saves_l2 n) x6 w5)))
def f_X4_saves  (st : StT) : Option ((StT)) := f_X4_saves_l2 200 (0 : Int32) st
set_option maxHeartbeats 4000000 in
set_option maxRecDepth 100000 in
theorem c_X4_saves {g : GT} {l : Launch} {ad : Nat → Nat}   {st : StT} {r : (StT)} (h : f_X4_saves st = some r) : Ct g l yX4_saves (wd yX4_saves cX4_saves 2 none) (rmh 1) [.ref (ad 0)] (mo_ws g ad st) (mo_ws g ad r) none := by
  refine Ct.of (lv := [(0, .ref (ad 0))]) (by decide) (Nat.le_of_ble_eq_true rfl) rfl (fun K hl fx hf => ?_)
  subst hl
  rw [f_X4_saves] at h
  have B2 : ∀  (n : Nat) (x3 : Int32) (w4 : StT), f_X4_saves_l2 n x3 w4 = some r → WA g K 2 0 0 2 [(0, .ref (ad 0)), (1, .int x3)] [] (mo_ws g ad w4) := by
    intro   n
    induction n with
    | zero => intro x3 w4 h; exact absurd h (by rw [f_X4_saves_l2]; exact nofun)
    | succ n ih =>
      intro x3 w4 h
      rw [f_X4_saves_l2] at h
      refine wa_iload_n fx 1 dX4_saves_2 rfl ?_
      refine wa_bipush fx (66 : Int32) dX4_saves_3 (by decide) ?_
      refine wa_icmp_ge fx 26 dX4_saves_5 (by decide) h (fun h => ?_) (fun h => ?_)
      · exact fn_v (mo_ws g ad) fx hf (Option.some.inj h) dX4_saves_26
      · refine wa_aload_n fx 0 dX4_saves_8 rfl ?_
        refine wa_get (v := .ref (ad 3)) fx wm_X4 0 rfl rfl 2 (by decide) q_3_17 rfl rfl dX4_saves_9 ?_
        refine wa_iload_n fx 1 dX4_saves_12 rfl ?_
        refine wa_aload_n fx 0 dX4_saves_13 rfl ?_
        refine wa_get (v := .ref (ad 1)) fx wm_X4 0 rfl rfl 0 (by decide) q_3_15 rfl rfl dX4_saves_14 ?_
        refine wa_iload_n fx 1 dX4_saves_17 rfl ?_
        refine wa_iald (f := w4.1 0) fx 1 rfl dX4_saves_18 h (fun h => ?_)
        refine wa_iast (mo_ws g ad) (f := w4.1 2) fx 3 rfl dX4_saves_19 h rfl (fun w5 h => ?_)
        refine wa_iinc fx 1 (fun x6 => [(1, .int x6), (0, .ref (ad 0))]) dX4_saves_20 rfl (by rfl) (by decide) (fun _ => rfl) h (fun x6 h => ?_)
        refine wa_goto fx 2 dX4_saves_23 (by decide) ?_
        refine wa_sub [1, 0] rfl ?_
        exact ih x6 w5 h
  refine wa_iconst fx (0 : Int32) dX4_saves_0 (by decide) ?_
  refine wa_istore_n fx [(1, .int (0 : Int32)), (0, .ref (ad 0))] dX4_saves_1 rfl (by decide) rfl ?_
  refine wa_sub [1, 0] rfl ?_
  exact B2 200 (0 : Int32) st h
def f_X4_putsBack_l2 : Nat → (Int32) → (StT) → Option ((StT))
  | 0, _, _ => none
  | n + 1, x3, w4 => if (66 : Int32) ≤ x3 then (some w4) else (ck x3 66 (ck x3 66 (nm (setA w4 0 (upd (w4.1 0) (Int32.toNatClampNeg x3) (w4.1 2 (Int32.toNatClampNeg x3)))) fun w5 => nm (x3 + (1 : Int32)) fun x6 => (f_X4_putsBack_l2 n) x6 w5)))
def f_X4_putsBack  (st : StT) : Option ((StT)) := f_X4_putsBack_l2 200 (0 : Int32) st
set_option maxHeartbeats 4000000 in
set_option maxRecDepth 100000 in
theorem c_X4_putsBack {g : GT} {l : Launch} {ad : Nat → Nat}   {st : StT} {r : (StT)} (h : f_X4_putsBack st = some r) : Ct g l yX4_putsBack (wd yX4_putsBack cX4_putsBack 2 none) (rmh 1) [.ref (ad 0)] (mo_ws g ad st) (mo_ws g ad r) none := by
  refine Ct.of (lv := [(0, .ref (ad 0))]) (by decide) (Nat.le_of_ble_eq_true rfl) rfl (fun K hl fx hf => ?_)
  subst hl
  rw [f_X4_putsBack] at h
  have B2 : ∀  (n : Nat) (x3 : Int32) (w4 : StT), f_X4_putsBack_l2 n x3 w4 = some r → WA g K 2 0 0 2 [(0, .ref (ad 0)), (1, .int x3)] [] (mo_ws g ad w4) := by
    intro   n
    induction n with
    | zero => intro x3 w4 h; exact absurd h (by rw [f_X4_putsBack_l2]; exact nofun)
    | succ n ih =>
      intro x3 w4 h
      rw [f_X4_putsBack_l2] at h
      refine wa_iload_n fx 1 dX4_putsBack_2 rfl ?_
      refine wa_bipush fx (66 : Int32) dX4_putsBack_3 (by decide) ?_
      refine wa_icmp_ge fx 26 dX4_putsBack_5 (by decide) h (fun h => ?_) (fun h => ?_)
      · exact fn_v (mo_ws g ad) fx hf (Option.some.inj h) dX4_putsBack_26
      · refine wa_aload_n fx 0 dX4_putsBack_8 rfl ?_
        refine wa_get (v := .ref (ad 1)) fx wm_X4 0 rfl rfl 0 (by decide) q_3_15 rfl rfl dX4_putsBack_9 ?_
        refine wa_iload_n fx 1 dX4_putsBack_12 rfl ?_
        refine wa_aload_n fx 0 dX4_putsBack_13 rfl ?_
        refine wa_get (v := .ref (ad 3)) fx wm_X4 0 rfl rfl 2 (by decide) q_3_17 rfl rfl dX4_putsBack_14 ?_
        refine wa_iload_n fx 1 dX4_putsBack_17 rfl ?_
        refine wa_iald (f := w4.1 2) fx 3 rfl dX4_putsBack_18 h (fun h => ?_)
        refine wa_iast (mo_ws g ad) (f := w4.1 0) fx 1 rfl dX4_putsBack_19 h rfl (fun w5 h => ?_)
        refine wa_iinc fx 1 (fun x6 => [(1, .int x6), (0, .ref (ad 0))]) dX4_putsBack_20 rfl (by rfl) (by decide) (fun _ => rfl) h (fun x6 h => ?_)
        refine wa_goto fx 2 dX4_putsBack_23 (by decide) ?_
        refine wa_sub [1, 0] rfl ?_
        exact ih x6 w5 h
  refine wa_iconst fx (0 : Int32) dX4_putsBack_0 (by decide) ?_
  refine wa_istore_n fx [(1, .int (0 : Int32)), (0, .ref (ad 0))] dX4_putsBack_1 rfl (by decide) rfl ?_
  refine wa_sub [1, 0] rfl ?_
  exact B2 200 (0 : Int32) st h
def f_X4_laysAside_l2 : Nat → (Int32) → (StT) → Option ((StT))
  | 0, _, _ => none
  | n + 1, x3, w4 => if (66 : Int32) ≤ x3 then (some w4) else (ck x3 66 (ck x3 66 (nm (setA w4 3 (upd (w4.1 3) (Int32.toNatClampNeg x3) (w4.1 0 (Int32.toNatClampNeg x3)))) fun w5 => nm (x3 + (1 : Int32)) fun x6 => (f_X4_laysAside_l2 n) x6 w5)))
def f_X4_laysAside  (st : StT) : Option ((StT)) := f_X4_laysAside_l2 200 (0 : Int32) st
set_option maxHeartbeats 4000000 in
set_option maxRecDepth 100000 in
theorem c_X4_laysAside {g : GT} {l : Launch} {ad : Nat → Nat}   {st : StT} {r : (StT)} (h : f_X4_laysAside st = some r) : Ct g l yX4_laysAside (wd yX4_laysAside cX4_laysAside 2 none) (rmh 1) [.ref (ad 0)] (mo_ws g ad st) (mo_ws g ad r) none := by
  refine Ct.of (lv := [(0, .ref (ad 0))]) (by decide) (Nat.le_of_ble_eq_true rfl) rfl (fun K hl fx hf => ?_)
  subst hl
  rw [f_X4_laysAside] at h
  have B2 : ∀  (n : Nat) (x3 : Int32) (w4 : StT), f_X4_laysAside_l2 n x3 w4 = some r → WA g K 2 0 0 2 [(0, .ref (ad 0)), (1, .int x3)] [] (mo_ws g ad w4) := by
    intro   n
    induction n with
    | zero => intro x3 w4 h; exact absurd h (by rw [f_X4_laysAside_l2]; exact nofun)
    | succ n ih =>
      intro x3 w4 h
      rw [f_X4_laysAside_l2] at h
      refine wa_iload_n fx 1 dX4_laysAside_2 rfl ?_
      refine wa_bipush fx (66 : Int32) dX4_laysAside_3 (by decide) ?_
      refine wa_icmp_ge fx 26 dX4_laysAside_5 (by decide) h (fun h => ?_) (fun h => ?_)
      · exact fn_v (mo_ws g ad) fx hf (Option.some.inj h) dX4_laysAside_26
      · refine wa_aload_n fx 0 dX4_laysAside_8 rfl ?_
        refine wa_get (v := .ref (ad 4)) fx wm_X4 0 rfl rfl 3 (by decide) q_3_18 rfl rfl dX4_laysAside_9 ?_
        refine wa_iload_n fx 1 dX4_laysAside_12 rfl ?_
        refine wa_aload_n fx 0 dX4_laysAside_13 rfl ?_
        refine wa_get (v := .ref (ad 1)) fx wm_X4 0 rfl rfl 0 (by decide) q_3_15 rfl rfl dX4_laysAside_14 ?_
        refine wa_iload_n fx 1 dX4_laysAside_17 rfl ?_
        refine wa_iald (f := w4.1 0) fx 1 rfl dX4_laysAside_18 h (fun h => ?_)
        refine wa_iast (mo_ws g ad) (f := w4.1 3) fx 4 rfl dX4_laysAside_19 h rfl (fun w5 h => ?_)
        refine wa_iinc fx 1 (fun x6 => [(1, .int x6), (0, .ref (ad 0))]) dX4_laysAside_20 rfl (by rfl) (by decide) (fun _ => rfl) h (fun x6 h => ?_)
        refine wa_goto fx 2 dX4_laysAside_23 (by decide) ?_
        refine wa_sub [1, 0] rfl ?_
        exact ih x6 w5 h
  refine wa_iconst fx (0 : Int32) dX4_laysAside_0 (by decide) ?_
  refine wa_istore_n fx [(1, .int (0 : Int32)), (0, .ref (ad 0))] dX4_laysAside_1 rfl (by decide) rfl ?_
  refine wa_sub [1, 0] rfl ?_
  exact B2 200 (0 : Int32) st h
def f_X4_takesBack_l2 : Nat → (Int32) → (Int32) → (StT) → Option (Int32 × (StT))
  | 0, _, _, _ => none
  | n + 1, x4, x5, w6 => if (66 : Int32) ≤ x5 then (some (x4, w6)) else (ck x5 66 (ck x5 66 (nm (setA w6 0 (upd (w6.1 0) (Int32.toNatClampNeg x5) (w6.1 3 (Int32.toNatClampNeg x5)))) fun w7 => nm (x5 + (1 : Int32)) fun x8 => (f_X4_takesBack_l2 n) x4 x8 w7)))
def f_X4_takesBack  (st : StT) (a1 : Int32) : Option (Int32 × (StT)) := f_X4_takesBack_l2 200 a1 (0 : Int32) st
set_option maxHeartbeats 4000000 in
set_option maxRecDepth 100000 in
theorem c_X4_takesBack {g : GT} {l : Launch} {ad : Nat → Nat}   {st : StT} {a1 : Int32} {r : Int32 × (StT)} (h : f_X4_takesBack st a1 = some r) : Ct g l yX4_takesBack (wd yX4_takesBack cX4_takesBack 3 (some .int)) (rmh 1) [.ref (ad 0), .int a1] (mo_ws g ad st) (mo_ws g ad r.2) (some (.int r.1)) := by
  refine Ct.of (lv := [(0, .ref (ad 0)), (1, .int a1)]) (by decide) (Nat.le_of_ble_eq_true rfl) rfl (fun K hl fx hf => ?_)
  subst hl
  rw [f_X4_takesBack] at h
  have B2 : ∀  (n : Nat) (x4 : Int32) (x5 : Int32) (w6 : StT), f_X4_takesBack_l2 n x4 x5 w6 = some r → WA g K 3 0 0 2 [(0, .ref (ad 0)), (1, .int x4), (2, .int x5)] [] (mo_ws g ad w6) := by
    intro   n
    induction n with
    | zero => intro x4 x5 w6 h; exact absurd h (by rw [f_X4_takesBack_l2]; exact nofun)
    | succ n ih =>
      intro x4 x5 w6 h
      rw [f_X4_takesBack_l2] at h
      refine wa_iload_n fx 2 dX4_takesBack_2 rfl ?_
      refine wa_bipush fx (66 : Int32) dX4_takesBack_3 (by decide) ?_
      refine wa_icmp_ge fx 26 dX4_takesBack_5 (by decide) h (fun h => ?_) (fun h => ?_)
      · refine wa_iload_n fx 1 dX4_takesBack_26 rfl ?_
        exact fn_i (mo_ws g ad) fx hf (sn1 h) (sn2 h) dX4_takesBack_27
      · refine wa_aload_n fx 0 dX4_takesBack_8 rfl ?_
        refine wa_get (v := .ref (ad 1)) fx wm_X4 0 rfl rfl 0 (by decide) q_3_15 rfl rfl dX4_takesBack_9 ?_
        refine wa_iload_n fx 2 dX4_takesBack_12 rfl ?_
        refine wa_aload_n fx 0 dX4_takesBack_13 rfl ?_
        refine wa_get (v := .ref (ad 4)) fx wm_X4 0 rfl rfl 3 (by decide) q_3_18 rfl rfl dX4_takesBack_14 ?_
        refine wa_iload_n fx 2 dX4_takesBack_17 rfl ?_
        refine wa_iald (f := w6.1 3) fx 4 rfl dX4_takesBack_18 h (fun h => ?_)
        refine wa_iast (mo_ws g ad) (f := w6.1 0) fx 1 rfl dX4_takesBack_19 h rfl (fun w7 h => ?_)
        refine wa_iinc fx 2 (fun x8 => [(2, .int x8), (0, .ref (ad 0)), (1, .int x4)]) dX4_takesBack_20 rfl (by rfl) (by decide) (fun _ => rfl) h (fun x8 h => ?_)
        refine wa_goto fx 2 dX4_takesBack_23 (by decide) ?_
        refine wa_sub [1, 2, 0] rfl ?_
        exact ih x4 x8 w7 h
  refine wa_iconst fx (0 : Int32) dX4_takesBack_0 (by decide) ?_
  refine wa_istore_n fx [(2, .int (0 : Int32)), (0, .ref (ad 0)), (1, .int a1)] dX4_takesBack_1 rfl (by decide) rfl ?_
  refine wa_sub [1, 2, 0] rfl ?_
  exact B2 200 a1 (0 : Int32) st h
def f_X4_becomes  (st : StT) (a1 : Int32) (a2 : Int32) : Option (Int32 × (StT)) := ck a1 66 (nm (st.1 0 (Int32.toNatClampNeg a1)) fun x1 => ck a1 66 (nm (setA st 0 (upd (st.1 0) (Int32.toNatClampNeg a1) a2)) fun w2 => some (x1, w2)))
set_option maxHeartbeats 4000000 in
set_option maxRecDepth 100000 in
theorem c_X4_becomes {g : GT} {l : Launch} {ad : Nat → Nat}   {st : StT} {a1 : Int32} {a2 : Int32} {r : Int32 × (StT)} (h : f_X4_becomes st a1 a2 = some r) : Ct g l yX4_becomes (wd yX4_becomes cX4_becomes 4 (some .int)) (rmh 1) [.ref (ad 0), .int a1, .int a2] (mo_ws g ad st) (mo_ws g ad r.2) (some (.int r.1)) := by
  refine Ct.of (lv := [(0, .ref (ad 0)), (1, .int a1), (2, .int a2)]) (by decide) (Nat.le_of_ble_eq_true rfl) rfl (fun K hl fx hf => ?_)
  subst hl
  rw [f_X4_becomes] at h
  refine wa_aload_n fx 0 dX4_becomes_0 rfl ?_
  refine wa_get (v := .ref (ad 1)) fx wm_X4 0 rfl rfl 0 (by decide) q_3_15 rfl rfl dX4_becomes_1 ?_
  refine wa_iload_n fx 1 dX4_becomes_4 rfl ?_
  refine wa_iald (f := st.1 0) fx 1 rfl dX4_becomes_5 h (fun h => ?_)
  refine wa_istore_nN fx (fun x1 => [(3, .int x1), (0, .ref (ad 0)), (1, .int a1), (2, .int a2)]) dX4_becomes_6 rfl (by decide) (fun _ => rfl) h (fun x1 h => ?_)
  refine wa_aload_n fx 1 dX4_becomes_7 rfl ?_
  refine wa_get (v := .ref (ad 1)) fx wm_X4 0 rfl rfl 0 (by decide) q_3_15 rfl rfl dX4_becomes_8 ?_
  refine wa_iload_n fx 2 dX4_becomes_11 rfl ?_
  refine wa_iload_n fx 3 dX4_becomes_12 rfl ?_
  refine wa_iast (mo_ws g ad) (f := st.1 0) fx 1 rfl dX4_becomes_13 h rfl (fun w2 h => ?_)
  refine wa_iload_n fx 0 dX4_becomes_14 rfl ?_
  exact fn_i (mo_ws g ad) fx hf (sn1 h) (sn2 h) dX4_becomes_15
def f_X4_isChair  (a0 : Int32) : Option (Int32) := Option.bind (f_X4_in (Int32.toInt64 a0) (0 : Int64) (7 : Int64)) fun z1 => ckb z1 (some z1)
set_option maxHeartbeats 4000000 in
set_option maxRecDepth 100000 in
theorem c_X4_isChair {g : GT} {l : Launch}   {a0 : Int32} {r : Int32} (h : f_X4_isChair a0 = some r) : Ct g l yX4_isChair (wd yX4_isChair cX4_isChair 1 (some .boolean)) (rmh 2) [.int a0] (no_ws ()) (no_ws ()) (some (.int r)) := by
  refine Ct.of (lv := [(0, .int a0)]) (by decide) (Nat.le_of_ble_eq_true rfl) rfl (fun K hl fx hf => ?_)
  subst hl
  rw [f_X4_isChair] at h
  refine wa_iload_n fx 0 dX4_isChair_0 rfl ?_
  refine wa_i2l fx dX4_isChair_1 ?_
  refine wa_lconst fx (0 : Int64) dX4_isChair_2 (by decide) ?_
  refine wa_ldc2 fx q_5_11 dX4_isChair_3 ?_
  refine wa_S (rmc := (rmh 1)) (As := [.long (Int32.toInt64 a0), .long (0 : Int64), .long (7 : Int64)]) (st := []) (wc := (no_ws ())) (wr := (no_ws ())) (wcz := fun _ => (no_ws ())) (w2 := fun _ => (no_ws ())) (o := fun z1 => some (.int z1)) (s2 := fun z1 => [.int z1]) fx mm_X4_in q_5_5 dX4_isChair_6 h (fun _ hz => c_X4_in hz) (rm_ok (by decide) (by decide)) ⟨Nat.zero_le _, Nat.zero_le _⟩ rfl (List.Perm.of_eq (List.append_nil _).symm) (fun _ => (List.Perm.of_eq (List.append_nil _).symm)) rfl (Nat.le_of_ble_eq_true rfl) (fun _ => rfl) (fun z1 h => ?_)
  obtain ⟨hb, h⟩ := of_ckb h
  exact fn_z (no_ws) fx hf (nb_of hb) (Option.some.inj h) rfl dX4_isChair_9
def f_X4_isPerson (st : StT) (a1 : Int32) : Option (Int32) := ck (0 : Int32) 66 (Option.bind (f_X4_in (Int32.toInt64 a1) (0 : Int64) (Int32.toInt64 ((st.1 0 (Int32.toNatClampNeg (0 : Int32))) - (1 : Int32)))) fun z1 => ckb z1 (some z1))
set_option maxHeartbeats 4000000 in
set_option maxRecDepth 100000 in
theorem c_X4_isPerson {g : GT} {l : Launch} {ad : Nat → Nat}   {st : StT} {a1 : Int32} {r : Int32} (h : f_X4_isPerson st a1 = some r) : Ct g l yX4_isPerson (wd yX4_isPerson cX4_isPerson 2 (some .boolean)) (rmh 2) [.ref (ad 0), .int a1] (mo_ws g ad st) (mo_ws g ad st) (some (.int r)) := by
  refine Ct.of (lv := [(0, .ref (ad 0)), (1, .int a1)]) (by decide) (Nat.le_of_ble_eq_true rfl) rfl (fun K hl fx hf => ?_)
  subst hl
  rw [f_X4_isPerson] at h
  refine wa_iload_n fx 1 dX4_isPerson_0 rfl ?_
  refine wa_i2l fx dX4_isPerson_1 ?_
  refine wa_lconst fx (0 : Int64) dX4_isPerson_2 (by decide) ?_
  refine wa_aload_n fx 0 dX4_isPerson_3 rfl ?_
  refine wa_get (v := .ref (ad 1)) fx wm_X4 0 rfl rfl 0 (by decide) q_3_15 rfl rfl dX4_isPerson_4 ?_
  refine wa_iconst fx (0 : Int32) dX4_isPerson_7 (by decide) ?_
  refine wa_iald (f := st.1 0) fx 1 rfl dX4_isPerson_8 h (fun h => ?_)
  refine wa_iconst fx (1 : Int32) dX4_isPerson_9 (by decide) ?_
  refine wa_isub fx dX4_isPerson_10 ?_
  refine wa_i2l fx dX4_isPerson_11 ?_
  refine wa_S (rmc := (rmh 1)) (As := [.long (Int32.toInt64 a1), .long (0 : Int64), .long (Int32.toInt64 ((st.1 0 (Int32.toNatClampNeg (0 : Int32))) - (1 : Int32)))]) (st := []) (wc := (no_ws ())) (wr := (mo_ws g ad st)) (wcz := fun _ => (no_ws ())) (w2 := fun _ => (mo_ws g ad st)) (o := fun z1 => some (.int z1)) (s2 := fun z1 => [.int z1]) fx mm_X4_in q_5_5 dX4_isPerson_12 h (fun _ hz => c_X4_in hz) (rm_ok (by decide) (by decide)) ⟨Nat.zero_le _, Nat.zero_le _⟩ rfl (List.Perm.of_eq (List.append_nil _).symm) (fun _ => (List.Perm.of_eq (List.append_nil _).symm)) rfl (Nat.le_of_ble_eq_true rfl) (fun _ => rfl) (fun z1 h => ?_)
  obtain ⟨hb, h⟩ := of_ckb h
  exact fn_z (mo_ws g ad) fx hf (nb_of hb) (Option.some.inj h) rfl dX4_isPerson_15
def f_X4_areTwo (st : StT) (a1 : Int32) (a2 : Int32) : Option (Int32) := Option.bind (f_X4_isPerson st a1) fun z1 => if z1 = 0 then (some (0 : Int32)) else (Option.bind (f_X4_isPerson st a2) fun z2 => if z2 = 0 then (some (0 : Int32)) else (if a1 = a2 then (some (0 : Int32)) else (some (1 : Int32))))
set_option maxHeartbeats 4000000 in
set_option maxRecDepth 100000 in
theorem c_X4_areTwo {g : GT} {l : Launch} {ad : Nat → Nat}   {st : StT} {a1 : Int32} {a2 : Int32} {r : Int32} (h : f_X4_areTwo st a1 a2 = some r) : Ct g l yX4_areTwo (wd yX4_areTwo cX4_areTwo 3 (some .boolean)) (rmh 3) [.ref (ad 0), .int a1, .int a2] (mo_ws g ad st) (mo_ws g ad st) (some (.int r)) := by
  refine Ct.of (lv := [(0, .ref (ad 0)), (1, .int a1), (2, .int a2)]) (by decide) (Nat.le_of_ble_eq_true rfl) rfl (fun K hl fx hf => ?_)
  subst hl
  rw [f_X4_areTwo] at h
  refine wa_aload_n fx 0 dX4_areTwo_0 rfl ?_
  refine wa_iload_n fx 1 dX4_areTwo_1 rfl ?_
  refine wa_V (b := ad 0) (rmc := (rmh 2)) (As := [.int a1]) (st := []) (wc := (mo_ws g ad st)) (wr := ([] : va_W)) (wcz := fun _ => (mo_ws g ad st)) (w2 := fun _ => (mo_ws g ad st)) (o := fun z1 => some (.int z1)) (s2 := fun z1 => [.int z1]) (ci := 4) (q0 := 0) fx mm_X4_isPerson q_8_18 dX4_areTwo_2 h (fun _ hz => c_X4_isPerson hz) rfl rfl (rm_ok (by decide) (by decide)) ⟨Nat.zero_le _, Nat.zero_le _⟩ rfl (List.Perm.refl _) (fun _ => (List.Perm.refl _)) rfl (Nat.le_of_ble_eq_true rfl) (fun _ => rfl) (fun z1 h => ?_)
  refine wa_if_eq fx 25 dX4_areTwo_5 (by decide) h (fun h => ?_) (fun h => ?_)
  · refine wa_iconst fx (0 : Int32) dX4_areTwo_25 (by decide) ?_
    exact fn_z (mo_ws g ad) fx hf (by decide) (Option.some.inj h) rfl dX4_areTwo_26
  · refine wa_aload_n fx 0 dX4_areTwo_8 rfl ?_
    refine wa_iload_n fx 2 dX4_areTwo_9 rfl ?_
    refine wa_V (b := ad 0) (rmc := (rmh 2)) (As := [.int a2]) (st := []) (wc := (mo_ws g ad st)) (wr := ([] : va_W)) (wcz := fun _ => (mo_ws g ad st)) (w2 := fun _ => (mo_ws g ad st)) (o := fun z2 => some (.int z2)) (s2 := fun z2 => [.int z2]) (ci := 4) (q0 := 0) fx mm_X4_isPerson q_8_18 dX4_areTwo_10 h (fun _ hz => c_X4_isPerson hz) rfl rfl (rm_ok (by decide) (by decide)) ⟨Nat.zero_le _, Nat.zero_le _⟩ rfl (List.Perm.refl _) (fun _ => (List.Perm.refl _)) rfl (Nat.le_of_ble_eq_true rfl) (fun _ => rfl) (fun z2 h => ?_)
    refine wa_if_eq fx 25 dX4_areTwo_13 (by decide) h (fun h => ?_) (fun h => ?_)
    · refine wa_iconst fx (0 : Int32) dX4_areTwo_25 (by decide) ?_
      exact fn_z (mo_ws g ad) fx hf (by decide) (Option.some.inj h) rfl dX4_areTwo_26
    · refine wa_iload_n fx 1 dX4_areTwo_16 rfl ?_
      refine wa_iload_n fx 2 dX4_areTwo_17 rfl ?_
      refine wa_icmp_eq fx 25 dX4_areTwo_18 (by decide) h (fun h => ?_) (fun h => ?_)
      · refine wa_iconst fx (0 : Int32) dX4_areTwo_25 (by decide) ?_
        exact fn_z (mo_ws g ad) fx hf (by decide) (Option.some.inj h) rfl dX4_areTwo_26
      · refine wa_iconst fx (1 : Int32) dX4_areTwo_21 (by decide) ?_
        refine wa_goto fx 26 dX4_areTwo_22 (by decide) ?_
        exact fn_z (mo_ws g ad) fx hf (by decide) (Option.some.inj h) rfl dX4_areTwo_26
def f_X4_isKind  (a0 : Int32) : Option (Int32) := Option.bind (f_X4_in (Int32.toInt64 a0) (0 : Int64) (5 : Int64)) fun z1 => ckb z1 (some z1)
set_option maxHeartbeats 4000000 in
set_option maxRecDepth 100000 in
theorem c_X4_isKind {g : GT} {l : Launch}   {a0 : Int32} {r : Int32} (h : f_X4_isKind a0 = some r) : Ct g l yX4_isKind (wd yX4_isKind cX4_isKind 1 (some .boolean)) (rmh 2) [.int a0] (no_ws ()) (no_ws ()) (some (.int r)) := by
  refine Ct.of (lv := [(0, .int a0)]) (by decide) (Nat.le_of_ble_eq_true rfl) rfl (fun K hl fx hf => ?_)
  subst hl
  rw [f_X4_isKind] at h
  refine wa_iload_n fx 0 dX4_isKind_0 rfl ?_
  refine wa_i2l fx dX4_isKind_1 ?_
  refine wa_lconst fx (0 : Int64) dX4_isKind_2 (by decide) ?_
  refine wa_ldc2 fx q_7_14 dX4_isKind_3 ?_
  refine wa_S (rmc := (rmh 1)) (As := [.long (Int32.toInt64 a0), .long (0 : Int64), .long (5 : Int64)]) (st := []) (wc := (no_ws ())) (wr := (no_ws ())) (wcz := fun _ => (no_ws ())) (w2 := fun _ => (no_ws ())) (o := fun z1 => some (.int z1)) (s2 := fun z1 => [.int z1]) fx mm_X4_in q_5_5 dX4_isKind_6 h (fun _ hz => c_X4_in hz) (rm_ok (by decide) (by decide)) ⟨Nat.zero_le _, Nat.zero_le _⟩ rfl (List.Perm.of_eq (List.append_nil _).symm) (fun _ => (List.Perm.of_eq (List.append_nil _).symm)) rfl (Nat.le_of_ble_eq_true rfl) (fun _ => rfl) (fun z1 h => ?_)
  obtain ⟨hb, h⟩ := of_ckb h
  exact fn_z (no_ws) fx hf (nb_of hb) (Option.some.inj h) rfl dX4_isKind_9
def f_X4_chairAt  (a0 : Int32) (a1 : Int32) : Option (Int32) := some (((2 : Int32) + ((2 : Int32) * a0)) + a1)
set_option maxHeartbeats 4000000 in
set_option maxRecDepth 100000 in
theorem c_X4_chairAt {g : GT} {l : Launch}   {a0 : Int32} {a1 : Int32} {r : Int32} (h : f_X4_chairAt a0 a1 = some r) : Ct g l yX4_chairAt (wd yX4_chairAt cX4_chairAt 2 (some .int)) (rmh 1) [.int a0, .int a1] (no_ws ()) (no_ws ()) (some (.int r)) := by
  refine Ct.of (lv := [(0, .int a0), (1, .int a1)]) (by decide) (Nat.le_of_ble_eq_true rfl) rfl (fun K hl fx hf => ?_)
  subst hl
  rw [f_X4_chairAt] at h
  refine wa_iconst fx (2 : Int32) dX4_chairAt_0 (by decide) ?_
  refine wa_iconst fx (2 : Int32) dX4_chairAt_1 (by decide) ?_
  refine wa_iload_n fx 0 dX4_chairAt_2 rfl ?_
  refine wa_imul fx dX4_chairAt_3 ?_
  refine wa_iadd fx dX4_chairAt_4 ?_
  refine wa_iload_n fx 1 dX4_chairAt_5 rfl ?_
  refine wa_iadd fx dX4_chairAt_6 ?_
  exact fn_i (no_ws) fx hf (Option.some.inj h) rfl dX4_chairAt_7
def f_X4_spotOf  (a0 : Int32) (a1 : Int32) : Option (Int32) := some (((18 : Int32) + ((6 : Int32) * a0)) + a1)
set_option maxHeartbeats 4000000 in
set_option maxRecDepth 100000 in
theorem c_X4_spotOf {g : GT} {l : Launch}   {a0 : Int32} {a1 : Int32} {r : Int32} (h : f_X4_spotOf a0 a1 = some r) : Ct g l yX4_spotOf (wd yX4_spotOf cX4_spotOf 2 (some .int)) (rmh 1) [.int a0, .int a1] (no_ws ()) (no_ws ()) (some (.int r)) := by
  refine Ct.of (lv := [(0, .int a0), (1, .int a1)]) (by decide) (Nat.le_of_ble_eq_true rfl) rfl (fun K hl fx hf => ?_)
  subst hl
  rw [f_X4_spotOf] at h
  refine wa_bipush fx (18 : Int32) dX4_spotOf_0 (by decide) ?_
  refine wa_bipush fx (6 : Int32) dX4_spotOf_2 (by decide) ?_
  refine wa_iload_n fx 0 dX4_spotOf_4 rfl ?_
  refine wa_imul fx dX4_spotOf_5 ?_
  refine wa_iadd fx dX4_spotOf_6 ?_
  refine wa_iload_n fx 1 dX4_spotOf_7 rfl ?_
  refine wa_iadd fx dX4_spotOf_8 ?_
  exact fn_i (no_ws) fx hf (Option.some.inj h) rfl dX4_spotOf_9
def f_X4_its (st : StT) (a1 : Int32) (a2 : Int32) : Option (Int32) := Option.bind (f_X4_spotOf a1 a2) fun z1 => ck z1 66 (some (st.1 0 (Int32.toNatClampNeg z1)))
set_option maxHeartbeats 4000000 in
set_option maxRecDepth 100000 in
theorem c_X4_its {g : GT} {l : Launch} {ad : Nat → Nat}   {st : StT} {a1 : Int32} {a2 : Int32} {r : Int32} (h : f_X4_its st a1 a2 = some r) : Ct g l yX4_its (wd yX4_its cX4_its 3 (some .int)) (rmh 2) [.ref (ad 0), .int a1, .int a2] (mo_ws g ad st) (mo_ws g ad st) (some (.int r)) := by
  refine Ct.of (lv := [(0, .ref (ad 0)), (1, .int a1), (2, .int a2)]) (by decide) (Nat.le_of_ble_eq_true rfl) rfl (fun K hl fx hf => ?_)
  subst hl
  rw [f_X4_its] at h
  refine wa_aload_n fx 0 dX4_its_0 rfl ?_
  refine wa_get (v := .ref (ad 1)) fx wm_X4 0 rfl rfl 0 (by decide) q_3_15 rfl rfl dX4_its_1 ?_
  refine wa_iload_n fx 1 dX4_its_4 rfl ?_
  refine wa_iload_n fx 2 dX4_its_5 rfl ?_
  refine wa_S (rmc := (rmh 1)) (As := [.int a1, .int a2]) (st := [.ref (ad 1)]) (wc := (no_ws ())) (wr := (mo_ws g ad st)) (wcz := fun _ => (no_ws ())) (w2 := fun _ => (mo_ws g ad st)) (o := fun z1 => some (.int z1)) (s2 := fun z1 => [.int z1, .ref (ad 1)]) fx mm_X4_spotOf q_6_14 dX4_its_6 h (fun _ hz => c_X4_spotOf hz) (rm_ok (by decide) (by decide)) ⟨Nat.zero_le _, Nat.zero_le _⟩ rfl (List.Perm.of_eq (List.append_nil _).symm) (fun _ => (List.Perm.of_eq (List.append_nil _).symm)) rfl (Nat.le_of_ble_eq_true rfl) (fun _ => rfl) (fun z1 h => ?_)
  refine wa_iald (f := st.1 0) fx 1 rfl dX4_its_9 h (fun h => ?_)
  exact fn_i (mo_ws g ad) fx hf (Option.some.inj h) rfl dX4_its_10
def f_X4_ones_l4 : Nat → (Int32) → (Int32) → Option (Int32)
  | 0, _, _ => none
  | n + 1, x3, x4 => if x4 = 0 then (some x3) else (nm (x3 + (1 : Int32)) fun x5 => nm (x4 &&& (x4 - (1 : Int32))) fun x6 => (f_X4_ones_l4 n) x5 x6)
def f_X4_ones  (a0 : Int32) : Option (Int32) := f_X4_ones_l4 200 (0 : Int32) a0
set_option maxHeartbeats 4000000 in
set_option maxRecDepth 100000 in
theorem c_X4_ones {g : GT} {l : Launch}   {a0 : Int32} {r : Int32} (h : f_X4_ones a0 = some r) : Ct g l yX4_ones (wd yX4_ones cX4_ones 3 (some .int)) (rmh 1) [.int a0] (no_ws ()) (no_ws ()) (some (.int r)) := by
  refine Ct.of (lv := [(0, .int a0)]) (by decide) (Nat.le_of_ble_eq_true rfl) rfl (fun K hl fx hf => ?_)
  subst hl
  rw [f_X4_ones] at h
  have B4 : ∀  (n : Nat) (x3 : Int32) (x4 : Int32), f_X4_ones_l4 n x3 x4 = some r → WA g K 3 0 0 4 [(1, .int x3), (2, .int x4)] [] (no_ws ()) := by
    intro   n
    induction n with
    | zero => intro x3 x4 h; exact absurd h (by rw [f_X4_ones_l4]; exact nofun)
    | succ n ih =>
      intro x3 x4 h
      rw [f_X4_ones_l4] at h
      refine wa_iload_n fx 1 dX4_ones_4 rfl ?_
      refine wa_if_eq fx 20 dX4_ones_5 (by decide) h (fun h => ?_) (fun h => ?_)
      · refine wa_iload_n fx 0 dX4_ones_20 rfl ?_
        exact fn_i (no_ws) fx hf (Option.some.inj h) rfl dX4_ones_21
      · refine wa_iinc fx 0 (fun x5 => [(1, .int x5), (2, .int x4)]) dX4_ones_8 rfl (by rfl) (by decide) (fun _ => rfl) h (fun x5 h => ?_)
        refine wa_iload_n fx 1 dX4_ones_11 rfl ?_
        refine wa_iload_n fx 1 dX4_ones_12 rfl ?_
        refine wa_iconst fx (1 : Int32) dX4_ones_13 (by decide) ?_
        refine wa_isub fx dX4_ones_14 ?_
        refine wa_iand fx dX4_ones_15 ?_
        refine wa_istore_nN fx (fun x6 => [(2, .int x6), (1, .int x5)]) dX4_ones_16 rfl (by decide) (fun _ => rfl) h (fun x6 h => ?_)
        refine wa_goto fx 4 dX4_ones_17 (by decide) ?_
        refine wa_sub [1, 0] rfl ?_
        exact ih x5 x6 h
  refine wa_iconst fx (0 : Int32) dX4_ones_0 (by decide) ?_
  refine wa_istore_n fx [(1, .int (0 : Int32)), (0, .int a0)] dX4_ones_1 rfl (by decide) rfl ?_
  refine wa_iload_n fx 1 dX4_ones_2 rfl ?_
  refine wa_istore_n fx [(2, .int a0), (1, .int (0 : Int32)), (0, .int a0)] dX4_ones_3 rfl (by decide) rfl ?_
  refine wa_sub [1, 0] rfl ?_
  exact B4 200 (0 : Int32) a0 h
def f_X4_whoIn_l2 (st : StT) : Nat → (Int32) → (Int32) → Option (Int32)
  | 0, _, _ => none
  | n + 1, x3, x4 => ck (0 : Int32) 66 (if (st.1 0 (Int32.toNatClampNeg (0 : Int32))) ≤ x4 then (some (-1 : Int32)) else (Option.bind (f_X4_its st x4 (5 : Int32)) fun z5 => if z5 = x3 then (some x4) else (nm (x4 + (1 : Int32)) fun x6 => (f_X4_whoIn_l2 st n) x3 x6)))
def f_X4_whoIn (st : StT) (a1 : Int32) : Option (Int32) := f_X4_whoIn_l2 st 200 a1 (0 : Int32)
set_option maxHeartbeats 4000000 in
set_option maxRecDepth 100000 in
theorem c_X4_whoIn {g : GT} {l : Launch} {ad : Nat → Nat}   {st : StT} {a1 : Int32} {r : Int32} (h : f_X4_whoIn st a1 = some r) : Ct g l yX4_whoIn (wd yX4_whoIn cX4_whoIn 3 (some .int)) (rmh 3) [.ref (ad 0), .int a1] (mo_ws g ad st) (mo_ws g ad st) (some (.int r)) := by
  refine Ct.of (lv := [(0, .ref (ad 0)), (1, .int a1)]) (by decide) (Nat.le_of_ble_eq_true rfl) rfl (fun K hl fx hf => ?_)
  subst hl
  rw [f_X4_whoIn] at h
  have B2 : ∀  (n : Nat) (x3 : Int32) (x4 : Int32), f_X4_whoIn_l2 st n x3 x4 = some r → WA g K 3 0 0 2 [(0, .ref (ad 0)), (1, .int x3), (2, .int x4)] [] (mo_ws g ad st) := by
    intro   n
    induction n with
    | zero => intro x3 x4 h; exact absurd h (by rw [f_X4_whoIn_l2]; exact nofun)
    | succ n ih =>
      intro x3 x4 h
      rw [f_X4_whoIn_l2] at h
      refine wa_iload_n fx 2 dX4_whoIn_2 rfl ?_
      refine wa_aload_n fx 0 dX4_whoIn_3 rfl ?_
      refine wa_get (v := .ref (ad 1)) fx wm_X4 0 rfl rfl 0 (by decide) q_3_15 rfl rfl dX4_whoIn_4 ?_
      refine wa_iconst fx (0 : Int32) dX4_whoIn_7 (by decide) ?_
      refine wa_iald (f := st.1 0) fx 1 rfl dX4_whoIn_8 h (fun h => ?_)
      refine wa_icmp_ge fx 30 dX4_whoIn_9 (by decide) h (fun h => ?_) (fun h => ?_)
      · refine wa_iconst fx (-1 : Int32) dX4_whoIn_30 (by decide) ?_
        exact fn_i (mo_ws g ad) fx hf (Option.some.inj h) rfl dX4_whoIn_31
      · refine wa_aload_n fx 0 dX4_whoIn_12 rfl ?_
        refine wa_iload_n fx 2 dX4_whoIn_13 rfl ?_
        refine wa_iconst fx (5 : Int32) dX4_whoIn_14 (by decide) ?_
        refine wa_V (b := ad 0) (rmc := (rmh 2)) (As := [.int x4, .int (5 : Int32)]) (st := []) (wc := (mo_ws g ad st)) (wr := ([] : va_W)) (wcz := fun _ => (mo_ws g ad st)) (w2 := fun _ => (mo_ws g ad st)) (o := fun z5 => some (.int z5)) (s2 := fun z5 => [.int z5]) (ci := 4) (q0 := 0) fx mm_X4_its q_6_10 dX4_whoIn_15 h (fun _ hz => c_X4_its hz) rfl rfl (rm_ok (by decide) (by decide)) ⟨Nat.zero_le _, Nat.zero_le _⟩ rfl (List.Perm.refl _) (fun _ => (List.Perm.refl _)) rfl (Nat.le_of_ble_eq_true rfl) (fun _ => rfl) (fun z5 h => ?_)
        refine wa_iload_n fx 1 dX4_whoIn_18 rfl ?_
        refine wa_icmp_ne fx 24 dX4_whoIn_19 (by decide) h (fun h => ?_) (fun h => ?_)
        · refine wa_iload_n fx 2 dX4_whoIn_22 rfl ?_
          exact fn_i (mo_ws g ad) fx hf (Option.some.inj h) rfl dX4_whoIn_23
        · refine wa_iinc fx 2 (fun x6 => [(2, .int x6), (0, .ref (ad 0)), (1, .int x3)]) dX4_whoIn_24 rfl (by rfl) (by decide) (fun _ => rfl) h (fun x6 h => ?_)
          refine wa_goto fx 2 dX4_whoIn_27 (by decide) ?_
          refine wa_sub [1, 2, 0] rfl ?_
          exact ih x3 x6 h
  refine wa_iconst fx (0 : Int32) dX4_whoIn_0 (by decide) ?_
  refine wa_istore_n fx [(2, .int (0 : Int32)), (0, .ref (ad 0)), (1, .int a1)] dX4_whoIn_1 rfl (by decide) rfl ?_
  refine wa_sub [1, 2, 0] rfl ?_
  exact B2 200 a1 (0 : Int32) h
def f_X4_chair_b38 (x5 : Int32) (x6 : Int32) (x7 : Int32) (x8 : Int32) (w9 : StT) : Option (Int32 × (StT)) := Option.bind (f_X4_isChair x5) fun z10 => if z10 = 0 then (Option.bind (f_X4_finds w9 (-1000000001 : Int32)) fun z11 => some (z11.1, z11.2)) else (if x8 = 0 then (Option.bind (f_X4_finds w9 (-1000000001 : Int32)) fun z12 => some (z12.1, z12.2)) else (Option.bind (f_X4_chairAt x5 x6) fun z13 => Option.bind (f_X4_becomes w9 z13 x7) fun z14 => some (z14.1, z14.2)))
def f_X4_chair_b37 (x1 : Int32) (x2 : Int32) (x3 : Int32) (w4 : StT) : Option (Int32 × (StT)) := f_X4_chair_b38 x1 x2 x3 (0 : Int32) w4
def f_X4_chair  (st : StT) (a1 : Int32) (a2 : Int32) (a3 : Int32) : Option (Int32 × (StT)) := if a2 = 0 then (Option.bind (f_X4_in (Int32.toInt64 a3) (0 : Int64) (20 : Int64)) fun z16 => f_X4_chair_b38 a1 a2 a3 z16 st) else (if a2 = (1 : Int32) then (Option.bind (f_X4_in (Int32.toInt64 a3) (0 : Int64) (9 : Int64)) fun z15 => if z15 = 0 then (f_X4_chair_b37 a1 a2 a3 st) else (f_X4_chair_b38 a1 a2 a3 (1 : Int32) st)) else (f_X4_chair_b37 a1 a2 a3 st))
set_option maxHeartbeats 4000000 in
set_option maxRecDepth 100000 in
theorem c_X4_chair {g : GT} {l : Launch} {ad : Nat → Nat}   {st : StT} {a1 : Int32} {a2 : Int32} {a3 : Int32} {r : Int32 × (StT)} (h : f_X4_chair st a1 a2 a3 = some r) : Ct g l yX4_chair (wd yX4_chair cX4_chair 5 (some .int)) (rmh 3) [.ref (ad 0), .int a1, .int a2, .int a3] (mo_ws g ad st) (mo_ws g ad r.2) (some (.int r.1)) := by
  refine Ct.of (lv := [(0, .ref (ad 0)), (1, .int a1), (2, .int a2), (3, .int a3)]) (by decide) (Nat.le_of_ble_eq_true rfl) rfl (fun K hl fx hf => ?_)
  subst hl
  rw [f_X4_chair] at h
  have B38 : ∀  (x5 : Int32) (x6 : Int32) (x7 : Int32) (x8 : Int32) (w9 : StT), f_X4_chair_b38 x5 x6 x7 x8 w9 = some r → WA g K 5 0 0 38 [(0, .ref (ad 0)), (1, .int x5), (2, .int x6), (3, .int x7)] [.int x8] (mo_ws g ad w9) := by
    intro   x5 x6 x7 x8 w9 h
    rw [f_X4_chair_b38] at h
    refine wa_istore fx [(4, .int x8), (0, .ref (ad 0)), (1, .int x5), (2, .int x6), (3, .int x7)] dX4_chair_38 (by decide) rfl ?_
    refine wa_iload_n fx 2 dX4_chair_40 rfl ?_
    refine wa_S (rmc := (rmh 2)) (As := [.int x5]) (st := []) (wc := (no_ws ())) (wr := (mo_ws g ad w9)) (wcz := fun _ => (no_ws ())) (w2 := fun _ => (mo_ws g ad w9)) (o := fun z10 => some (.int z10)) (s2 := fun z10 => [.int z10]) fx mm_X4_isChair q_5_8 dX4_chair_41 h (fun _ hz => c_X4_isChair hz) (rm_ok (by decide) (by decide)) ⟨Nat.zero_le _, Nat.zero_le _⟩ rfl (List.Perm.of_eq (List.append_nil _).symm) (fun _ => (List.Perm.of_eq (List.append_nil _).symm)) rfl (Nat.le_of_ble_eq_true rfl) (fun _ => rfl) (fun z10 h => ?_)
    refine wa_if_eq fx 65 dX4_chair_44 (by decide) h (fun h => ?_) (fun h => ?_)
    · refine wa_aload_n fx 1 dX4_chair_65 rfl ?_
      refine wa_ldc fx q_5_4 dX4_chair_66 ?_
      refine wa_V (b := ad 0) (rmc := (rmh 1)) (As := [.int (-1000000001 : Int32)]) (st := []) (wc := (mo_ws g ad w9)) (wr := ([] : va_W)) (wcz := fun z11 => mo_ws g ad z11.2) (w2 := fun z11 => mo_ws g ad z11.2) (o := fun z11 => some (.int z11.1)) (s2 := fun z11 => [.int z11.1]) (ci := 4) (q0 := 0) fx mm_X4_finds q_5_16 dX4_chair_68 h (fun _ hz => c_X4_finds hz) rfl rfl (rm_ok (by decide) (by decide)) ⟨Nat.zero_le _, Nat.zero_le _⟩ rfl (List.Perm.refl _) (fun _ => List.Perm.refl _) rfl (Nat.le_of_ble_eq_true rfl) (fun _ => rfl) (fun z11 h => ?_)
      exact fn_i (mo_ws g ad) fx hf (sn1 h) (sn2 h) dX4_chair_71
    · refine wa_iload fx 0 dX4_chair_47 rfl ?_
      refine wa_if_eq fx 65 dX4_chair_49 (by decide) h (fun h => ?_) (fun h => ?_)
      · refine wa_aload_n fx 1 dX4_chair_65 rfl ?_
        refine wa_ldc fx q_5_4 dX4_chair_66 ?_
        refine wa_V (b := ad 0) (rmc := (rmh 1)) (As := [.int (-1000000001 : Int32)]) (st := []) (wc := (mo_ws g ad w9)) (wr := ([] : va_W)) (wcz := fun z12 => mo_ws g ad z12.2) (w2 := fun z12 => mo_ws g ad z12.2) (o := fun z12 => some (.int z12.1)) (s2 := fun z12 => [.int z12.1]) (ci := 4) (q0 := 0) fx mm_X4_finds q_5_16 dX4_chair_68 h (fun _ hz => c_X4_finds hz) rfl rfl (rm_ok (by decide) (by decide)) ⟨Nat.zero_le _, Nat.zero_le _⟩ rfl (List.Perm.refl _) (fun _ => List.Perm.refl _) rfl (Nat.le_of_ble_eq_true rfl) (fun _ => rfl) (fun z12 h => ?_)
        exact fn_i (mo_ws g ad) fx hf (sn1 h) (sn2 h) dX4_chair_71
      · refine wa_aload_n fx 1 dX4_chair_52 rfl ?_
        refine wa_iload_n fx 2 dX4_chair_53 rfl ?_
        refine wa_iload_n fx 3 dX4_chair_54 rfl ?_
        refine wa_S (rmc := (rmh 1)) (As := [.int x5, .int x6]) (st := [.ref (ad 0)]) (wc := (no_ws ())) (wr := (mo_ws g ad w9)) (wcz := fun _ => (no_ws ())) (w2 := fun _ => (mo_ws g ad w9)) (o := fun z13 => some (.int z13)) (s2 := fun z13 => [.int z13, .ref (ad 0)]) fx mm_X4_chairAt q_4_2 dX4_chair_55 h (fun _ hz => c_X4_chairAt hz) (rm_ok (by decide) (by decide)) ⟨Nat.zero_le _, Nat.zero_le _⟩ rfl (List.Perm.of_eq (List.append_nil _).symm) (fun _ => (List.Perm.of_eq (List.append_nil _).symm)) rfl (Nat.le_of_ble_eq_true rfl) (fun _ => rfl) (fun z13 h => ?_)
        refine wa_iload_n fx 4 dX4_chair_58 rfl ?_
        refine wa_V (b := ad 0) (rmc := (rmh 1)) (As := [.int z13, .int x7]) (st := []) (wc := (mo_ws g ad w9)) (wr := ([] : va_W)) (wcz := fun z14 => mo_ws g ad z14.2) (w2 := fun z14 => mo_ws g ad z14.2) (o := fun z14 => some (.int z14.1)) (s2 := fun z14 => [.int z14.1]) (ci := 4) (q0 := 0) fx mm_X4_becomes q_5_12 dX4_chair_59 h (fun _ hz => c_X4_becomes hz) rfl rfl (rm_ok (by decide) (by decide)) ⟨Nat.zero_le _, Nat.zero_le _⟩ rfl (List.Perm.refl _) (fun _ => List.Perm.refl _) rfl (Nat.le_of_ble_eq_true rfl) (fun _ => rfl) (fun z14 h => ?_)
        refine wa_goto fx 71 dX4_chair_62 (by decide) ?_
        exact fn_i (mo_ws g ad) fx hf (sn1 h) (sn2 h) dX4_chair_71
  have B37 : ∀  (x1 : Int32) (x2 : Int32) (x3 : Int32) (w4 : StT), f_X4_chair_b37 x1 x2 x3 w4 = some r → WA g K 5 0 0 37 [(0, .ref (ad 0)), (1, .int x1), (2, .int x2), (3, .int x3)] [] (mo_ws g ad w4) := by
    intro   x1 x2 x3 w4 h
    rw [f_X4_chair_b37] at h
    refine wa_iconst fx (0 : Int32) dX4_chair_37 (by decide) ?_
    refine wa_sub [0, 1, 2, 3] rfl ?_
    exact B38 x1 x2 x3 (0 : Int32) w4 h
  refine wa_iload_n fx 2 dX4_chair_0 rfl ?_
  refine wa_if_ne fx 16 dX4_chair_1 (by decide) h (fun h => ?_) (fun h => ?_)
  · refine wa_iload_n fx 3 dX4_chair_4 rfl ?_
    refine wa_i2l fx dX4_chair_5 ?_
    refine wa_lconst fx (0 : Int64) dX4_chair_6 (by decide) ?_
    refine wa_ldc2 fx q_5_2 dX4_chair_7 ?_
    refine wa_S (rmc := (rmh 1)) (As := [.long (Int32.toInt64 a3), .long (0 : Int64), .long (20 : Int64)]) (st := []) (wc := (no_ws ())) (wr := (mo_ws g ad st)) (wcz := fun _ => (no_ws ())) (w2 := fun _ => (mo_ws g ad st)) (o := fun z16 => some (.int z16)) (s2 := fun z16 => [.int z16]) fx mm_X4_in q_5_5 dX4_chair_10 h (fun _ hz => c_X4_in hz) (rm_ok (by decide) (by decide)) ⟨Nat.zero_le _, Nat.zero_le _⟩ rfl (List.Perm.of_eq (List.append_nil _).symm) (fun _ => (List.Perm.of_eq (List.append_nil _).symm)) rfl (Nat.le_of_ble_eq_true rfl) (fun _ => rfl) (fun z16 h => ?_)
    refine wa_goto fx 38 dX4_chair_13 (by decide) ?_
    refine wa_sub [0, 1, 2, 3] rfl ?_
    exact B38 a1 a2 a3 z16 st h
  · refine wa_iload_n fx 2 dX4_chair_16 rfl ?_
    refine wa_iconst fx (1 : Int32) dX4_chair_17 (by decide) ?_
    refine wa_icmp_ne fx 37 dX4_chair_18 (by decide) h (fun h => ?_) (fun h => ?_)
    · refine wa_iload_n fx 3 dX4_chair_21 rfl ?_
      refine wa_i2l fx dX4_chair_22 ?_
      refine wa_lconst fx (0 : Int64) dX4_chair_23 (by decide) ?_
      refine wa_ldc2 fx q_5_3 dX4_chair_24 ?_
      refine wa_S (rmc := (rmh 1)) (As := [.long (Int32.toInt64 a3), .long (0 : Int64), .long (9 : Int64)]) (st := []) (wc := (no_ws ())) (wr := (mo_ws g ad st)) (wcz := fun _ => (no_ws ())) (w2 := fun _ => (mo_ws g ad st)) (o := fun z15 => some (.int z15)) (s2 := fun z15 => [.int z15]) fx mm_X4_in q_5_5 dX4_chair_27 h (fun _ hz => c_X4_in hz) (rm_ok (by decide) (by decide)) ⟨Nat.zero_le _, Nat.zero_le _⟩ rfl (List.Perm.of_eq (List.append_nil _).symm) (fun _ => (List.Perm.of_eq (List.append_nil _).symm)) rfl (Nat.le_of_ble_eq_true rfl) (fun _ => rfl) (fun z15 h => ?_)
      refine wa_if_eq fx 37 dX4_chair_30 (by decide) h (fun h => ?_) (fun h => ?_)
      · refine wa_sub [0, 1, 2, 3] rfl ?_
        exact B37 a1 a2 a3 st h
      · refine wa_iconst fx (1 : Int32) dX4_chair_33 (by decide) ?_
        refine wa_goto fx 38 dX4_chair_34 (by decide) ?_
        refine wa_sub [0, 1, 2, 3] rfl ?_
        exact B38 a1 a2 a3 (1 : Int32) st h
    · refine wa_sub [0, 1, 2, 3] rfl ?_
      exact B37 a1 a2 a3 st h
def f_X4_chairOf  (st : StT) (a1 : Int32) (a2 : Int32) : Option (Int32 × (StT)) := Option.bind (f_X4_isChair a1) fun z1 => if z1 = 0 then (Option.bind (f_X4_finds st (-1000000001 : Int32)) fun z2 => some (z2.1, z2.2)) else (Option.bind (f_X4_in (Int32.toInt64 a2) (0 : Int64) (2 : Int64)) fun z3 => if z3 = 0 then (Option.bind (f_X4_finds st (-1000000001 : Int32)) fun z6 => some (z6.1, z6.2)) else (if a2 = (2 : Int32) then (Option.bind (f_X4_whoIn st a1) fun z5 => some (z5, st)) else (Option.bind (f_X4_chairAt a1 a2) fun z4 => ck z4 66 (some ((st.1 0 (Int32.toNatClampNeg z4)), st)))))
set_option maxHeartbeats 4000000 in
set_option maxRecDepth 100000 in
theorem c_X4_chairOf {g : GT} {l : Launch} {ad : Nat → Nat}   {st : StT} {a1 : Int32} {a2 : Int32} {r : Int32 × (StT)} (h : f_X4_chairOf st a1 a2 = some r) : Ct g l yX4_chairOf (wd yX4_chairOf cX4_chairOf 3 (some .int)) (rmh 4) [.ref (ad 0), .int a1, .int a2] (mo_ws g ad st) (mo_ws g ad r.2) (some (.int r.1)) := by
  refine Ct.of (lv := [(0, .ref (ad 0)), (1, .int a1), (2, .int a2)]) (by decide) (Nat.le_of_ble_eq_true rfl) rfl (fun K hl fx hf => ?_)
  subst hl
  rw [f_X4_chairOf] at h
  refine wa_iload_n fx 1 dX4_chairOf_0 rfl ?_
  refine wa_S (rmc := (rmh 2)) (As := [.int a1]) (st := []) (wc := (no_ws ())) (wr := (mo_ws g ad st)) (wcz := fun _ => (no_ws ())) (w2 := fun _ => (mo_ws g ad st)) (o := fun z1 => some (.int z1)) (s2 := fun z1 => [.int z1]) fx mm_X4_isChair q_5_8 dX4_chairOf_1 h (fun _ hz => c_X4_isChair hz) (rm_ok (by decide) (by decide)) ⟨Nat.zero_le _, Nat.zero_le _⟩ rfl (List.Perm.of_eq (List.append_nil _).symm) (fun _ => (List.Perm.of_eq (List.append_nil _).symm)) rfl (Nat.le_of_ble_eq_true rfl) (fun _ => rfl) (fun z1 h => ?_)
  refine wa_if_eq fx 19 dX4_chairOf_4 (by decide) h (fun h => ?_) (fun h => ?_)
  · refine wa_aload_n fx 0 dX4_chairOf_19 rfl ?_
    refine wa_ldc fx q_5_4 dX4_chairOf_20 ?_
    refine wa_V (b := ad 0) (rmc := (rmh 1)) (As := [.int (-1000000001 : Int32)]) (st := []) (wc := (mo_ws g ad st)) (wr := ([] : va_W)) (wcz := fun z2 => mo_ws g ad z2.2) (w2 := fun z2 => mo_ws g ad z2.2) (o := fun z2 => some (.int z2.1)) (s2 := fun z2 => [.int z2.1]) (ci := 4) (q0 := 0) fx mm_X4_finds q_5_16 dX4_chairOf_22 h (fun _ hz => c_X4_finds hz) rfl rfl (rm_ok (by decide) (by decide)) ⟨Nat.zero_le _, Nat.zero_le _⟩ rfl (List.Perm.refl _) (fun _ => List.Perm.refl _) rfl (Nat.le_of_ble_eq_true rfl) (fun _ => rfl) (fun z2 h => ?_)
    exact fn_i (mo_ws g ad) fx hf (sn1 h) (sn2 h) dX4_chairOf_25
  · refine wa_iload_n fx 2 dX4_chairOf_7 rfl ?_
    refine wa_i2l fx dX4_chairOf_8 ?_
    refine wa_lconst fx (0 : Int64) dX4_chairOf_9 (by decide) ?_
    refine wa_ldc2 fx q_6_5 dX4_chairOf_10 ?_
    refine wa_S (rmc := (rmh 1)) (As := [.long (Int32.toInt64 a2), .long (0 : Int64), .long (2 : Int64)]) (st := []) (wc := (no_ws ())) (wr := (mo_ws g ad st)) (wcz := fun _ => (no_ws ())) (w2 := fun _ => (mo_ws g ad st)) (o := fun z3 => some (.int z3)) (s2 := fun z3 => [.int z3]) fx mm_X4_in q_5_5 dX4_chairOf_13 h (fun _ hz => c_X4_in hz) (rm_ok (by decide) (by decide)) ⟨Nat.zero_le _, Nat.zero_le _⟩ rfl (List.Perm.of_eq (List.append_nil _).symm) (fun _ => (List.Perm.of_eq (List.append_nil _).symm)) rfl (Nat.le_of_ble_eq_true rfl) (fun _ => rfl) (fun z3 h => ?_)
    refine wa_if_ne fx 26 dX4_chairOf_16 (by decide) h (fun h => ?_) (fun h => ?_)
    · refine wa_aload_n fx 0 dX4_chairOf_19 rfl ?_
      refine wa_ldc fx q_5_4 dX4_chairOf_20 ?_
      refine wa_V (b := ad 0) (rmc := (rmh 1)) (As := [.int (-1000000001 : Int32)]) (st := []) (wc := (mo_ws g ad st)) (wr := ([] : va_W)) (wcz := fun z6 => mo_ws g ad z6.2) (w2 := fun z6 => mo_ws g ad z6.2) (o := fun z6 => some (.int z6.1)) (s2 := fun z6 => [.int z6.1]) (ci := 4) (q0 := 0) fx mm_X4_finds q_5_16 dX4_chairOf_22 h (fun _ hz => c_X4_finds hz) rfl rfl (rm_ok (by decide) (by decide)) ⟨Nat.zero_le _, Nat.zero_le _⟩ rfl (List.Perm.refl _) (fun _ => List.Perm.refl _) rfl (Nat.le_of_ble_eq_true rfl) (fun _ => rfl) (fun z6 h => ?_)
      exact fn_i (mo_ws g ad) fx hf (sn1 h) (sn2 h) dX4_chairOf_25
    · refine wa_iload_n fx 2 dX4_chairOf_26 rfl ?_
      refine wa_iconst fx (2 : Int32) dX4_chairOf_27 (by decide) ?_
      refine wa_icmp_ne fx 39 dX4_chairOf_28 (by decide) h (fun h => ?_) (fun h => ?_)
      · refine wa_aload_n fx 0 dX4_chairOf_31 rfl ?_
        refine wa_iload_n fx 1 dX4_chairOf_32 rfl ?_
        refine wa_V (b := ad 0) (rmc := (rmh 3)) (As := [.int a1]) (st := []) (wc := (mo_ws g ad st)) (wr := ([] : va_W)) (wcz := fun _ => (mo_ws g ad st)) (w2 := fun _ => (mo_ws g ad st)) (o := fun z5 => some (.int z5)) (s2 := fun z5 => [.int z5]) (ci := 4) (q0 := 0) fx mm_X4_whoIn q_6_6 dX4_chairOf_33 h (fun _ hz => c_X4_whoIn hz) rfl rfl (rm_ok (by decide) (by decide)) ⟨Nat.zero_le _, Nat.zero_le _⟩ rfl (List.Perm.refl _) (fun _ => (List.Perm.refl _)) rfl (Nat.le_of_ble_eq_true rfl) (fun _ => rfl) (fun z5 h => ?_)
        refine wa_goto fx 49 dX4_chairOf_36 (by decide) ?_
        exact fn_i (mo_ws g ad) fx hf (sn1 h) (sn2 h) dX4_chairOf_49
      · refine wa_aload_n fx 0 dX4_chairOf_39 rfl ?_
        refine wa_get (v := .ref (ad 1)) fx wm_X4 0 rfl rfl 0 (by decide) q_3_15 rfl rfl dX4_chairOf_40 ?_
        refine wa_iload_n fx 1 dX4_chairOf_43 rfl ?_
        refine wa_iload_n fx 2 dX4_chairOf_44 rfl ?_
        refine wa_S (rmc := (rmh 1)) (As := [.int a1, .int a2]) (st := [.ref (ad 1)]) (wc := (no_ws ())) (wr := (mo_ws g ad st)) (wcz := fun _ => (no_ws ())) (w2 := fun _ => (mo_ws g ad st)) (o := fun z4 => some (.int z4)) (s2 := fun z4 => [.int z4, .ref (ad 1)]) fx mm_X4_chairAt q_4_2 dX4_chairOf_45 h (fun _ hz => c_X4_chairAt hz) (rm_ok (by decide) (by decide)) ⟨Nat.zero_le _, Nat.zero_le _⟩ rfl (List.Perm.of_eq (List.append_nil _).symm) (fun _ => (List.Perm.of_eq (List.append_nil _).symm)) rfl (Nat.le_of_ble_eq_true rfl) (fun _ => rfl) (fun z4 h => ?_)
        refine wa_iald (f := st.1 0) fx 1 rfl dX4_chairOf_48 h (fun h => ?_)
        exact fn_i (mo_ws g ad) fx hf (sn1 h) (sn2 h) dX4_chairOf_49
def f_X4_adds  (st : StT) (a1 : Int32) : Option (Int32 × (StT)) := ck (0 : Int32) 66 (nm (st.1 0 (Int32.toNatClampNeg (0 : Int32))) fun x1 => Option.bind (f_X4_spotOf x1 (0 : Int32)) fun z2 => ck z2 66 (nm (setA st 0 (upd (st.1 0) (Int32.toNatClampNeg z2) a1)) fun w3 => Option.bind (f_X4_spotOf x1 (1 : Int32)) fun z4 => ck z4 66 (nm (setA w3 0 (upd (w3.1 0) (Int32.toNatClampNeg z4) (0 : Int32))) fun w5 => Option.bind (f_X4_spotOf x1 (2 : Int32)) fun z6 => ck z6 66 (nm (setA w5 0 (upd (w5.1 0) (Int32.toNatClampNeg z6) (-1 : Int32))) fun w7 => Option.bind (f_X4_spotOf x1 (3 : Int32)) fun z8 => ck z8 66 (nm (setA w7 0 (upd (w7.1 0) (Int32.toNatClampNeg z8) (0 : Int32))) fun w9 => Option.bind (f_X4_spotOf x1 (4 : Int32)) fun z10 => ck z10 66 (nm (setA w9 0 (upd (w9.1 0) (Int32.toNatClampNeg z10) (0 : Int32))) fun w11 => Option.bind (f_X4_spotOf x1 (5 : Int32)) fun z12 => ck z12 66 (nm (setA w11 0 (upd (w11.1 0) (Int32.toNatClampNeg z12) (-1 : Int32))) fun w13 => ck (0 : Int32) 66 (ck (0 : Int32) 66 (nm (setA w13 0 (upd (w13.1 0) (Int32.toNatClampNeg (0 : Int32)) ((w13.1 0 (Int32.toNatClampNeg (0 : Int32))) + (1 : Int32)))) fun w14 => some (x1, w14))))))))))
set_option maxHeartbeats 4000000 in
set_option maxRecDepth 100000 in
theorem c_X4_adds {g : GT} {l : Launch} {ad : Nat → Nat}   {st : StT} {a1 : Int32} {r : Int32 × (StT)} (h : f_X4_adds st a1 = some r) : Ct g l yX4_adds (wd yX4_adds cX4_adds 3 (some .int)) (rmh 2) [.ref (ad 0), .int a1] (mo_ws g ad st) (mo_ws g ad r.2) (some (.int r.1)) := by
  refine Ct.of (lv := [(0, .ref (ad 0)), (1, .int a1)]) (by decide) (Nat.le_of_ble_eq_true rfl) rfl (fun K hl fx hf => ?_)
  subst hl
  rw [f_X4_adds] at h
  refine wa_aload_n fx 0 dX4_adds_0 rfl ?_
  refine wa_get (v := .ref (ad 1)) fx wm_X4 0 rfl rfl 0 (by decide) q_3_15 rfl rfl dX4_adds_1 ?_
  refine wa_iconst fx (0 : Int32) dX4_adds_4 (by decide) ?_
  refine wa_iald (f := st.1 0) fx 1 rfl dX4_adds_5 h (fun h => ?_)
  refine wa_istore_nN fx (fun x1 => [(2, .int x1), (0, .ref (ad 0)), (1, .int a1)]) dX4_adds_6 rfl (by decide) (fun _ => rfl) h (fun x1 h => ?_)
  refine wa_aload_n fx 1 dX4_adds_7 rfl ?_
  refine wa_get (v := .ref (ad 1)) fx wm_X4 0 rfl rfl 0 (by decide) q_3_15 rfl rfl dX4_adds_8 ?_
  refine wa_iload_n fx 0 dX4_adds_11 rfl ?_
  refine wa_iconst fx (0 : Int32) dX4_adds_12 (by decide) ?_
  refine wa_S (rmc := (rmh 1)) (As := [.int x1, .int (0 : Int32)]) (st := [.ref (ad 1)]) (wc := (no_ws ())) (wr := (mo_ws g ad st)) (wcz := fun _ => (no_ws ())) (w2 := fun _ => (mo_ws g ad st)) (o := fun z2 => some (.int z2)) (s2 := fun z2 => [.int z2, .ref (ad 1)]) fx mm_X4_spotOf q_6_14 dX4_adds_13 h (fun _ hz => c_X4_spotOf hz) (rm_ok (by decide) (by decide)) ⟨Nat.zero_le _, Nat.zero_le _⟩ rfl (List.Perm.of_eq (List.append_nil _).symm) (fun _ => (List.Perm.of_eq (List.append_nil _).symm)) rfl (Nat.le_of_ble_eq_true rfl) (fun _ => rfl) (fun z2 h => ?_)
  refine wa_iload_n fx 2 dX4_adds_16 rfl ?_
  refine wa_iast (mo_ws g ad) (f := st.1 0) fx 1 rfl dX4_adds_17 h rfl (fun w3 h => ?_)
  refine wa_aload_n fx 1 dX4_adds_18 rfl ?_
  refine wa_get (v := .ref (ad 1)) fx wm_X4 0 rfl rfl 0 (by decide) q_3_15 rfl rfl dX4_adds_19 ?_
  refine wa_iload_n fx 0 dX4_adds_22 rfl ?_
  refine wa_iconst fx (1 : Int32) dX4_adds_23 (by decide) ?_
  refine wa_S (rmc := (rmh 1)) (As := [.int x1, .int (1 : Int32)]) (st := [.ref (ad 1)]) (wc := (no_ws ())) (wr := (mo_ws g ad w3)) (wcz := fun _ => (no_ws ())) (w2 := fun _ => (mo_ws g ad w3)) (o := fun z4 => some (.int z4)) (s2 := fun z4 => [.int z4, .ref (ad 1)]) fx mm_X4_spotOf q_6_14 dX4_adds_24 h (fun _ hz => c_X4_spotOf hz) (rm_ok (by decide) (by decide)) ⟨Nat.zero_le _, Nat.zero_le _⟩ rfl (List.Perm.of_eq (List.append_nil _).symm) (fun _ => (List.Perm.of_eq (List.append_nil _).symm)) rfl (Nat.le_of_ble_eq_true rfl) (fun _ => rfl) (fun z4 h => ?_)
  refine wa_iconst fx (0 : Int32) dX4_adds_27 (by decide) ?_
  refine wa_iast (mo_ws g ad) (f := w3.1 0) fx 1 rfl dX4_adds_28 h rfl (fun w5 h => ?_)
  refine wa_aload_n fx 1 dX4_adds_29 rfl ?_
  refine wa_get (v := .ref (ad 1)) fx wm_X4 0 rfl rfl 0 (by decide) q_3_15 rfl rfl dX4_adds_30 ?_
  refine wa_iload_n fx 0 dX4_adds_33 rfl ?_
  refine wa_iconst fx (2 : Int32) dX4_adds_34 (by decide) ?_
  refine wa_S (rmc := (rmh 1)) (As := [.int x1, .int (2 : Int32)]) (st := [.ref (ad 1)]) (wc := (no_ws ())) (wr := (mo_ws g ad w5)) (wcz := fun _ => (no_ws ())) (w2 := fun _ => (mo_ws g ad w5)) (o := fun z6 => some (.int z6)) (s2 := fun z6 => [.int z6, .ref (ad 1)]) fx mm_X4_spotOf q_6_14 dX4_adds_35 h (fun _ hz => c_X4_spotOf hz) (rm_ok (by decide) (by decide)) ⟨Nat.zero_le _, Nat.zero_le _⟩ rfl (List.Perm.of_eq (List.append_nil _).symm) (fun _ => (List.Perm.of_eq (List.append_nil _).symm)) rfl (Nat.le_of_ble_eq_true rfl) (fun _ => rfl) (fun z6 h => ?_)
  refine wa_iconst fx (-1 : Int32) dX4_adds_38 (by decide) ?_
  refine wa_iast (mo_ws g ad) (f := w5.1 0) fx 1 rfl dX4_adds_39 h rfl (fun w7 h => ?_)
  refine wa_aload_n fx 1 dX4_adds_40 rfl ?_
  refine wa_get (v := .ref (ad 1)) fx wm_X4 0 rfl rfl 0 (by decide) q_3_15 rfl rfl dX4_adds_41 ?_
  refine wa_iload_n fx 0 dX4_adds_44 rfl ?_
  refine wa_iconst fx (3 : Int32) dX4_adds_45 (by decide) ?_
  refine wa_S (rmc := (rmh 1)) (As := [.int x1, .int (3 : Int32)]) (st := [.ref (ad 1)]) (wc := (no_ws ())) (wr := (mo_ws g ad w7)) (wcz := fun _ => (no_ws ())) (w2 := fun _ => (mo_ws g ad w7)) (o := fun z8 => some (.int z8)) (s2 := fun z8 => [.int z8, .ref (ad 1)]) fx mm_X4_spotOf q_6_14 dX4_adds_46 h (fun _ hz => c_X4_spotOf hz) (rm_ok (by decide) (by decide)) ⟨Nat.zero_le _, Nat.zero_le _⟩ rfl (List.Perm.of_eq (List.append_nil _).symm) (fun _ => (List.Perm.of_eq (List.append_nil _).symm)) rfl (Nat.le_of_ble_eq_true rfl) (fun _ => rfl) (fun z8 h => ?_)
  refine wa_iconst fx (0 : Int32) dX4_adds_49 (by decide) ?_
  refine wa_iast (mo_ws g ad) (f := w7.1 0) fx 1 rfl dX4_adds_50 h rfl (fun w9 h => ?_)
  refine wa_aload_n fx 1 dX4_adds_51 rfl ?_
  refine wa_get (v := .ref (ad 1)) fx wm_X4 0 rfl rfl 0 (by decide) q_3_15 rfl rfl dX4_adds_52 ?_
  refine wa_iload_n fx 0 dX4_adds_55 rfl ?_
  refine wa_iconst fx (4 : Int32) dX4_adds_56 (by decide) ?_
  refine wa_S (rmc := (rmh 1)) (As := [.int x1, .int (4 : Int32)]) (st := [.ref (ad 1)]) (wc := (no_ws ())) (wr := (mo_ws g ad w9)) (wcz := fun _ => (no_ws ())) (w2 := fun _ => (mo_ws g ad w9)) (o := fun z10 => some (.int z10)) (s2 := fun z10 => [.int z10, .ref (ad 1)]) fx mm_X4_spotOf q_6_14 dX4_adds_57 h (fun _ hz => c_X4_spotOf hz) (rm_ok (by decide) (by decide)) ⟨Nat.zero_le _, Nat.zero_le _⟩ rfl (List.Perm.of_eq (List.append_nil _).symm) (fun _ => (List.Perm.of_eq (List.append_nil _).symm)) rfl (Nat.le_of_ble_eq_true rfl) (fun _ => rfl) (fun z10 h => ?_)
  refine wa_iconst fx (0 : Int32) dX4_adds_60 (by decide) ?_
  refine wa_iast (mo_ws g ad) (f := w9.1 0) fx 1 rfl dX4_adds_61 h rfl (fun w11 h => ?_)
  refine wa_aload_n fx 1 dX4_adds_62 rfl ?_
  refine wa_get (v := .ref (ad 1)) fx wm_X4 0 rfl rfl 0 (by decide) q_3_15 rfl rfl dX4_adds_63 ?_
  refine wa_iload_n fx 0 dX4_adds_66 rfl ?_
  refine wa_iconst fx (5 : Int32) dX4_adds_67 (by decide) ?_
  refine wa_S (rmc := (rmh 1)) (As := [.int x1, .int (5 : Int32)]) (st := [.ref (ad 1)]) (wc := (no_ws ())) (wr := (mo_ws g ad w11)) (wcz := fun _ => (no_ws ())) (w2 := fun _ => (mo_ws g ad w11)) (o := fun z12 => some (.int z12)) (s2 := fun z12 => [.int z12, .ref (ad 1)]) fx mm_X4_spotOf q_6_14 dX4_adds_68 h (fun _ hz => c_X4_spotOf hz) (rm_ok (by decide) (by decide)) ⟨Nat.zero_le _, Nat.zero_le _⟩ rfl (List.Perm.of_eq (List.append_nil _).symm) (fun _ => (List.Perm.of_eq (List.append_nil _).symm)) rfl (Nat.le_of_ble_eq_true rfl) (fun _ => rfl) (fun z12 h => ?_)
  refine wa_iconst fx (-1 : Int32) dX4_adds_71 (by decide) ?_
  refine wa_iast (mo_ws g ad) (f := w11.1 0) fx 1 rfl dX4_adds_72 h rfl (fun w13 h => ?_)
  refine wa_aload_n fx 1 dX4_adds_73 rfl ?_
  refine wa_get (v := .ref (ad 1)) fx wm_X4 0 rfl rfl 0 (by decide) q_3_15 rfl rfl dX4_adds_74 ?_
  refine wa_iconst fx (0 : Int32) dX4_adds_77 (by decide) ?_
  refine wa_dup2 fx dX4_adds_78 rfl rfl ?_
  refine wa_iald (f := w13.1 0) fx 1 rfl dX4_adds_79 h (fun h => ?_)
  refine wa_iconst fx (1 : Int32) dX4_adds_80 (by decide) ?_
  refine wa_iadd fx dX4_adds_81 ?_
  refine wa_iast (mo_ws g ad) (f := w13.1 0) fx 1 rfl dX4_adds_82 h rfl (fun w14 h => ?_)
  refine wa_iload_n fx 0 dX4_adds_83 rfl ?_
  exact fn_i (mo_ws g ad) fx hf (sn1 h) (sn2 h) dX4_adds_84
def f_X4_person  (st : StT) (a1 : Int32) : Option (Int32 × (StT)) := Option.bind (f_X4_isKind a1) fun z1 => if z1 = 0 then (Option.bind (f_X4_finds st (-1000000001 : Int32)) fun z4 => some (z4.1, z4.2)) else (ck (0 : Int32) 66 (if (st.1 0 (Int32.toNatClampNeg (0 : Int32))) = (8 : Int32) then (Option.bind (f_X4_finds st (-1000000002 : Int32)) fun z3 => some (z3.1, z3.2)) else (Option.bind (f_X4_adds st a1) fun z2 => some (z2.1, z2.2))))
set_option maxHeartbeats 4000000 in
set_option maxRecDepth 100000 in
theorem c_X4_person {g : GT} {l : Launch} {ad : Nat → Nat}   {st : StT} {a1 : Int32} {r : Int32 × (StT)} (h : f_X4_person st a1 = some r) : Ct g l yX4_person (wd yX4_person cX4_person 2 (some .int)) (rmh 3) [.ref (ad 0), .int a1] (mo_ws g ad st) (mo_ws g ad r.2) (some (.int r.1)) := by
  refine Ct.of (lv := [(0, .ref (ad 0)), (1, .int a1)]) (by decide) (Nat.le_of_ble_eq_true rfl) rfl (fun K hl fx hf => ?_)
  subst hl
  rw [f_X4_person] at h
  refine wa_iload_n fx 1 dX4_person_0 rfl ?_
  refine wa_S (rmc := (rmh 2)) (As := [.int a1]) (st := []) (wc := (no_ws ())) (wr := (mo_ws g ad st)) (wcz := fun _ => (no_ws ())) (w2 := fun _ => (mo_ws g ad st)) (o := fun z1 => some (.int z1)) (s2 := fun z1 => [.int z1]) fx mm_X4_isKind q_7_11 dX4_person_1 h (fun _ hz => c_X4_isKind hz) (rm_ok (by decide) (by decide)) ⟨Nat.zero_le _, Nat.zero_le _⟩ rfl (List.Perm.of_eq (List.append_nil _).symm) (fun _ => (List.Perm.of_eq (List.append_nil _).symm)) rfl (Nat.le_of_ble_eq_true rfl) (fun _ => rfl) (fun z1 h => ?_)
  refine wa_if_ne fx 14 dX4_person_4 (by decide) h (fun h => ?_) (fun h => ?_)
  · refine wa_aload_n fx 0 dX4_person_7 rfl ?_
    refine wa_ldc fx q_5_4 dX4_person_8 ?_
    refine wa_V (b := ad 0) (rmc := (rmh 1)) (As := [.int (-1000000001 : Int32)]) (st := []) (wc := (mo_ws g ad st)) (wr := ([] : va_W)) (wcz := fun z4 => mo_ws g ad z4.2) (w2 := fun z4 => mo_ws g ad z4.2) (o := fun z4 => some (.int z4.1)) (s2 := fun z4 => [.int z4.1]) (ci := 4) (q0 := 0) fx mm_X4_finds q_5_16 dX4_person_10 h (fun _ hz => c_X4_finds hz) rfl rfl (rm_ok (by decide) (by decide)) ⟨Nat.zero_le _, Nat.zero_le _⟩ rfl (List.Perm.refl _) (fun _ => List.Perm.refl _) rfl (Nat.le_of_ble_eq_true rfl) (fun _ => rfl) (fun z4 h => ?_)
    exact fn_i (mo_ws g ad) fx hf (sn1 h) (sn2 h) dX4_person_13
  · refine wa_aload_n fx 0 dX4_person_14 rfl ?_
    refine wa_get (v := .ref (ad 1)) fx wm_X4 0 rfl rfl 0 (by decide) q_3_15 rfl rfl dX4_person_15 ?_
    refine wa_iconst fx (0 : Int32) dX4_person_18 (by decide) ?_
    refine wa_iald (f := st.1 0) fx 1 rfl dX4_person_19 h (fun h => ?_)
    refine wa_bipush fx (8 : Int32) dX4_person_20 (by decide) ?_
    refine wa_icmp_ne fx 34 dX4_person_22 (by decide) h (fun h => ?_) (fun h => ?_)
    · refine wa_aload_n fx 0 dX4_person_25 rfl ?_
      refine wa_ldc fx q_7_10 dX4_person_26 ?_
      refine wa_V (b := ad 0) (rmc := (rmh 1)) (As := [.int (-1000000002 : Int32)]) (st := []) (wc := (mo_ws g ad st)) (wr := ([] : va_W)) (wcz := fun z3 => mo_ws g ad z3.2) (w2 := fun z3 => mo_ws g ad z3.2) (o := fun z3 => some (.int z3.1)) (s2 := fun z3 => [.int z3.1]) (ci := 4) (q0 := 0) fx mm_X4_finds q_5_16 dX4_person_28 h (fun _ hz => c_X4_finds hz) rfl rfl (rm_ok (by decide) (by decide)) ⟨Nat.zero_le _, Nat.zero_le _⟩ rfl (List.Perm.refl _) (fun _ => List.Perm.refl _) rfl (Nat.le_of_ble_eq_true rfl) (fun _ => rfl) (fun z3 h => ?_)
      refine wa_goto fx 39 dX4_person_31 (by decide) ?_
      exact fn_i (mo_ws g ad) fx hf (sn1 h) (sn2 h) dX4_person_39
    · refine wa_aload_n fx 0 dX4_person_34 rfl ?_
      refine wa_iload_n fx 1 dX4_person_35 rfl ?_
      refine wa_V (b := ad 0) (rmc := (rmh 2)) (As := [.int a1]) (st := []) (wc := (mo_ws g ad st)) (wr := ([] : va_W)) (wcz := fun z2 => mo_ws g ad z2.2) (w2 := fun z2 => mo_ws g ad z2.2) (o := fun z2 => some (.int z2.1)) (s2 := fun z2 => [.int z2.1]) (ci := 4) (q0 := 0) fx mm_X4_adds q_7_15 dX4_person_36 h (fun _ hz => c_X4_adds hz) rfl rfl (rm_ok (by decide) (by decide)) ⟨Nat.zero_le _, Nat.zero_le _⟩ rfl (List.Perm.refl _) (fun _ => List.Perm.refl _) rfl (Nat.le_of_ble_eq_true rfl) (fun _ => rfl) (fun z2 h => ?_)
      exact fn_i (mo_ws g ad) fx hf (sn1 h) (sn2 h) dX4_person_39
def f_X4_givesUp (st : StT) (a1 : Int32) : Option (Int32) := Option.bind (f_X4_its st a1 (0 : Int32)) fun z1 => if z1 = (1 : Int32) then (Option.bind (f_X4_its st a1 (1 : Int32)) fun z2 => some ((8 : Int32) + (z2 / (10 : Int32)))) else (if z1 = (3 : Int32) then (some (4 : Int32)) else (if z1 = (4 : Int32) then (some (99 : Int32)) else (if z1 = (5 : Int32) then (some (4 : Int32)) else (some (8 : Int32)))))
set_option maxHeartbeats 4000000 in
set_option maxRecDepth 100000 in
theorem c_X4_givesUp {g : GT} {l : Launch} {ad : Nat → Nat}   {st : StT} {a1 : Int32} {r : Int32} (h : f_X4_givesUp st a1 = some r) : Ct g l yX4_givesUp (wd yX4_givesUp cX4_givesUp 2 (some .int)) (rmh 3) [.ref (ad 0), .int a1] (mo_ws g ad st) (mo_ws g ad st) (some (.int r)) := by
  refine Ct.of (lv := [(0, .ref (ad 0)), (1, .int a1)]) (by decide) (Nat.le_of_ble_eq_true rfl) rfl (fun K hl fx hf => ?_)
  subst hl
  rw [f_X4_givesUp] at h
  refine wa_aload_n fx 0 dX4_givesUp_0 rfl ?_
  refine wa_iload_n fx 1 dX4_givesUp_1 rfl ?_
  refine wa_iconst fx (0 : Int32) dX4_givesUp_2 (by decide) ?_
  refine wa_V (b := ad 0) (rmc := (rmh 2)) (As := [.int a1, .int (0 : Int32)]) (st := []) (wc := (mo_ws g ad st)) (wr := ([] : va_W)) (wcz := fun _ => (mo_ws g ad st)) (w2 := fun _ => (mo_ws g ad st)) (o := fun z1 => some (.int z1)) (s2 := fun z1 => [.int z1]) (ci := 4) (q0 := 0) fx mm_X4_its q_6_10 dX4_givesUp_3 h (fun _ hz => c_X4_its hz) rfl rfl (rm_ok (by decide) (by decide)) ⟨Nat.zero_le _, Nat.zero_le _⟩ rfl (List.Perm.refl _) (fun _ => (List.Perm.refl _)) rfl (Nat.le_of_ble_eq_true rfl) (fun _ => rfl) (fun z1 h => ?_)
  by_cases c0 : z1 = (1 : Int32)
  · have h := (if_pos c0).symm.trans h
    refine wa_tabI fx 40 (1 : Int) dX4_givesUp_6 (by rw [c0] <;> rfl) (by decide) (by decide) (by rfl) (by decide) ?_
    refine wa_bipush fx (8 : Int32) dX4_givesUp_40 (by decide) ?_
    refine wa_aload_n fx 0 dX4_givesUp_42 rfl ?_
    refine wa_iload_n fx 1 dX4_givesUp_43 rfl ?_
    refine wa_iconst fx (1 : Int32) dX4_givesUp_44 (by decide) ?_
    refine wa_V (b := ad 0) (rmc := (rmh 2)) (As := [.int a1, .int (1 : Int32)]) (st := [.int (8 : Int32)]) (wc := (mo_ws g ad st)) (wr := ([] : va_W)) (wcz := fun _ => (mo_ws g ad st)) (w2 := fun _ => (mo_ws g ad st)) (o := fun z2 => some (.int z2)) (s2 := fun z2 => [.int z2, .int (8 : Int32)]) (ci := 4) (q0 := 0) fx mm_X4_its q_6_10 dX4_givesUp_45 h (fun _ hz => c_X4_its hz) rfl rfl (rm_ok (by decide) (by decide)) ⟨Nat.zero_le _, Nat.zero_le _⟩ rfl (List.Perm.refl _) (fun _ => (List.Perm.refl _)) rfl (Nat.le_of_ble_eq_true rfl) (fun _ => rfl) (fun z2 h => ?_)
    refine wa_bipush fx (10 : Int32) dX4_givesUp_48 (by decide) ?_
    refine wa_idiv fx dX4_givesUp_50 (by decide) ?_
    refine wa_iadd fx dX4_givesUp_51 ?_
    exact fn_i (mo_ws g ad) fx hf (Option.some.inj h) rfl dX4_givesUp_52
  · have h := (if_neg c0).symm.trans h
    by_cases c1 : z1 = (3 : Int32)
    · have h := (if_pos c1).symm.trans h
      refine wa_tabI fx 53 (3 : Int) dX4_givesUp_6 (by rw [c1] <;> rfl) (by decide) (by decide) (by rfl) (by decide) ?_
      refine wa_iconst fx (4 : Int32) dX4_givesUp_53 (by decide) ?_
      exact fn_i (mo_ws g ad) fx hf (Option.some.inj h) rfl dX4_givesUp_54
    · have h := (if_neg c1).symm.trans h
      by_cases c2 : z1 = (4 : Int32)
      · have h := (if_pos c2).symm.trans h
        refine wa_tabI fx 55 (4 : Int) dX4_givesUp_6 (by rw [c2] <;> rfl) (by decide) (by decide) (by rfl) (by decide) ?_
        refine wa_bipush fx (99 : Int32) dX4_givesUp_55 (by decide) ?_
        exact fn_i (mo_ws g ad) fx hf (Option.some.inj h) rfl dX4_givesUp_57
      · have h := (if_neg c2).symm.trans h
        by_cases c3 : z1 = (5 : Int32)
        · have h := (if_pos c3).symm.trans h
          refine wa_tabI fx 53 (5 : Int) dX4_givesUp_6 (by rw [c3] <;> rfl) (by decide) (by decide) (by rfl) (by decide) ?_
          refine wa_iconst fx (4 : Int32) dX4_givesUp_53 (by decide) ?_
          exact fn_i (mo_ws g ad) fx hf (Option.some.inj h) rfl dX4_givesUp_54
        · have h := (if_neg c3).symm.trans h
          refine wa_tabD fx 58 dX4_givesUp_6 (by decide) [(1 : Int32), (3 : Int32), (4 : Int32), (5 : Int32)] (by decide) (List.forall_mem_cons.mpr ⟨c0, (List.forall_mem_cons.mpr ⟨c1, (List.forall_mem_cons.mpr ⟨c2, (List.forall_mem_cons.mpr ⟨c3, (fun _ hm => absurd hm List.not_mem_nil)⟩)⟩)⟩)⟩) ?_
          refine wa_bipush fx (8 : Int32) dX4_givesUp_58 (by decide) ?_
          exact fn_i (mo_ws g ad) fx hf (Option.some.inj h) rfl dX4_givesUp_60
def f_X4_of  (st : StT) (a1 : Int32) (a2 : Int32) : Option (Int32 × (StT)) := Option.bind (f_X4_isPerson st a1) fun z1 => if z1 = 0 then (Option.bind (f_X4_finds st (-1000000001 : Int32)) fun z2 => some (z2.1, z2.2)) else (Option.bind (f_X4_in (Int32.toInt64 a2) (0 : Int64) (6 : Int64)) fun z3 => if z3 = 0 then (Option.bind (f_X4_finds st (-1000000001 : Int32)) fun z6 => some (z6.1, z6.2)) else (if (5 : Int32) < a2 then (Option.bind (f_X4_givesUp st a1) fun z4 => some (z4, st)) else (Option.bind (f_X4_its st a1 a2) fun z5 => some (z5, st))))
set_option maxHeartbeats 4000000 in
set_option maxRecDepth 100000 in
theorem c_X4_of {g : GT} {l : Launch} {ad : Nat → Nat}   {st : StT} {a1 : Int32} {a2 : Int32} {r : Int32 × (StT)} (h : f_X4_of st a1 a2 = some r) : Ct g l yX4_of (wd yX4_of cX4_of 3 (some .int)) (rmh 4) [.ref (ad 0), .int a1, .int a2] (mo_ws g ad st) (mo_ws g ad r.2) (some (.int r.1)) := by
  refine Ct.of (lv := [(0, .ref (ad 0)), (1, .int a1), (2, .int a2)]) (by decide) (Nat.le_of_ble_eq_true rfl) rfl (fun K hl fx hf => ?_)
  subst hl
  rw [f_X4_of] at h
  refine wa_aload_n fx 0 dX4_of_0 rfl ?_
  refine wa_iload_n fx 1 dX4_of_1 rfl ?_
  refine wa_V (b := ad 0) (rmc := (rmh 2)) (As := [.int a1]) (st := []) (wc := (mo_ws g ad st)) (wr := ([] : va_W)) (wcz := fun _ => (mo_ws g ad st)) (w2 := fun _ => (mo_ws g ad st)) (o := fun z1 => some (.int z1)) (s2 := fun z1 => [.int z1]) (ci := 4) (q0 := 0) fx mm_X4_isPerson q_8_18 dX4_of_2 h (fun _ hz => c_X4_isPerson hz) rfl rfl (rm_ok (by decide) (by decide)) ⟨Nat.zero_le _, Nat.zero_le _⟩ rfl (List.Perm.refl _) (fun _ => (List.Perm.refl _)) rfl (Nat.le_of_ble_eq_true rfl) (fun _ => rfl) (fun z1 h => ?_)
  refine wa_if_eq fx 20 dX4_of_5 (by decide) h (fun h => ?_) (fun h => ?_)
  · refine wa_aload_n fx 0 dX4_of_20 rfl ?_
    refine wa_ldc fx q_5_4 dX4_of_21 ?_
    refine wa_V (b := ad 0) (rmc := (rmh 1)) (As := [.int (-1000000001 : Int32)]) (st := []) (wc := (mo_ws g ad st)) (wr := ([] : va_W)) (wcz := fun z2 => mo_ws g ad z2.2) (w2 := fun z2 => mo_ws g ad z2.2) (o := fun z2 => some (.int z2.1)) (s2 := fun z2 => [.int z2.1]) (ci := 4) (q0 := 0) fx mm_X4_finds q_5_16 dX4_of_23 h (fun _ hz => c_X4_finds hz) rfl rfl (rm_ok (by decide) (by decide)) ⟨Nat.zero_le _, Nat.zero_le _⟩ rfl (List.Perm.refl _) (fun _ => List.Perm.refl _) rfl (Nat.le_of_ble_eq_true rfl) (fun _ => rfl) (fun z2 h => ?_)
    exact fn_i (mo_ws g ad) fx hf (sn1 h) (sn2 h) dX4_of_26
  · refine wa_iload_n fx 2 dX4_of_8 rfl ?_
    refine wa_i2l fx dX4_of_9 ?_
    refine wa_lconst fx (0 : Int64) dX4_of_10 (by decide) ?_
    refine wa_ldc2 fx q_8_17 dX4_of_11 ?_
    refine wa_S (rmc := (rmh 1)) (As := [.long (Int32.toInt64 a2), .long (0 : Int64), .long (6 : Int64)]) (st := []) (wc := (no_ws ())) (wr := (mo_ws g ad st)) (wcz := fun _ => (no_ws ())) (w2 := fun _ => (mo_ws g ad st)) (o := fun z3 => some (.int z3)) (s2 := fun z3 => [.int z3]) fx mm_X4_in q_5_5 dX4_of_14 h (fun _ hz => c_X4_in hz) (rm_ok (by decide) (by decide)) ⟨Nat.zero_le _, Nat.zero_le _⟩ rfl (List.Perm.of_eq (List.append_nil _).symm) (fun _ => (List.Perm.of_eq (List.append_nil _).symm)) rfl (Nat.le_of_ble_eq_true rfl) (fun _ => rfl) (fun z3 h => ?_)
    refine wa_if_ne fx 27 dX4_of_17 (by decide) h (fun h => ?_) (fun h => ?_)
    · refine wa_aload_n fx 0 dX4_of_20 rfl ?_
      refine wa_ldc fx q_5_4 dX4_of_21 ?_
      refine wa_V (b := ad 0) (rmc := (rmh 1)) (As := [.int (-1000000001 : Int32)]) (st := []) (wc := (mo_ws g ad st)) (wr := ([] : va_W)) (wcz := fun z6 => mo_ws g ad z6.2) (w2 := fun z6 => mo_ws g ad z6.2) (o := fun z6 => some (.int z6.1)) (s2 := fun z6 => [.int z6.1]) (ci := 4) (q0 := 0) fx mm_X4_finds q_5_16 dX4_of_23 h (fun _ hz => c_X4_finds hz) rfl rfl (rm_ok (by decide) (by decide)) ⟨Nat.zero_le _, Nat.zero_le _⟩ rfl (List.Perm.refl _) (fun _ => List.Perm.refl _) rfl (Nat.le_of_ble_eq_true rfl) (fun _ => rfl) (fun z6 h => ?_)
      exact fn_i (mo_ws g ad) fx hf (sn1 h) (sn2 h) dX4_of_26
    · refine wa_iload_n fx 2 dX4_of_27 rfl ?_
      refine wa_iconst fx (5 : Int32) dX4_of_28 (by decide) ?_
      refine wa_icmp_gt fx 41 dX4_of_29 (by decide) h (fun h => ?_) (fun h => ?_)
      · refine wa_aload_n fx 0 dX4_of_41 rfl ?_
        refine wa_iload_n fx 1 dX4_of_42 rfl ?_
        refine wa_V (b := ad 0) (rmc := (rmh 3)) (As := [.int a1]) (st := []) (wc := (mo_ws g ad st)) (wr := ([] : va_W)) (wcz := fun _ => (mo_ws g ad st)) (w2 := fun _ => (mo_ws g ad st)) (o := fun z4 => some (.int z4)) (s2 := fun z4 => [.int z4]) (ci := 4) (q0 := 0) fx mm_X4_givesUp q_8_22 dX4_of_43 h (fun _ hz => c_X4_givesUp hz) rfl rfl (rm_ok (by decide) (by decide)) ⟨Nat.zero_le _, Nat.zero_le _⟩ rfl (List.Perm.refl _) (fun _ => (List.Perm.refl _)) rfl (Nat.le_of_ble_eq_true rfl) (fun _ => rfl) (fun z4 h => ?_)
        exact fn_i (mo_ws g ad) fx hf (sn1 h) (sn2 h) dX4_of_46
      · refine wa_aload_n fx 0 dX4_of_32 rfl ?_
        refine wa_iload_n fx 1 dX4_of_33 rfl ?_
        refine wa_iload_n fx 2 dX4_of_34 rfl ?_
        refine wa_V (b := ad 0) (rmc := (rmh 2)) (As := [.int a1, .int a2]) (st := []) (wc := (mo_ws g ad st)) (wr := ([] : va_W)) (wcz := fun _ => (mo_ws g ad st)) (w2 := fun _ => (mo_ws g ad st)) (o := fun z5 => some (.int z5)) (s2 := fun z5 => [.int z5]) (ci := 4) (q0 := 0) fx mm_X4_its q_6_10 dX4_of_35 h (fun _ hz => c_X4_its hz) rfl rfl (rm_ok (by decide) (by decide)) ⟨Nat.zero_le _, Nat.zero_le _⟩ rfl (List.Perm.refl _) (fun _ => (List.Perm.refl _)) rfl (Nat.le_of_ble_eq_true rfl) (fun _ => rfl) (fun z5 h => ?_)
        refine wa_goto fx 46 dX4_of_38 (by decide) ?_
        exact fn_i (mo_ws g ad) fx hf (sn1 h) (sn2 h) dX4_of_46
def f_X4_isPart  (a0 : Int32) (a1 : Int32) : Option (Int32) := if a0 = (1 : Int32) then (Option.bind (f_X4_in (Int32.toInt64 a1) (0 : Int64) (99 : Int64)) fun z1 => ckb z1 (some z1)) else (if a0 = (2 : Int32) then (Option.bind (f_X4_in (Int32.toInt64 a1) (-1 : Int64) (7 : Int64)) fun z2 => ckb z2 (some z2)) else (if a0 = (4 : Int32) then (Option.bind (f_X4_in (Int32.toInt64 a1) (0 : Int64) (9999 : Int64)) fun z3 => if z3 = 0 then (some (0 : Int32)) else (some (1 : Int32))) else (some (0 : Int32))))
set_option maxHeartbeats 4000000 in
set_option maxRecDepth 100000 in
theorem c_X4_isPart {g : GT} {l : Launch}   {a0 : Int32} {a1 : Int32} {r : Int32} (h : f_X4_isPart a0 a1 = some r) : Ct g l yX4_isPart (wd yX4_isPart cX4_isPart 2 (some .boolean)) (rmh 2) [.int a0, .int a1] (no_ws ()) (no_ws ()) (some (.int r)) := by
  refine Ct.of (lv := [(0, .int a0), (1, .int a1)]) (by decide) (Nat.le_of_ble_eq_true rfl) rfl (fun K hl fx hf => ?_)
  subst hl
  rw [f_X4_isPart] at h
  refine wa_iload_n fx 0 dX4_isPart_0 rfl ?_
  by_cases c0 : a0 = (1 : Int32)
  · have h := (if_pos c0).symm.trans h
    refine wa_lookup (off := 27) fx dX4_isPart_1 (by decide) 28 (by rw [c0] <;> rfl) (by decide) ?_
    refine wa_iload_n fx 1 dX4_isPart_28 rfl ?_
    refine wa_i2l fx dX4_isPart_29 ?_
    refine wa_lconst fx (0 : Int64) dX4_isPart_30 (by decide) ?_
    refine wa_ldc2 fx q_9_17 dX4_isPart_31 ?_
    refine wa_S (rmc := (rmh 1)) (As := [.long (Int32.toInt64 a1), .long (0 : Int64), .long (99 : Int64)]) (st := []) (wc := (no_ws ())) (wr := (no_ws ())) (wcz := fun _ => (no_ws ())) (w2 := fun _ => (no_ws ())) (o := fun z1 => some (.int z1)) (s2 := fun z1 => [.int z1]) fx mm_X4_in q_5_5 dX4_isPart_34 h (fun _ hz => c_X4_in hz) (rm_ok (by decide) (by decide)) ⟨Nat.zero_le _, Nat.zero_le _⟩ rfl (List.Perm.of_eq (List.append_nil _).symm) (fun _ => (List.Perm.of_eq (List.append_nil _).symm)) rfl (Nat.le_of_ble_eq_true rfl) (fun _ => rfl) (fun z1 h => ?_)
    obtain ⟨hb, h⟩ := of_ckb h
    exact fn_z (no_ws) fx hf (nb_of hb) (Option.some.inj h) rfl dX4_isPart_37
  · have h := (if_neg c0).symm.trans h
    by_cases c1 : a0 = (2 : Int32)
    · have h := (if_pos c1).symm.trans h
      refine wa_lookup (off := 37) fx dX4_isPart_1 (by decide) 38 (by rw [c1] <;> rfl) (by decide) ?_
      refine wa_iload_n fx 1 dX4_isPart_38 rfl ?_
      refine wa_i2l fx dX4_isPart_39 ?_
      refine wa_ldc2 fx q_9_18 dX4_isPart_40 ?_
      refine wa_ldc2 fx q_5_11 dX4_isPart_43 ?_
      refine wa_S (rmc := (rmh 1)) (As := [.long (Int32.toInt64 a1), .long (-1 : Int64), .long (7 : Int64)]) (st := []) (wc := (no_ws ())) (wr := (no_ws ())) (wcz := fun _ => (no_ws ())) (w2 := fun _ => (no_ws ())) (o := fun z2 => some (.int z2)) (s2 := fun z2 => [.int z2]) fx mm_X4_in q_5_5 dX4_isPart_46 h (fun _ hz => c_X4_in hz) (rm_ok (by decide) (by decide)) ⟨Nat.zero_le _, Nat.zero_le _⟩ rfl (List.Perm.of_eq (List.append_nil _).symm) (fun _ => (List.Perm.of_eq (List.append_nil _).symm)) rfl (Nat.le_of_ble_eq_true rfl) (fun _ => rfl) (fun z2 h => ?_)
      obtain ⟨hb, h⟩ := of_ckb h
      exact fn_z (no_ws) fx hf (nb_of hb) (Option.some.inj h) rfl dX4_isPart_49
    · have h := (if_neg c1).symm.trans h
      refine wa_lookup (off := 49) fx dX4_isPart_1 (by decide) 50 ((lv_osw c0 (by decide)).trans ((lv_osw c1 (by decide)).trans (rfl))) (by decide) ?_
      refine wa_iload_n fx 0 dX4_isPart_50 rfl ?_
      refine wa_iconst fx (4 : Int32) dX4_isPart_51 (by decide) ?_
      refine wa_icmp_ne fx 71 dX4_isPart_52 (by decide) h (fun h => ?_) (fun h => ?_)
      · refine wa_iload_n fx 1 dX4_isPart_55 rfl ?_
        refine wa_i2l fx dX4_isPart_56 ?_
        refine wa_lconst fx (0 : Int64) dX4_isPart_57 (by decide) ?_
        refine wa_ldc2 fx q_9_19 dX4_isPart_58 ?_
        refine wa_S (rmc := (rmh 1)) (As := [.long (Int32.toInt64 a1), .long (0 : Int64), .long (9999 : Int64)]) (st := []) (wc := (no_ws ())) (wr := (no_ws ())) (wcz := fun _ => (no_ws ())) (w2 := fun _ => (no_ws ())) (o := fun z3 => some (.int z3)) (s2 := fun z3 => [.int z3]) fx mm_X4_in q_5_5 dX4_isPart_61 h (fun _ hz => c_X4_in hz) (rm_ok (by decide) (by decide)) ⟨Nat.zero_le _, Nat.zero_le _⟩ rfl (List.Perm.of_eq (List.append_nil _).symm) (fun _ => (List.Perm.of_eq (List.append_nil _).symm)) rfl (Nat.le_of_ble_eq_true rfl) (fun _ => rfl) (fun z3 h => ?_)
        refine wa_if_eq fx 71 dX4_isPart_64 (by decide) h (fun h => ?_) (fun h => ?_)
        · refine wa_iconst fx (0 : Int32) dX4_isPart_71 (by decide) ?_
          exact fn_z (no_ws) fx hf (by decide) (Option.some.inj h) rfl dX4_isPart_72
        · refine wa_iconst fx (1 : Int32) dX4_isPart_67 (by decide) ?_
          refine wa_goto fx 72 dX4_isPart_68 (by decide) ?_
          exact fn_z (no_ws) fx hf (by decide) (Option.some.inj h) rfl dX4_isPart_72
      · refine wa_iconst fx (0 : Int32) dX4_isPart_71 (by decide) ?_
        exact fn_z (no_ws) fx hf (by decide) (Option.some.inj h) rfl dX4_isPart_72
def f_X4_set  (st : StT) (a1 : Int32) (a2 : Int32) (a3 : Int32) : Option (Int32 × (StT)) := Option.bind (f_X4_isPerson st a1) fun z1 => if z1 = 0 then (Option.bind (f_X4_finds st (-1000000001 : Int32)) fun z2 => some (z2.1, z2.2)) else (Option.bind (f_X4_isPart a2 a3) fun z3 => if z3 = 0 then (Option.bind (f_X4_finds st (-1000000001 : Int32)) fun z4 => some (z4.1, z4.2)) else (Option.bind (f_X4_spotOf a1 a2) fun z5 => Option.bind (f_X4_becomes st z5 a3) fun z6 => some (z6.1, z6.2)))
set_option maxHeartbeats 4000000 in
set_option maxRecDepth 100000 in
theorem c_X4_set {g : GT} {l : Launch} {ad : Nat → Nat}   {st : StT} {a1 : Int32} {a2 : Int32} {a3 : Int32} {r : Int32 × (StT)} (h : f_X4_set st a1 a2 a3 = some r) : Ct g l yX4_set (wd yX4_set cX4_set 4 (some .int)) (rmh 3) [.ref (ad 0), .int a1, .int a2, .int a3] (mo_ws g ad st) (mo_ws g ad r.2) (some (.int r.1)) := by
  refine Ct.of (lv := [(0, .ref (ad 0)), (1, .int a1), (2, .int a2), (3, .int a3)]) (by decide) (Nat.le_of_ble_eq_true rfl) rfl (fun K hl fx hf => ?_)
  subst hl
  rw [f_X4_set] at h
  refine wa_aload_n fx 0 dX4_set_0 rfl ?_
  refine wa_iload_n fx 1 dX4_set_1 rfl ?_
  refine wa_V (b := ad 0) (rmc := (rmh 2)) (As := [.int a1]) (st := []) (wc := (mo_ws g ad st)) (wr := ([] : va_W)) (wcz := fun _ => (mo_ws g ad st)) (w2 := fun _ => (mo_ws g ad st)) (o := fun z1 => some (.int z1)) (s2 := fun z1 => [.int z1]) (ci := 4) (q0 := 0) fx mm_X4_isPerson q_8_18 dX4_set_2 h (fun _ hz => c_X4_isPerson hz) rfl rfl (rm_ok (by decide) (by decide)) ⟨Nat.zero_le _, Nat.zero_le _⟩ rfl (List.Perm.refl _) (fun _ => (List.Perm.refl _)) rfl (Nat.le_of_ble_eq_true rfl) (fun _ => rfl) (fun z1 h => ?_)
  refine wa_if_eq fx 29 dX4_set_5 (by decide) h (fun h => ?_) (fun h => ?_)
  · refine wa_aload_n fx 0 dX4_set_29 rfl ?_
    refine wa_ldc fx q_5_4 dX4_set_30 ?_
    refine wa_V (b := ad 0) (rmc := (rmh 1)) (As := [.int (-1000000001 : Int32)]) (st := []) (wc := (mo_ws g ad st)) (wr := ([] : va_W)) (wcz := fun z2 => mo_ws g ad z2.2) (w2 := fun z2 => mo_ws g ad z2.2) (o := fun z2 => some (.int z2.1)) (s2 := fun z2 => [.int z2.1]) (ci := 4) (q0 := 0) fx mm_X4_finds q_5_16 dX4_set_32 h (fun _ hz => c_X4_finds hz) rfl rfl (rm_ok (by decide) (by decide)) ⟨Nat.zero_le _, Nat.zero_le _⟩ rfl (List.Perm.refl _) (fun _ => List.Perm.refl _) rfl (Nat.le_of_ble_eq_true rfl) (fun _ => rfl) (fun z2 h => ?_)
    exact fn_i (mo_ws g ad) fx hf (sn1 h) (sn2 h) dX4_set_35
  · refine wa_iload_n fx 2 dX4_set_8 rfl ?_
    refine wa_iload_n fx 3 dX4_set_9 rfl ?_
    refine wa_S (rmc := (rmh 2)) (As := [.int a2, .int a3]) (st := []) (wc := (no_ws ())) (wr := (mo_ws g ad st)) (wcz := fun _ => (no_ws ())) (w2 := fun _ => (mo_ws g ad st)) (o := fun z3 => some (.int z3)) (s2 := fun z3 => [.int z3]) fx mm_X4_isPart q_9_14 dX4_set_10 h (fun _ hz => c_X4_isPart hz) (rm_ok (by decide) (by decide)) ⟨Nat.zero_le _, Nat.zero_le _⟩ rfl (List.Perm.of_eq (List.append_nil _).symm) (fun _ => (List.Perm.of_eq (List.append_nil _).symm)) rfl (Nat.le_of_ble_eq_true rfl) (fun _ => rfl) (fun z3 h => ?_)
    refine wa_if_eq fx 29 dX4_set_13 (by decide) h (fun h => ?_) (fun h => ?_)
    · refine wa_aload_n fx 0 dX4_set_29 rfl ?_
      refine wa_ldc fx q_5_4 dX4_set_30 ?_
      refine wa_V (b := ad 0) (rmc := (rmh 1)) (As := [.int (-1000000001 : Int32)]) (st := []) (wc := (mo_ws g ad st)) (wr := ([] : va_W)) (wcz := fun z4 => mo_ws g ad z4.2) (w2 := fun z4 => mo_ws g ad z4.2) (o := fun z4 => some (.int z4.1)) (s2 := fun z4 => [.int z4.1]) (ci := 4) (q0 := 0) fx mm_X4_finds q_5_16 dX4_set_32 h (fun _ hz => c_X4_finds hz) rfl rfl (rm_ok (by decide) (by decide)) ⟨Nat.zero_le _, Nat.zero_le _⟩ rfl (List.Perm.refl _) (fun _ => List.Perm.refl _) rfl (Nat.le_of_ble_eq_true rfl) (fun _ => rfl) (fun z4 h => ?_)
      exact fn_i (mo_ws g ad) fx hf (sn1 h) (sn2 h) dX4_set_35
    · refine wa_aload_n fx 0 dX4_set_16 rfl ?_
      refine wa_iload_n fx 1 dX4_set_17 rfl ?_
      refine wa_iload_n fx 2 dX4_set_18 rfl ?_
      refine wa_S (rmc := (rmh 1)) (As := [.int a1, .int a2]) (st := [.ref (ad 0)]) (wc := (no_ws ())) (wr := (mo_ws g ad st)) (wcz := fun _ => (no_ws ())) (w2 := fun _ => (mo_ws g ad st)) (o := fun z5 => some (.int z5)) (s2 := fun z5 => [.int z5, .ref (ad 0)]) fx mm_X4_spotOf q_6_14 dX4_set_19 h (fun _ hz => c_X4_spotOf hz) (rm_ok (by decide) (by decide)) ⟨Nat.zero_le _, Nat.zero_le _⟩ rfl (List.Perm.of_eq (List.append_nil _).symm) (fun _ => (List.Perm.of_eq (List.append_nil _).symm)) rfl (Nat.le_of_ble_eq_true rfl) (fun _ => rfl) (fun z5 h => ?_)
      refine wa_iload_n fx 3 dX4_set_22 rfl ?_
      refine wa_V (b := ad 0) (rmc := (rmh 1)) (As := [.int z5, .int a3]) (st := []) (wc := (mo_ws g ad st)) (wr := ([] : va_W)) (wcz := fun z6 => mo_ws g ad z6.2) (w2 := fun z6 => mo_ws g ad z6.2) (o := fun z6 => some (.int z6.1)) (s2 := fun z6 => [.int z6.1]) (ci := 4) (q0 := 0) fx mm_X4_becomes q_5_12 dX4_set_23 h (fun _ hz => c_X4_becomes hz) rfl rfl (rm_ok (by decide) (by decide)) ⟨Nat.zero_le _, Nat.zero_le _⟩ rfl (List.Perm.refl _) (fun _ => List.Perm.refl _) rfl (Nat.le_of_ble_eq_true rfl) (fun _ => rfl) (fun z6 h => ?_)
      refine wa_goto fx 35 dX4_set_26 (by decide) ?_
      exact fn_i (mo_ws g ad) fx hf (sn1 h) (sn2 h) dX4_set_35
def f_X4_turn  (st : StT) (a1 : Int32) (a2 : Int32) : Option (Int32 × (StT)) := Option.bind (f_X4_isPerson st a1) fun z1 => if z1 = 0 then (Option.bind (f_X4_finds st (-1000000001 : Int32)) fun z2 => some (z2.1, z2.2)) else (Option.bind (f_X4_isKind a2) fun z3 => if z3 = 0 then (Option.bind (f_X4_finds st (-1000000001 : Int32)) fun z4 => some (z4.1, z4.2)) else (Option.bind (f_X4_spotOf a1 (0 : Int32)) fun z5 => Option.bind (f_X4_becomes st z5 a2) fun z6 => some (z6.1, z6.2)))
set_option maxHeartbeats 4000000 in
set_option maxRecDepth 100000 in
theorem c_X4_turn {g : GT} {l : Launch} {ad : Nat → Nat}   {st : StT} {a1 : Int32} {a2 : Int32} {r : Int32 × (StT)} (h : f_X4_turn st a1 a2 = some r) : Ct g l yX4_turn (wd yX4_turn cX4_turn 3 (some .int)) (rmh 3) [.ref (ad 0), .int a1, .int a2] (mo_ws g ad st) (mo_ws g ad r.2) (some (.int r.1)) := by
  refine Ct.of (lv := [(0, .ref (ad 0)), (1, .int a1), (2, .int a2)]) (by decide) (Nat.le_of_ble_eq_true rfl) rfl (fun K hl fx hf => ?_)
  subst hl
  rw [f_X4_turn] at h
  refine wa_aload_n fx 0 dX4_turn_0 rfl ?_
  refine wa_iload_n fx 1 dX4_turn_1 rfl ?_
  refine wa_V (b := ad 0) (rmc := (rmh 2)) (As := [.int a1]) (st := []) (wc := (mo_ws g ad st)) (wr := ([] : va_W)) (wcz := fun _ => (mo_ws g ad st)) (w2 := fun _ => (mo_ws g ad st)) (o := fun z1 => some (.int z1)) (s2 := fun z1 => [.int z1]) (ci := 4) (q0 := 0) fx mm_X4_isPerson q_8_18 dX4_turn_2 h (fun _ hz => c_X4_isPerson hz) rfl rfl (rm_ok (by decide) (by decide)) ⟨Nat.zero_le _, Nat.zero_le _⟩ rfl (List.Perm.refl _) (fun _ => (List.Perm.refl _)) rfl (Nat.le_of_ble_eq_true rfl) (fun _ => rfl) (fun z1 h => ?_)
  refine wa_if_eq fx 28 dX4_turn_5 (by decide) h (fun h => ?_) (fun h => ?_)
  · refine wa_aload_n fx 0 dX4_turn_28 rfl ?_
    refine wa_ldc fx q_5_4 dX4_turn_29 ?_
    refine wa_V (b := ad 0) (rmc := (rmh 1)) (As := [.int (-1000000001 : Int32)]) (st := []) (wc := (mo_ws g ad st)) (wr := ([] : va_W)) (wcz := fun z2 => mo_ws g ad z2.2) (w2 := fun z2 => mo_ws g ad z2.2) (o := fun z2 => some (.int z2.1)) (s2 := fun z2 => [.int z2.1]) (ci := 4) (q0 := 0) fx mm_X4_finds q_5_16 dX4_turn_31 h (fun _ hz => c_X4_finds hz) rfl rfl (rm_ok (by decide) (by decide)) ⟨Nat.zero_le _, Nat.zero_le _⟩ rfl (List.Perm.refl _) (fun _ => List.Perm.refl _) rfl (Nat.le_of_ble_eq_true rfl) (fun _ => rfl) (fun z2 h => ?_)
    exact fn_i (mo_ws g ad) fx hf (sn1 h) (sn2 h) dX4_turn_34
  · refine wa_iload_n fx 2 dX4_turn_8 rfl ?_
    refine wa_S (rmc := (rmh 2)) (As := [.int a2]) (st := []) (wc := (no_ws ())) (wr := (mo_ws g ad st)) (wcz := fun _ => (no_ws ())) (w2 := fun _ => (mo_ws g ad st)) (o := fun z3 => some (.int z3)) (s2 := fun z3 => [.int z3]) fx mm_X4_isKind q_7_11 dX4_turn_9 h (fun _ hz => c_X4_isKind hz) (rm_ok (by decide) (by decide)) ⟨Nat.zero_le _, Nat.zero_le _⟩ rfl (List.Perm.of_eq (List.append_nil _).symm) (fun _ => (List.Perm.of_eq (List.append_nil _).symm)) rfl (Nat.le_of_ble_eq_true rfl) (fun _ => rfl) (fun z3 h => ?_)
    refine wa_if_eq fx 28 dX4_turn_12 (by decide) h (fun h => ?_) (fun h => ?_)
    · refine wa_aload_n fx 0 dX4_turn_28 rfl ?_
      refine wa_ldc fx q_5_4 dX4_turn_29 ?_
      refine wa_V (b := ad 0) (rmc := (rmh 1)) (As := [.int (-1000000001 : Int32)]) (st := []) (wc := (mo_ws g ad st)) (wr := ([] : va_W)) (wcz := fun z4 => mo_ws g ad z4.2) (w2 := fun z4 => mo_ws g ad z4.2) (o := fun z4 => some (.int z4.1)) (s2 := fun z4 => [.int z4.1]) (ci := 4) (q0 := 0) fx mm_X4_finds q_5_16 dX4_turn_31 h (fun _ hz => c_X4_finds hz) rfl rfl (rm_ok (by decide) (by decide)) ⟨Nat.zero_le _, Nat.zero_le _⟩ rfl (List.Perm.refl _) (fun _ => List.Perm.refl _) rfl (Nat.le_of_ble_eq_true rfl) (fun _ => rfl) (fun z4 h => ?_)
      exact fn_i (mo_ws g ad) fx hf (sn1 h) (sn2 h) dX4_turn_34
    · refine wa_aload_n fx 0 dX4_turn_15 rfl ?_
      refine wa_iload_n fx 1 dX4_turn_16 rfl ?_
      refine wa_iconst fx (0 : Int32) dX4_turn_17 (by decide) ?_
      refine wa_S (rmc := (rmh 1)) (As := [.int a1, .int (0 : Int32)]) (st := [.ref (ad 0)]) (wc := (no_ws ())) (wr := (mo_ws g ad st)) (wcz := fun _ => (no_ws ())) (w2 := fun _ => (mo_ws g ad st)) (o := fun z5 => some (.int z5)) (s2 := fun z5 => [.int z5, .ref (ad 0)]) fx mm_X4_spotOf q_6_14 dX4_turn_18 h (fun _ hz => c_X4_spotOf hz) (rm_ok (by decide) (by decide)) ⟨Nat.zero_le _, Nat.zero_le _⟩ rfl (List.Perm.of_eq (List.append_nil _).symm) (fun _ => (List.Perm.of_eq (List.append_nil _).symm)) rfl (Nat.le_of_ble_eq_true rfl) (fun _ => rfl) (fun z5 h => ?_)
      refine wa_iload_n fx 2 dX4_turn_21 rfl ?_
      refine wa_V (b := ad 0) (rmc := (rmh 1)) (As := [.int z5, .int a2]) (st := []) (wc := (mo_ws g ad st)) (wr := ([] : va_W)) (wcz := fun z6 => mo_ws g ad z6.2) (w2 := fun z6 => mo_ws g ad z6.2) (o := fun z6 => some (.int z6.1)) (s2 := fun z6 => [.int z6.1]) (ci := 4) (q0 := 0) fx mm_X4_becomes q_5_12 dX4_turn_22 h (fun _ hz => c_X4_becomes hz) rfl rfl (rm_ok (by decide) (by decide)) ⟨Nat.zero_le _, Nat.zero_le _⟩ rfl (List.Perm.refl _) (fun _ => List.Perm.refl _) rfl (Nat.le_of_ble_eq_true rfl) (fun _ => rfl) (fun z6 h => ?_)
      refine wa_goto fx 34 dX4_turn_25 (by decide) ?_
      exact fn_i (mo_ws g ad) fx hf (sn1 h) (sn2 h) dX4_turn_34
def f_X4_isUnder_b19 (x1 : Int32) (x2 : Int32) : Option (Int32) := if x1 = (5 : Int32) then (if x2 = (3 : Int32) then (some (1 : Int32)) else (some (0 : Int32))) else (some (0 : Int32))
def f_X4_isUnder  (a0 : Int32) (a1 : Int32) : Option (Int32) := if a1 = 0 then (some (1 : Int32)) else (if a0 = a1 then (some (1 : Int32)) else (if a0 = (4 : Int32) then (if a1 = (1 : Int32) then (some (1 : Int32)) else (f_X4_isUnder_b19 a0 a1)) else (f_X4_isUnder_b19 a0 a1)))
set_option maxHeartbeats 4000000 in
set_option maxRecDepth 100000 in
theorem c_X4_isUnder {g : GT} {l : Launch}   {a0 : Int32} {a1 : Int32} {r : Int32} (h : f_X4_isUnder a0 a1 = some r) : Ct g l yX4_isUnder (wd yX4_isUnder cX4_isUnder 2 (some .boolean)) (rmh 1) [.int a0, .int a1] (no_ws ()) (no_ws ()) (some (.int r)) := by
  refine Ct.of (lv := [(0, .int a0), (1, .int a1)]) (by decide) (Nat.le_of_ble_eq_true rfl) rfl (fun K hl fx hf => ?_)
  subst hl
  rw [f_X4_isUnder] at h
  have B19 : ∀  (x1 : Int32) (x2 : Int32), f_X4_isUnder_b19 x1 x2 = some r → WA g K 2 0 0 19 [(0, .int x1), (1, .int x2)] [] (no_ws ()) := by
    intro   x1 x2 h
    rw [f_X4_isUnder_b19] at h
    refine wa_iload_n fx 0 dX4_isUnder_19 rfl ?_
    refine wa_iconst fx (5 : Int32) dX4_isUnder_20 (by decide) ?_
    refine wa_icmp_ne fx 33 dX4_isUnder_21 (by decide) h (fun h => ?_) (fun h => ?_)
    · refine wa_iload_n fx 1 dX4_isUnder_24 rfl ?_
      refine wa_iconst fx (3 : Int32) dX4_isUnder_25 (by decide) ?_
      refine wa_icmp_ne fx 33 dX4_isUnder_26 (by decide) h (fun h => ?_) (fun h => ?_)
      · refine wa_iconst fx (1 : Int32) dX4_isUnder_29 (by decide) ?_
        refine wa_goto fx 34 dX4_isUnder_30 (by decide) ?_
        exact fn_z (no_ws) fx hf (by decide) (Option.some.inj h) rfl dX4_isUnder_34
      · refine wa_iconst fx (0 : Int32) dX4_isUnder_33 (by decide) ?_
        exact fn_z (no_ws) fx hf (by decide) (Option.some.inj h) rfl dX4_isUnder_34
    · refine wa_iconst fx (0 : Int32) dX4_isUnder_33 (by decide) ?_
      exact fn_z (no_ws) fx hf (by decide) (Option.some.inj h) rfl dX4_isUnder_34
  refine wa_iload_n fx 1 dX4_isUnder_0 rfl ?_
  refine wa_if_eq fx 29 dX4_isUnder_1 (by decide) h (fun h => ?_) (fun h => ?_)
  · refine wa_iconst fx (1 : Int32) dX4_isUnder_29 (by decide) ?_
    refine wa_goto fx 34 dX4_isUnder_30 (by decide) ?_
    exact fn_z (no_ws) fx hf (by decide) (Option.some.inj h) rfl dX4_isUnder_34
  · refine wa_iload_n fx 0 dX4_isUnder_4 rfl ?_
    refine wa_iload_n fx 1 dX4_isUnder_5 rfl ?_
    refine wa_icmp_eq fx 29 dX4_isUnder_6 (by decide) h (fun h => ?_) (fun h => ?_)
    · refine wa_iconst fx (1 : Int32) dX4_isUnder_29 (by decide) ?_
      refine wa_goto fx 34 dX4_isUnder_30 (by decide) ?_
      exact fn_z (no_ws) fx hf (by decide) (Option.some.inj h) rfl dX4_isUnder_34
    · refine wa_iload_n fx 0 dX4_isUnder_9 rfl ?_
      refine wa_iconst fx (4 : Int32) dX4_isUnder_10 (by decide) ?_
      refine wa_icmp_ne fx 19 dX4_isUnder_11 (by decide) h (fun h => ?_) (fun h => ?_)
      · refine wa_iload_n fx 1 dX4_isUnder_14 rfl ?_
        refine wa_iconst fx (1 : Int32) dX4_isUnder_15 (by decide) ?_
        refine wa_icmp_eq fx 29 dX4_isUnder_16 (by decide) h (fun h => ?_) (fun h => ?_)
        · refine wa_iconst fx (1 : Int32) dX4_isUnder_29 (by decide) ?_
          refine wa_goto fx 34 dX4_isUnder_30 (by decide) ?_
          exact fn_z (no_ws) fx hf (by decide) (Option.some.inj h) rfl dX4_isUnder_34
        · refine wa_sub [0, 1] rfl ?_
          exact B19 a0 a1 h
      · refine wa_sub [0, 1] rfl ?_
        exact B19 a0 a1 h
def f_X4_as  (st : StT) (a1 : Int32) (a2 : Int32) : Option (Int32 × (StT)) := Option.bind (f_X4_isPerson st a1) fun z1 => if z1 = 0 then (Option.bind (f_X4_finds st (-1000000001 : Int32)) fun z2 => some (z2.1, z2.2)) else (Option.bind (f_X4_isKind a2) fun z3 => if z3 = 0 then (Option.bind (f_X4_finds st (-1000000001 : Int32)) fun z8 => some (z8.1, z8.2)) else (Option.bind (f_X4_its st a1 (0 : Int32)) fun z4 => Option.bind (f_X4_isUnder z4 a2) fun z5 => if z5 = 0 then (Option.bind (f_X4_finds st (-1000000003 : Int32)) fun z6 => some (z6.1, z6.2)) else (Option.bind (f_X4_its st a1 (1 : Int32)) fun z7 => some (z7, st))))
set_option maxHeartbeats 4000000 in
set_option maxRecDepth 100000 in
theorem c_X4_as {g : GT} {l : Launch} {ad : Nat → Nat}   {st : StT} {a1 : Int32} {a2 : Int32} {r : Int32 × (StT)} (h : f_X4_as st a1 a2 = some r) : Ct g l yX4_as (wd yX4_as cX4_as 3 (some .int)) (rmh 3) [.ref (ad 0), .int a1, .int a2] (mo_ws g ad st) (mo_ws g ad r.2) (some (.int r.1)) := by
  refine Ct.of (lv := [(0, .ref (ad 0)), (1, .int a1), (2, .int a2)]) (by decide) (Nat.le_of_ble_eq_true rfl) rfl (fun K hl fx hf => ?_)
  subst hl
  rw [f_X4_as] at h
  refine wa_aload_n fx 0 dX4_as_0 rfl ?_
  refine wa_iload_n fx 1 dX4_as_1 rfl ?_
  refine wa_V (b := ad 0) (rmc := (rmh 2)) (As := [.int a1]) (st := []) (wc := (mo_ws g ad st)) (wr := ([] : va_W)) (wcz := fun _ => (mo_ws g ad st)) (w2 := fun _ => (mo_ws g ad st)) (o := fun z1 => some (.int z1)) (s2 := fun z1 => [.int z1]) (ci := 4) (q0 := 0) fx mm_X4_isPerson q_8_18 dX4_as_2 h (fun _ hz => c_X4_isPerson hz) rfl rfl (rm_ok (by decide) (by decide)) ⟨Nat.zero_le _, Nat.zero_le _⟩ rfl (List.Perm.refl _) (fun _ => (List.Perm.refl _)) rfl (Nat.le_of_ble_eq_true rfl) (fun _ => rfl) (fun z1 h => ?_)
  refine wa_if_eq fx 15 dX4_as_5 (by decide) h (fun h => ?_) (fun h => ?_)
  · refine wa_aload_n fx 0 dX4_as_15 rfl ?_
    refine wa_ldc fx q_5_4 dX4_as_16 ?_
    refine wa_V (b := ad 0) (rmc := (rmh 1)) (As := [.int (-1000000001 : Int32)]) (st := []) (wc := (mo_ws g ad st)) (wr := ([] : va_W)) (wcz := fun z2 => mo_ws g ad z2.2) (w2 := fun z2 => mo_ws g ad z2.2) (o := fun z2 => some (.int z2.1)) (s2 := fun z2 => [.int z2.1]) (ci := 4) (q0 := 0) fx mm_X4_finds q_5_16 dX4_as_18 h (fun _ hz => c_X4_finds hz) rfl rfl (rm_ok (by decide) (by decide)) ⟨Nat.zero_le _, Nat.zero_le _⟩ rfl (List.Perm.refl _) (fun _ => List.Perm.refl _) rfl (Nat.le_of_ble_eq_true rfl) (fun _ => rfl) (fun z2 h => ?_)
    exact fn_i (mo_ws g ad) fx hf (sn1 h) (sn2 h) dX4_as_21
  · refine wa_iload_n fx 2 dX4_as_8 rfl ?_
    refine wa_S (rmc := (rmh 2)) (As := [.int a2]) (st := []) (wc := (no_ws ())) (wr := (mo_ws g ad st)) (wcz := fun _ => (no_ws ())) (w2 := fun _ => (mo_ws g ad st)) (o := fun z3 => some (.int z3)) (s2 := fun z3 => [.int z3]) fx mm_X4_isKind q_7_11 dX4_as_9 h (fun _ hz => c_X4_isKind hz) (rm_ok (by decide) (by decide)) ⟨Nat.zero_le _, Nat.zero_le _⟩ rfl (List.Perm.of_eq (List.append_nil _).symm) (fun _ => (List.Perm.of_eq (List.append_nil _).symm)) rfl (Nat.le_of_ble_eq_true rfl) (fun _ => rfl) (fun z3 h => ?_)
    refine wa_if_ne fx 22 dX4_as_12 (by decide) h (fun h => ?_) (fun h => ?_)
    · refine wa_aload_n fx 0 dX4_as_15 rfl ?_
      refine wa_ldc fx q_5_4 dX4_as_16 ?_
      refine wa_V (b := ad 0) (rmc := (rmh 1)) (As := [.int (-1000000001 : Int32)]) (st := []) (wc := (mo_ws g ad st)) (wr := ([] : va_W)) (wcz := fun z8 => mo_ws g ad z8.2) (w2 := fun z8 => mo_ws g ad z8.2) (o := fun z8 => some (.int z8.1)) (s2 := fun z8 => [.int z8.1]) (ci := 4) (q0 := 0) fx mm_X4_finds q_5_16 dX4_as_18 h (fun _ hz => c_X4_finds hz) rfl rfl (rm_ok (by decide) (by decide)) ⟨Nat.zero_le _, Nat.zero_le _⟩ rfl (List.Perm.refl _) (fun _ => List.Perm.refl _) rfl (Nat.le_of_ble_eq_true rfl) (fun _ => rfl) (fun z8 h => ?_)
      exact fn_i (mo_ws g ad) fx hf (sn1 h) (sn2 h) dX4_as_21
    · refine wa_aload_n fx 0 dX4_as_22 rfl ?_
      refine wa_iload_n fx 1 dX4_as_23 rfl ?_
      refine wa_iconst fx (0 : Int32) dX4_as_24 (by decide) ?_
      refine wa_V (b := ad 0) (rmc := (rmh 2)) (As := [.int a1, .int (0 : Int32)]) (st := []) (wc := (mo_ws g ad st)) (wr := ([] : va_W)) (wcz := fun _ => (mo_ws g ad st)) (w2 := fun _ => (mo_ws g ad st)) (o := fun z4 => some (.int z4)) (s2 := fun z4 => [.int z4]) (ci := 4) (q0 := 0) fx mm_X4_its q_6_10 dX4_as_25 h (fun _ hz => c_X4_its hz) rfl rfl (rm_ok (by decide) (by decide)) ⟨Nat.zero_le _, Nat.zero_le _⟩ rfl (List.Perm.refl _) (fun _ => (List.Perm.refl _)) rfl (Nat.le_of_ble_eq_true rfl) (fun _ => rfl) (fun z4 h => ?_)
      refine wa_iload_n fx 2 dX4_as_28 rfl ?_
      refine wa_S (rmc := (rmh 1)) (As := [.int z4, .int a2]) (st := []) (wc := (no_ws ())) (wr := (mo_ws g ad st)) (wcz := fun _ => (no_ws ())) (w2 := fun _ => (mo_ws g ad st)) (o := fun z5 => some (.int z5)) (s2 := fun z5 => [.int z5]) fx mm_X4_isUnder q_10_17 dX4_as_29 h (fun _ hz => c_X4_isUnder hz) (rm_ok (by decide) (by decide)) ⟨Nat.zero_le _, Nat.zero_le _⟩ rfl (List.Perm.of_eq (List.append_nil _).symm) (fun _ => (List.Perm.of_eq (List.append_nil _).symm)) rfl (Nat.le_of_ble_eq_true rfl) (fun _ => rfl) (fun z5 h => ?_)
      refine wa_if_eq fx 44 dX4_as_32 (by decide) h (fun h => ?_) (fun h => ?_)
      · refine wa_aload_n fx 0 dX4_as_44 rfl ?_
        refine wa_ldc fx q_10_16 dX4_as_45 ?_
        refine wa_V (b := ad 0) (rmc := (rmh 1)) (As := [.int (-1000000003 : Int32)]) (st := []) (wc := (mo_ws g ad st)) (wr := ([] : va_W)) (wcz := fun z6 => mo_ws g ad z6.2) (w2 := fun z6 => mo_ws g ad z6.2) (o := fun z6 => some (.int z6.1)) (s2 := fun z6 => [.int z6.1]) (ci := 4) (q0 := 0) fx mm_X4_finds q_5_16 dX4_as_47 h (fun _ hz => c_X4_finds hz) rfl rfl (rm_ok (by decide) (by decide)) ⟨Nat.zero_le _, Nat.zero_le _⟩ rfl (List.Perm.refl _) (fun _ => List.Perm.refl _) rfl (Nat.le_of_ble_eq_true rfl) (fun _ => rfl) (fun z6 h => ?_)
        exact fn_i (mo_ws g ad) fx hf (sn1 h) (sn2 h) dX4_as_50
      · refine wa_aload_n fx 0 dX4_as_35 rfl ?_
        refine wa_iload_n fx 1 dX4_as_36 rfl ?_
        refine wa_iconst fx (1 : Int32) dX4_as_37 (by decide) ?_
        refine wa_V (b := ad 0) (rmc := (rmh 2)) (As := [.int a1, .int (1 : Int32)]) (st := []) (wc := (mo_ws g ad st)) (wr := ([] : va_W)) (wcz := fun _ => (mo_ws g ad st)) (w2 := fun _ => (mo_ws g ad st)) (o := fun z7 => some (.int z7)) (s2 := fun z7 => [.int z7]) (ci := 4) (q0 := 0) fx mm_X4_its q_6_10 dX4_as_38 h (fun _ hz => c_X4_its hz) rfl rfl (rm_ok (by decide) (by decide)) ⟨Nat.zero_le _, Nat.zero_le _⟩ rfl (List.Perm.refl _) (fun _ => (List.Perm.refl _)) rfl (Nat.le_of_ble_eq_true rfl) (fun _ => rfl) (fun z7 h => ?_)
        refine wa_goto fx 50 dX4_as_41 (by decide) ?_
        exact fn_i (mo_ws g ad) fx hf (sn1 h) (sn2 h) dX4_as_50
def f_X4_isQuarrel (st : StT) (a1 : Int32) (a2 : Int32) : Option (Int32) := Option.bind (f_X4_its st a1 (3 : Int32)) fun z1 => if ((z1 >>> (a2 &&& 31)) &&& (1 : Int32)) = (1 : Int32) then (some (1 : Int32)) else (some (0 : Int32))
set_option maxHeartbeats 4000000 in
set_option maxRecDepth 100000 in
theorem c_X4_isQuarrel {g : GT} {l : Launch} {ad : Nat → Nat}   {st : StT} {a1 : Int32} {a2 : Int32} {r : Int32} (h : f_X4_isQuarrel st a1 a2 = some r) : Ct g l yX4_isQuarrel (wd yX4_isQuarrel cX4_isQuarrel 3 (some .boolean)) (rmh 3) [.ref (ad 0), .int a1, .int a2] (mo_ws g ad st) (mo_ws g ad st) (some (.int r)) := by
  refine Ct.of (lv := [(0, .ref (ad 0)), (1, .int a1), (2, .int a2)]) (by decide) (Nat.le_of_ble_eq_true rfl) rfl (fun K hl fx hf => ?_)
  subst hl
  rw [f_X4_isQuarrel] at h
  refine wa_aload_n fx 0 dX4_isQuarrel_0 rfl ?_
  refine wa_iload_n fx 1 dX4_isQuarrel_1 rfl ?_
  refine wa_iconst fx (3 : Int32) dX4_isQuarrel_2 (by decide) ?_
  refine wa_V (b := ad 0) (rmc := (rmh 2)) (As := [.int a1, .int (3 : Int32)]) (st := []) (wc := (mo_ws g ad st)) (wr := ([] : va_W)) (wcz := fun _ => (mo_ws g ad st)) (w2 := fun _ => (mo_ws g ad st)) (o := fun z1 => some (.int z1)) (s2 := fun z1 => [.int z1]) (ci := 4) (q0 := 0) fx mm_X4_its q_6_10 dX4_isQuarrel_3 h (fun _ hz => c_X4_its hz) rfl rfl (rm_ok (by decide) (by decide)) ⟨Nat.zero_le _, Nat.zero_le _⟩ rfl (List.Perm.refl _) (fun _ => (List.Perm.refl _)) rfl (Nat.le_of_ble_eq_true rfl) (fun _ => rfl) (fun z1 h => ?_)
  refine wa_iload_n fx 2 dX4_isQuarrel_6 rfl ?_
  refine wa_ishr fx dX4_isQuarrel_7 ?_
  refine wa_iconst fx (1 : Int32) dX4_isQuarrel_8 (by decide) ?_
  refine wa_iand fx dX4_isQuarrel_9 ?_
  refine wa_iconst fx (1 : Int32) dX4_isQuarrel_10 (by decide) ?_
  refine wa_icmp_ne fx 18 dX4_isQuarrel_11 (by decide) h (fun h => ?_) (fun h => ?_)
  · refine wa_iconst fx (1 : Int32) dX4_isQuarrel_14 (by decide) ?_
    refine wa_goto fx 19 dX4_isQuarrel_15 (by decide) ?_
    exact fn_z (mo_ws g ad) fx hf (by decide) (Option.some.inj h) rfl dX4_isQuarrel_19
  · refine wa_iconst fx (0 : Int32) dX4_isQuarrel_18 (by decide) ?_
    exact fn_z (mo_ws g ad) fx hf (by decide) (Option.some.inj h) rfl dX4_isQuarrel_19
def f_X4_quarrels_b51 (x3 : Int32) (x4 : Int32) (x5 : Int32) (x6 : Int32) (x7 : Int32) (w8 : StT) : Option ((StT)) := ck x7 66 (nm (setA w8 0 (upd (w8.1 0) (Int32.toNatClampNeg x7) x6)) fun w9 => if x4 = 0 then (ck x5 66 (ck x5 66 (nm (setA w9 0 (upd (w9.1 0) (Int32.toNatClampNeg x5) ((w9.1 0 (Int32.toNatClampNeg x5)) &&& (((1 : Int32) <<< (x3 &&& 31)) ^^^ (-1 : Int32))))) fun w10 => some w10))) else (ck x5 66 (ck x5 66 (nm (setA w9 0 (upd (w9.1 0) (Int32.toNatClampNeg x5) ((w9.1 0 (Int32.toNatClampNeg x5)) ||| ((1 : Int32) <<< (x3 &&& 31))))) fun w11 => some w11))))
def f_X4_quarrels  (st : StT) (a1 : Int32) (a2 : Int32) (a3 : Int32) : Option ((StT)) := Option.bind (f_X4_spotOf a1 (3 : Int32)) fun z1 => Option.bind (f_X4_spotOf a2 (3 : Int32)) fun z2 => if a3 = 0 then (ck z1 66 (f_X4_quarrels_b51 a1 a3 z2 ((st.1 0 (Int32.toNatClampNeg z1)) &&& (((1 : Int32) <<< (a2 &&& 31)) ^^^ (-1 : Int32))) z1 st)) else (ck z1 66 (f_X4_quarrels_b51 a1 a3 z2 ((st.1 0 (Int32.toNatClampNeg z1)) ||| ((1 : Int32) <<< (a2 &&& 31))) z1 st))
set_option maxHeartbeats 4000000 in
set_option maxRecDepth 100000 in
theorem c_X4_quarrels {g : GT} {l : Launch} {ad : Nat → Nat}   {st : StT} {a1 : Int32} {a2 : Int32} {a3 : Int32} {r : (StT)} (h : f_X4_quarrels st a1 a2 a3 = some r) : Ct g l yX4_quarrels (wd yX4_quarrels cX4_quarrels 6 none) (rmh 2) [.ref (ad 0), .int a1, .int a2, .int a3] (mo_ws g ad st) (mo_ws g ad r) none := by
  refine Ct.of (lv := [(0, .ref (ad 0)), (1, .int a1), (2, .int a2), (3, .int a3)]) (by decide) (Nat.le_of_ble_eq_true rfl) rfl (fun K hl fx hf => ?_)
  subst hl
  rw [f_X4_quarrels] at h
  have B51 : ∀  (x3 : Int32) (x4 : Int32) (x5 : Int32) (x6 : Int32) (x7 : Int32) (w8 : StT), f_X4_quarrels_b51 x3 x4 x5 x6 x7 w8 = some r → WA g K 6 0 0 51 [(0, .ref (ad 0)), (1, .int x3), (3, .int x4), (5, .int x5)] [.int x6, .int x7, .ref (ad 1)] (mo_ws g ad w8) := by
    intro   x3 x4 x5 x6 x7 w8 h
    rw [f_X4_quarrels_b51] at h
    refine wa_iast (mo_ws g ad) (f := w8.1 0) fx 1 rfl dX4_quarrels_51 h rfl (fun w9 h => ?_)
    refine wa_aload_n fx 0 dX4_quarrels_52 rfl ?_
    refine wa_get (v := .ref (ad 1)) fx wm_X4 0 rfl rfl 0 (by decide) q_3_15 rfl rfl dX4_quarrels_53 ?_
    refine wa_iload fx 3 dX4_quarrels_56 rfl ?_
    refine wa_iload_n fx 2 dX4_quarrels_58 rfl ?_
    refine wa_if_eq fx 76 dX4_quarrels_59 (by decide) h (fun h => ?_) (fun h => ?_)
    · refine wa_aload_n fx 0 dX4_quarrels_76 rfl ?_
      refine wa_get (v := .ref (ad 1)) fx wm_X4 0 rfl rfl 0 (by decide) q_3_15 rfl rfl dX4_quarrels_77 ?_
      refine wa_iload fx 3 dX4_quarrels_80 rfl ?_
      refine wa_iald (f := w9.1 0) fx 1 rfl dX4_quarrels_82 h (fun h => ?_)
      refine wa_iconst fx (1 : Int32) dX4_quarrels_83 (by decide) ?_
      refine wa_iload_n fx 1 dX4_quarrels_84 rfl ?_
      refine wa_ishl fx dX4_quarrels_85 ?_
      refine wa_iconst fx (-1 : Int32) dX4_quarrels_86 (by decide) ?_
      refine wa_ixor fx dX4_quarrels_87 ?_
      refine wa_iand fx dX4_quarrels_88 ?_
      refine wa_iast (mo_ws g ad) (f := w9.1 0) fx 1 rfl dX4_quarrels_89 h rfl (fun w10 h => ?_)
      exact fn_v (mo_ws g ad) fx hf (Option.some.inj h) dX4_quarrels_90
    · refine wa_aload_n fx 0 dX4_quarrels_62 rfl ?_
      refine wa_get (v := .ref (ad 1)) fx wm_X4 0 rfl rfl 0 (by decide) q_3_15 rfl rfl dX4_quarrels_63 ?_
      refine wa_iload fx 3 dX4_quarrels_66 rfl ?_
      refine wa_iald (f := w9.1 0) fx 1 rfl dX4_quarrels_68 h (fun h => ?_)
      refine wa_iconst fx (1 : Int32) dX4_quarrels_69 (by decide) ?_
      refine wa_iload_n fx 1 dX4_quarrels_70 rfl ?_
      refine wa_ishl fx dX4_quarrels_71 ?_
      refine wa_ior fx dX4_quarrels_72 ?_
      refine wa_goto fx 89 dX4_quarrels_73 (by decide) ?_
      refine wa_iast (mo_ws g ad) (f := w9.1 0) fx 1 rfl dX4_quarrels_89 h rfl (fun w11 h => ?_)
      exact fn_v (mo_ws g ad) fx hf (Option.some.inj h) dX4_quarrels_90
  refine wa_iload_n fx 1 dX4_quarrels_0 rfl ?_
  refine wa_iconst fx (3 : Int32) dX4_quarrels_1 (by decide) ?_
  refine wa_S (rmc := (rmh 1)) (As := [.int a1, .int (3 : Int32)]) (st := []) (wc := (no_ws ())) (wr := (mo_ws g ad st)) (wcz := fun _ => (no_ws ())) (w2 := fun _ => (mo_ws g ad st)) (o := fun z1 => some (.int z1)) (s2 := fun z1 => [.int z1]) fx mm_X4_spotOf q_6_14 dX4_quarrels_2 h (fun _ hz => c_X4_spotOf hz) (rm_ok (by decide) (by decide)) ⟨Nat.zero_le _, Nat.zero_le _⟩ rfl (List.Perm.of_eq (List.append_nil _).symm) (fun _ => (List.Perm.of_eq (List.append_nil _).symm)) rfl (Nat.le_of_ble_eq_true rfl) (fun _ => rfl) (fun z1 h => ?_)
  refine wa_istore fx [(4, .int z1), (0, .ref (ad 0)), (1, .int a1), (2, .int a2), (3, .int a3)] dX4_quarrels_5 (by decide) rfl ?_
  refine wa_iload_n fx 3 dX4_quarrels_7 rfl ?_
  refine wa_iconst fx (3 : Int32) dX4_quarrels_8 (by decide) ?_
  refine wa_S (rmc := (rmh 1)) (As := [.int a2, .int (3 : Int32)]) (st := []) (wc := (no_ws ())) (wr := (mo_ws g ad st)) (wcz := fun _ => (no_ws ())) (w2 := fun _ => (mo_ws g ad st)) (o := fun z2 => some (.int z2)) (s2 := fun z2 => [.int z2]) fx mm_X4_spotOf q_6_14 dX4_quarrels_9 h (fun _ hz => c_X4_spotOf hz) (rm_ok (by decide) (by decide)) ⟨Nat.zero_le _, Nat.zero_le _⟩ rfl (List.Perm.of_eq (List.append_nil _).symm) (fun _ => (List.Perm.of_eq (List.append_nil _).symm)) rfl (Nat.le_of_ble_eq_true rfl) (fun _ => rfl) (fun z2 h => ?_)
  refine wa_istore fx [(5, .int z2), (4, .int z1), (0, .ref (ad 0)), (1, .int a1), (2, .int a2), (3, .int a3)] dX4_quarrels_12 (by decide) rfl ?_
  refine wa_aload_n fx 2 dX4_quarrels_14 rfl ?_
  refine wa_get (v := .ref (ad 1)) fx wm_X4 0 rfl rfl 0 (by decide) q_3_15 rfl rfl dX4_quarrels_15 ?_
  refine wa_iload fx 1 dX4_quarrels_18 rfl ?_
  refine wa_iload_n fx 5 dX4_quarrels_20 rfl ?_
  refine wa_if_eq fx 38 dX4_quarrels_21 (by decide) h (fun h => ?_) (fun h => ?_)
  · refine wa_aload_n fx 2 dX4_quarrels_38 rfl ?_
    refine wa_get (v := .ref (ad 1)) fx wm_X4 0 rfl rfl 0 (by decide) q_3_15 rfl rfl dX4_quarrels_39 ?_
    refine wa_iload fx 1 dX4_quarrels_42 rfl ?_
    refine wa_iald (f := st.1 0) fx 1 rfl dX4_quarrels_44 h (fun h => ?_)
    refine wa_iconst fx (1 : Int32) dX4_quarrels_45 (by decide) ?_
    refine wa_iload_n fx 4 dX4_quarrels_46 rfl ?_
    refine wa_ishl fx dX4_quarrels_47 ?_
    refine wa_iconst fx (-1 : Int32) dX4_quarrels_48 (by decide) ?_
    refine wa_ixor fx dX4_quarrels_49 ?_
    refine wa_iand fx dX4_quarrels_50 ?_
    refine wa_sub [2, 3, 5, 0] rfl ?_
    exact B51 a1 a3 z2 ((st.1 0 (Int32.toNatClampNeg z1)) &&& (((1 : Int32) <<< (a2 &&& 31)) ^^^ (-1 : Int32))) z1 st h
  · refine wa_aload_n fx 2 dX4_quarrels_24 rfl ?_
    refine wa_get (v := .ref (ad 1)) fx wm_X4 0 rfl rfl 0 (by decide) q_3_15 rfl rfl dX4_quarrels_25 ?_
    refine wa_iload fx 1 dX4_quarrels_28 rfl ?_
    refine wa_iald (f := st.1 0) fx 1 rfl dX4_quarrels_30 h (fun h => ?_)
    refine wa_iconst fx (1 : Int32) dX4_quarrels_31 (by decide) ?_
    refine wa_iload_n fx 4 dX4_quarrels_32 rfl ?_
    refine wa_ishl fx dX4_quarrels_33 ?_
    refine wa_ior fx dX4_quarrels_34 ?_
    refine wa_goto fx 51 dX4_quarrels_35 (by decide) ?_
    refine wa_sub [2, 3, 5, 0] rfl ?_
    exact B51 a1 a3 z2 ((st.1 0 (Int32.toNatClampNeg z1)) ||| ((1 : Int32) <<< (a2 &&& 31))) z1 st h
def f_X4_quarrel_b40 (x5 : Int32) (x6 : Int32) (x7 : Int32) (x8 : Int32) (w9 : StT) : Option (Int32 × (StT)) := if x7 = (1 : Int32) then (Option.bind (f_X4_quarrels w9 x5 x6 (1 : Int32)) fun z11 => some (x8, z11)) else (Option.bind (f_X4_quarrels w9 x5 x6 (0 : Int32)) fun z10 => some (x8, z10))
def f_X4_quarrel  (st : StT) (a1 : Int32) (a2 : Int32) (a3 : Int32) : Option (Int32 × (StT)) := Option.bind (f_X4_areTwo st a1 a2) fun z1 => if z1 = 0 then (Option.bind (f_X4_finds st (-1000000001 : Int32)) fun z2 => some (z2.1, z2.2)) else (Option.bind (f_X4_in (Int32.toInt64 a3) (0 : Int64) (1 : Int64)) fun z3 => if z3 = 0 then (Option.bind (f_X4_finds st (-1000000001 : Int32)) fun z12 => some (z12.1, z12.2)) else (Option.bind (f_X4_isQuarrel st a1 a2) fun z4 => if z4 = 0 then (f_X4_quarrel_b40 a1 a2 a3 (0 : Int32) st) else (f_X4_quarrel_b40 a1 a2 a3 (1 : Int32) st)))
set_option maxHeartbeats 4000000 in
set_option maxRecDepth 100000 in
theorem c_X4_quarrel {g : GT} {l : Launch} {ad : Nat → Nat}   {st : StT} {a1 : Int32} {a2 : Int32} {a3 : Int32} {r : Int32 × (StT)} (h : f_X4_quarrel st a1 a2 a3 = some r) : Ct g l yX4_quarrel (wd yX4_quarrel cX4_quarrel 5 (some .int)) (rmh 4) [.ref (ad 0), .int a1, .int a2, .int a3] (mo_ws g ad st) (mo_ws g ad r.2) (some (.int r.1)) := by
  refine Ct.of (lv := [(0, .ref (ad 0)), (1, .int a1), (2, .int a2), (3, .int a3)]) (by decide) (Nat.le_of_ble_eq_true rfl) rfl (fun K hl fx hf => ?_)
  subst hl
  rw [f_X4_quarrel] at h
  have B40 : ∀  (x5 : Int32) (x6 : Int32) (x7 : Int32) (x8 : Int32) (w9 : StT), f_X4_quarrel_b40 x5 x6 x7 x8 w9 = some r → WA g K 5 0 0 40 [(0, .ref (ad 0)), (1, .int x5), (2, .int x6), (3, .int x7)] [.int x8] (mo_ws g ad w9) := by
    intro   x5 x6 x7 x8 w9 h
    rw [f_X4_quarrel_b40] at h
    refine wa_istore fx [(4, .int x8), (0, .ref (ad 0)), (1, .int x5), (2, .int x6), (3, .int x7)] dX4_quarrel_40 (by decide) rfl ?_
    refine wa_aload_n fx 1 dX4_quarrel_42 rfl ?_
    refine wa_iload_n fx 2 dX4_quarrel_43 rfl ?_
    refine wa_iload_n fx 3 dX4_quarrel_44 rfl ?_
    refine wa_iload_n fx 4 dX4_quarrel_45 rfl ?_
    refine wa_iconst fx (1 : Int32) dX4_quarrel_46 (by decide) ?_
    refine wa_icmp_ne fx 54 dX4_quarrel_47 (by decide) h (fun h => ?_) (fun h => ?_)
    · refine wa_iconst fx (1 : Int32) dX4_quarrel_50 (by decide) ?_
      refine wa_goto fx 55 dX4_quarrel_51 (by decide) ?_
      refine wa_V (b := ad 0) (rmc := (rmh 2)) (As := [.int x5, .int x6, .int (1 : Int32)]) (st := []) (wc := (mo_ws g ad w9)) (wr := ([] : va_W)) (wcz := fun z11 => mo_ws g ad z11) (w2 := fun z11 => mo_ws g ad z11) (o := fun _ => none) (s2 := fun z11 => []) (ci := 4) (q0 := 0) fx mm_X4_quarrels q_12_0 dX4_quarrel_55 h (fun _ hz => c_X4_quarrels hz) rfl rfl (rm_ok (by decide) (by decide)) ⟨Nat.zero_le _, Nat.zero_le _⟩ rfl (List.Perm.refl _) (fun _ => List.Perm.refl _) rfl (Nat.le_of_ble_eq_true rfl) (fun _ => rfl) (fun z11 h => ?_)
      refine wa_iload fx 0 dX4_quarrel_58 rfl ?_
      exact fn_i (mo_ws g ad) fx hf (sn1 h) (sn2 h) dX4_quarrel_60
    · refine wa_iconst fx (0 : Int32) dX4_quarrel_54 (by decide) ?_
      refine wa_V (b := ad 0) (rmc := (rmh 2)) (As := [.int x5, .int x6, .int (0 : Int32)]) (st := []) (wc := (mo_ws g ad w9)) (wr := ([] : va_W)) (wcz := fun z10 => mo_ws g ad z10) (w2 := fun z10 => mo_ws g ad z10) (o := fun _ => none) (s2 := fun z10 => []) (ci := 4) (q0 := 0) fx mm_X4_quarrels q_12_0 dX4_quarrel_55 h (fun _ hz => c_X4_quarrels hz) rfl rfl (rm_ok (by decide) (by decide)) ⟨Nat.zero_le _, Nat.zero_le _⟩ rfl (List.Perm.refl _) (fun _ => List.Perm.refl _) rfl (Nat.le_of_ble_eq_true rfl) (fun _ => rfl) (fun z10 h => ?_)
      refine wa_iload fx 0 dX4_quarrel_58 rfl ?_
      exact fn_i (mo_ws g ad) fx hf (sn1 h) (sn2 h) dX4_quarrel_60
  refine wa_aload_n fx 0 dX4_quarrel_0 rfl ?_
  refine wa_iload_n fx 1 dX4_quarrel_1 rfl ?_
  refine wa_iload_n fx 2 dX4_quarrel_2 rfl ?_
  refine wa_V (b := ad 0) (rmc := (rmh 3)) (As := [.int a1, .int a2]) (st := []) (wc := (mo_ws g ad st)) (wr := ([] : va_W)) (wcz := fun _ => (mo_ws g ad st)) (w2 := fun _ => (mo_ws g ad st)) (o := fun z1 => some (.int z1)) (s2 := fun z1 => [.int z1]) (ci := 4) (q0 := 0) fx mm_X4_areTwo q_11_16 dX4_quarrel_3 h (fun _ hz => c_X4_areTwo hz) rfl rfl (rm_ok (by decide) (by decide)) ⟨Nat.zero_le _, Nat.zero_le _⟩ rfl (List.Perm.refl _) (fun _ => (List.Perm.refl _)) rfl (Nat.le_of_ble_eq_true rfl) (fun _ => rfl) (fun z1 h => ?_)
  refine wa_if_eq fx 19 dX4_quarrel_6 (by decide) h (fun h => ?_) (fun h => ?_)
  · refine wa_aload_n fx 0 dX4_quarrel_19 rfl ?_
    refine wa_ldc fx q_5_4 dX4_quarrel_20 ?_
    refine wa_V (b := ad 0) (rmc := (rmh 1)) (As := [.int (-1000000001 : Int32)]) (st := []) (wc := (mo_ws g ad st)) (wr := ([] : va_W)) (wcz := fun z2 => mo_ws g ad z2.2) (w2 := fun z2 => mo_ws g ad z2.2) (o := fun z2 => some (.int z2.1)) (s2 := fun z2 => [.int z2.1]) (ci := 4) (q0 := 0) fx mm_X4_finds q_5_16 dX4_quarrel_22 h (fun _ hz => c_X4_finds hz) rfl rfl (rm_ok (by decide) (by decide)) ⟨Nat.zero_le _, Nat.zero_le _⟩ rfl (List.Perm.refl _) (fun _ => List.Perm.refl _) rfl (Nat.le_of_ble_eq_true rfl) (fun _ => rfl) (fun z2 h => ?_)
    exact fn_i (mo_ws g ad) fx hf (sn1 h) (sn2 h) dX4_quarrel_25
  · refine wa_iload_n fx 3 dX4_quarrel_9 rfl ?_
    refine wa_i2l fx dX4_quarrel_10 ?_
    refine wa_lconst fx (0 : Int64) dX4_quarrel_11 (by decide) ?_
    refine wa_lconst fx (1 : Int64) dX4_quarrel_12 (by decide) ?_
    refine wa_S (rmc := (rmh 1)) (As := [.long (Int32.toInt64 a3), .long (0 : Int64), .long (1 : Int64)]) (st := []) (wc := (no_ws ())) (wr := (mo_ws g ad st)) (wcz := fun _ => (no_ws ())) (w2 := fun _ => (mo_ws g ad st)) (o := fun z3 => some (.int z3)) (s2 := fun z3 => [.int z3]) fx mm_X4_in q_5_5 dX4_quarrel_13 h (fun _ hz => c_X4_in hz) (rm_ok (by decide) (by decide)) ⟨Nat.zero_le _, Nat.zero_le _⟩ rfl (List.Perm.of_eq (List.append_nil _).symm) (fun _ => (List.Perm.of_eq (List.append_nil _).symm)) rfl (Nat.le_of_ble_eq_true rfl) (fun _ => rfl) (fun z3 h => ?_)
    refine wa_if_ne fx 26 dX4_quarrel_16 (by decide) h (fun h => ?_) (fun h => ?_)
    · refine wa_aload_n fx 0 dX4_quarrel_19 rfl ?_
      refine wa_ldc fx q_5_4 dX4_quarrel_20 ?_
      refine wa_V (b := ad 0) (rmc := (rmh 1)) (As := [.int (-1000000001 : Int32)]) (st := []) (wc := (mo_ws g ad st)) (wr := ([] : va_W)) (wcz := fun z12 => mo_ws g ad z12.2) (w2 := fun z12 => mo_ws g ad z12.2) (o := fun z12 => some (.int z12.1)) (s2 := fun z12 => [.int z12.1]) (ci := 4) (q0 := 0) fx mm_X4_finds q_5_16 dX4_quarrel_22 h (fun _ hz => c_X4_finds hz) rfl rfl (rm_ok (by decide) (by decide)) ⟨Nat.zero_le _, Nat.zero_le _⟩ rfl (List.Perm.refl _) (fun _ => List.Perm.refl _) rfl (Nat.le_of_ble_eq_true rfl) (fun _ => rfl) (fun z12 h => ?_)
      exact fn_i (mo_ws g ad) fx hf (sn1 h) (sn2 h) dX4_quarrel_25
    · refine wa_aload_n fx 0 dX4_quarrel_26 rfl ?_
      refine wa_iload_n fx 1 dX4_quarrel_27 rfl ?_
      refine wa_iload_n fx 2 dX4_quarrel_28 rfl ?_
      refine wa_V (b := ad 0) (rmc := (rmh 3)) (As := [.int a1, .int a2]) (st := []) (wc := (mo_ws g ad st)) (wr := ([] : va_W)) (wcz := fun _ => (mo_ws g ad st)) (w2 := fun _ => (mo_ws g ad st)) (o := fun z4 => some (.int z4)) (s2 := fun z4 => [.int z4]) (ci := 4) (q0 := 0) fx mm_X4_isQuarrel q_11_20 dX4_quarrel_29 h (fun _ hz => c_X4_isQuarrel hz) rfl rfl (rm_ok (by decide) (by decide)) ⟨Nat.zero_le _, Nat.zero_le _⟩ rfl (List.Perm.refl _) (fun _ => (List.Perm.refl _)) rfl (Nat.le_of_ble_eq_true rfl) (fun _ => rfl) (fun z4 h => ?_)
      refine wa_if_eq fx 39 dX4_quarrel_32 (by decide) h (fun h => ?_) (fun h => ?_)
      · refine wa_iconst fx (0 : Int32) dX4_quarrel_39 (by decide) ?_
        refine wa_sub [0, 1, 2, 3] rfl ?_
        exact B40 a1 a2 a3 (0 : Int32) st h
      · refine wa_iconst fx (1 : Int32) dX4_quarrel_35 (by decide) ?_
        refine wa_goto fx 40 dX4_quarrel_36 (by decide) ?_
        refine wa_sub [0, 1, 2, 3] rfl ?_
        exact B40 a1 a2 a3 (1 : Int32) st h
def f_X4_sit_b63 (x9 : Int32) (x10 : Int32) (w11 : StT) : Option (Int32 × (StT)) := Option.bind (f_X4_spotOf x9 (5 : Int32)) fun z12 => Option.bind (f_X4_becomes w11 z12 x10) fun z13 => some (z13.1, z13.2)
def f_X4_sit_b43 (x5 : Int32) (x6 : Int32) (x7 : Int32) (w8 : StT) : Option (Int32 × (StT)) := if x7 = (-1 : Int32) then (f_X4_sit_b63 x5 x6 w8) else (if x7 = x5 then (f_X4_sit_b63 x5 x6 w8) else (Option.bind (f_X4_finds w8 (-1000000005 : Int32)) fun z14 => some (z14.1, z14.2)))
def f_X4_sit  (st : StT) (a1 : Int32) (a2 : Int32) : Option (Int32 × (StT)) := Option.bind (f_X4_isPerson st a1) fun z1 => if z1 = 0 then (Option.bind (f_X4_finds st (-1000000001 : Int32)) fun z2 => some (z2.1, z2.2)) else (Option.bind (f_X4_in (Int32.toInt64 a2) (-1 : Int64) (7 : Int64)) fun z3 => if z3 = 0 then (Option.bind (f_X4_finds st (-1000000001 : Int32)) fun z15 => some (z15.1, z15.2)) else (if a2 = (-1 : Int32) then (f_X4_sit_b43 a1 a2 (-1 : Int32) st) else (Option.bind (f_X4_whoIn st a2) fun z4 => f_X4_sit_b43 a1 a2 z4 st)))
set_option maxHeartbeats 4000000 in
set_option maxRecDepth 100000 in
theorem c_X4_sit {g : GT} {l : Launch} {ad : Nat → Nat}   {st : StT} {a1 : Int32} {a2 : Int32} {r : Int32 × (StT)} (h : f_X4_sit st a1 a2 = some r) : Ct g l yX4_sit (wd yX4_sit cX4_sit 4 (some .int)) (rmh 4) [.ref (ad 0), .int a1, .int a2] (mo_ws g ad st) (mo_ws g ad r.2) (some (.int r.1)) := by
  refine Ct.of (lv := [(0, .ref (ad 0)), (1, .int a1), (2, .int a2)]) (by decide) (Nat.le_of_ble_eq_true rfl) rfl (fun K hl fx hf => ?_)
  subst hl
  rw [f_X4_sit] at h
  have B63 : ∀  (x9 : Int32) (x10 : Int32) (w11 : StT), f_X4_sit_b63 x9 x10 w11 = some r → WA g K 4 0 0 63 [(0, .ref (ad 0)), (1, .int x9), (2, .int x10)] [] (mo_ws g ad w11) := by
    intro   x9 x10 w11 h
    rw [f_X4_sit_b63] at h
    refine wa_aload_n fx 0 dX4_sit_63 rfl ?_
    refine wa_iload_n fx 1 dX4_sit_64 rfl ?_
    refine wa_iconst fx (5 : Int32) dX4_sit_65 (by decide) ?_
    refine wa_S (rmc := (rmh 1)) (As := [.int x9, .int (5 : Int32)]) (st := [.ref (ad 0)]) (wc := (no_ws ())) (wr := (mo_ws g ad w11)) (wcz := fun _ => (no_ws ())) (w2 := fun _ => (mo_ws g ad w11)) (o := fun z12 => some (.int z12)) (s2 := fun z12 => [.int z12, .ref (ad 0)]) fx mm_X4_spotOf q_6_14 dX4_sit_66 h (fun _ hz => c_X4_spotOf hz) (rm_ok (by decide) (by decide)) ⟨Nat.zero_le _, Nat.zero_le _⟩ rfl (List.Perm.of_eq (List.append_nil _).symm) (fun _ => (List.Perm.of_eq (List.append_nil _).symm)) rfl (Nat.le_of_ble_eq_true rfl) (fun _ => rfl) (fun z12 h => ?_)
    refine wa_iload_n fx 2 dX4_sit_69 rfl ?_
    refine wa_V (b := ad 0) (rmc := (rmh 1)) (As := [.int z12, .int x10]) (st := []) (wc := (mo_ws g ad w11)) (wr := ([] : va_W)) (wcz := fun z13 => mo_ws g ad z13.2) (w2 := fun z13 => mo_ws g ad z13.2) (o := fun z13 => some (.int z13.1)) (s2 := fun z13 => [.int z13.1]) (ci := 4) (q0 := 0) fx mm_X4_becomes q_5_12 dX4_sit_70 h (fun _ hz => c_X4_becomes hz) rfl rfl (rm_ok (by decide) (by decide)) ⟨Nat.zero_le _, Nat.zero_le _⟩ rfl (List.Perm.refl _) (fun _ => List.Perm.refl _) rfl (Nat.le_of_ble_eq_true rfl) (fun _ => rfl) (fun z13 h => ?_)
    exact fn_i (mo_ws g ad) fx hf (sn1 h) (sn2 h) dX4_sit_73
  have B43 : ∀  (x5 : Int32) (x6 : Int32) (x7 : Int32) (w8 : StT), f_X4_sit_b43 x5 x6 x7 w8 = some r → WA g K 4 0 0 43 [(0, .ref (ad 0)), (1, .int x5), (2, .int x6)] [.int x7] (mo_ws g ad w8) := by
    intro   x5 x6 x7 w8 h
    rw [f_X4_sit_b43] at h
    refine wa_istore_n fx [(3, .int x7), (0, .ref (ad 0)), (1, .int x5), (2, .int x6)] dX4_sit_43 rfl (by decide) rfl ?_
    refine wa_iload_n fx 0 dX4_sit_44 rfl ?_
    refine wa_iconst fx (-1 : Int32) dX4_sit_45 (by decide) ?_
    refine wa_icmp_eq fx 63 dX4_sit_46 (by decide) h (fun h => ?_) (fun h => ?_)
    · refine wa_sub [1, 2, 3] rfl ?_
      exact B63 x5 x6 w8 h
    · refine wa_iload_n fx 0 dX4_sit_49 rfl ?_
      refine wa_iload_n fx 2 dX4_sit_50 rfl ?_
      refine wa_icmp_eq fx 63 dX4_sit_51 (by decide) h (fun h => ?_) (fun h => ?_)
      · refine wa_sub [1, 2, 3] rfl ?_
        exact B63 x5 x6 w8 h
      · refine wa_aload_n fx 1 dX4_sit_54 rfl ?_
        refine wa_ldc fx q_12_16 dX4_sit_55 ?_
        refine wa_V (b := ad 0) (rmc := (rmh 1)) (As := [.int (-1000000005 : Int32)]) (st := []) (wc := (mo_ws g ad w8)) (wr := ([] : va_W)) (wcz := fun z14 => mo_ws g ad z14.2) (w2 := fun z14 => mo_ws g ad z14.2) (o := fun z14 => some (.int z14.1)) (s2 := fun z14 => [.int z14.1]) (ci := 4) (q0 := 0) fx mm_X4_finds q_5_16 dX4_sit_57 h (fun _ hz => c_X4_finds hz) rfl rfl (rm_ok (by decide) (by decide)) ⟨Nat.zero_le _, Nat.zero_le _⟩ rfl (List.Perm.refl _) (fun _ => List.Perm.refl _) rfl (Nat.le_of_ble_eq_true rfl) (fun _ => rfl) (fun z14 h => ?_)
        refine wa_goto fx 73 dX4_sit_60 (by decide) ?_
        exact fn_i (mo_ws g ad) fx hf (sn1 h) (sn2 h) dX4_sit_73
  refine wa_aload_n fx 0 dX4_sit_0 rfl ?_
  refine wa_iload_n fx 1 dX4_sit_1 rfl ?_
  refine wa_V (b := ad 0) (rmc := (rmh 2)) (As := [.int a1]) (st := []) (wc := (mo_ws g ad st)) (wr := ([] : va_W)) (wcz := fun _ => (mo_ws g ad st)) (w2 := fun _ => (mo_ws g ad st)) (o := fun z1 => some (.int z1)) (s2 := fun z1 => [.int z1]) (ci := 4) (q0 := 0) fx mm_X4_isPerson q_8_18 dX4_sit_2 h (fun _ hz => c_X4_isPerson hz) rfl rfl (rm_ok (by decide) (by decide)) ⟨Nat.zero_le _, Nat.zero_le _⟩ rfl (List.Perm.refl _) (fun _ => (List.Perm.refl _)) rfl (Nat.le_of_ble_eq_true rfl) (fun _ => rfl) (fun z1 h => ?_)
  refine wa_if_eq fx 22 dX4_sit_5 (by decide) h (fun h => ?_) (fun h => ?_)
  · refine wa_aload_n fx 0 dX4_sit_22 rfl ?_
    refine wa_ldc fx q_5_4 dX4_sit_23 ?_
    refine wa_V (b := ad 0) (rmc := (rmh 1)) (As := [.int (-1000000001 : Int32)]) (st := []) (wc := (mo_ws g ad st)) (wr := ([] : va_W)) (wcz := fun z2 => mo_ws g ad z2.2) (w2 := fun z2 => mo_ws g ad z2.2) (o := fun z2 => some (.int z2.1)) (s2 := fun z2 => [.int z2.1]) (ci := 4) (q0 := 0) fx mm_X4_finds q_5_16 dX4_sit_25 h (fun _ hz => c_X4_finds hz) rfl rfl (rm_ok (by decide) (by decide)) ⟨Nat.zero_le _, Nat.zero_le _⟩ rfl (List.Perm.refl _) (fun _ => List.Perm.refl _) rfl (Nat.le_of_ble_eq_true rfl) (fun _ => rfl) (fun z2 h => ?_)
    exact fn_i (mo_ws g ad) fx hf (sn1 h) (sn2 h) dX4_sit_28
  · refine wa_iload_n fx 2 dX4_sit_8 rfl ?_
    refine wa_i2l fx dX4_sit_9 ?_
    refine wa_ldc2 fx q_9_18 dX4_sit_10 ?_
    refine wa_ldc2 fx q_5_11 dX4_sit_13 ?_
    refine wa_S (rmc := (rmh 1)) (As := [.long (Int32.toInt64 a2), .long (-1 : Int64), .long (7 : Int64)]) (st := []) (wc := (no_ws ())) (wr := (mo_ws g ad st)) (wcz := fun _ => (no_ws ())) (w2 := fun _ => (mo_ws g ad st)) (o := fun z3 => some (.int z3)) (s2 := fun z3 => [.int z3]) fx mm_X4_in q_5_5 dX4_sit_16 h (fun _ hz => c_X4_in hz) (rm_ok (by decide) (by decide)) ⟨Nat.zero_le _, Nat.zero_le _⟩ rfl (List.Perm.of_eq (List.append_nil _).symm) (fun _ => (List.Perm.of_eq (List.append_nil _).symm)) rfl (Nat.le_of_ble_eq_true rfl) (fun _ => rfl) (fun z3 h => ?_)
    refine wa_if_ne fx 29 dX4_sit_19 (by decide) h (fun h => ?_) (fun h => ?_)
    · refine wa_aload_n fx 0 dX4_sit_22 rfl ?_
      refine wa_ldc fx q_5_4 dX4_sit_23 ?_
      refine wa_V (b := ad 0) (rmc := (rmh 1)) (As := [.int (-1000000001 : Int32)]) (st := []) (wc := (mo_ws g ad st)) (wr := ([] : va_W)) (wcz := fun z15 => mo_ws g ad z15.2) (w2 := fun z15 => mo_ws g ad z15.2) (o := fun z15 => some (.int z15.1)) (s2 := fun z15 => [.int z15.1]) (ci := 4) (q0 := 0) fx mm_X4_finds q_5_16 dX4_sit_25 h (fun _ hz => c_X4_finds hz) rfl rfl (rm_ok (by decide) (by decide)) ⟨Nat.zero_le _, Nat.zero_le _⟩ rfl (List.Perm.refl _) (fun _ => List.Perm.refl _) rfl (Nat.le_of_ble_eq_true rfl) (fun _ => rfl) (fun z15 h => ?_)
      exact fn_i (mo_ws g ad) fx hf (sn1 h) (sn2 h) dX4_sit_28
    · refine wa_iload_n fx 2 dX4_sit_29 rfl ?_
      refine wa_iconst fx (-1 : Int32) dX4_sit_30 (by decide) ?_
      refine wa_icmp_ne fx 38 dX4_sit_31 (by decide) h (fun h => ?_) (fun h => ?_)
      · refine wa_iconst fx (-1 : Int32) dX4_sit_34 (by decide) ?_
        refine wa_goto fx 43 dX4_sit_35 (by decide) ?_
        refine wa_sub [0, 1, 2] rfl ?_
        exact B43 a1 a2 (-1 : Int32) st h
      · refine wa_aload_n fx 0 dX4_sit_38 rfl ?_
        refine wa_iload_n fx 2 dX4_sit_39 rfl ?_
        refine wa_V (b := ad 0) (rmc := (rmh 3)) (As := [.int a2]) (st := []) (wc := (mo_ws g ad st)) (wr := ([] : va_W)) (wcz := fun _ => (mo_ws g ad st)) (w2 := fun _ => (mo_ws g ad st)) (o := fun z4 => some (.int z4)) (s2 := fun z4 => [.int z4]) (ci := 4) (q0 := 0) fx mm_X4_whoIn q_6_6 dX4_sit_40 h (fun _ hz => c_X4_whoIn hz) rfl rfl (rm_ok (by decide) (by decide)) ⟨Nat.zero_le _, Nat.zero_le _⟩ rfl (List.Perm.refl _) (fun _ => (List.Perm.refl _)) rfl (Nat.le_of_ble_eq_true rfl) (fun _ => rfl) (fun z4 h => ?_)
        refine wa_sub [0, 1, 2] rfl ?_
        exact B43 a1 a2 z4 st h
def f_X4_changes  (st : StT) (a1 : Int32) (a2 : Int32) : Option ((StT)) := Option.bind (f_X4_spotOf a1 (5 : Int32)) fun z1 => Option.bind (f_X4_its st a2 (5 : Int32)) fun z2 => Option.bind (f_X4_becomes st z1 z2) fun z3 => nm z3.1 fun x4 => Option.bind (f_X4_spotOf a2 (5 : Int32)) fun z5 => ck z5 66 (nm (setA z3.2 0 (upd (z3.2.1 0) (Int32.toNatClampNeg z5) x4)) fun w6 => some w6)
set_option maxHeartbeats 4000000 in
set_option maxRecDepth 100000 in
theorem c_X4_changes {g : GT} {l : Launch} {ad : Nat → Nat}   {st : StT} {a1 : Int32} {a2 : Int32} {r : (StT)} (h : f_X4_changes st a1 a2 = some r) : Ct g l yX4_changes (wd yX4_changes cX4_changes 4 none) (rmh 3) [.ref (ad 0), .int a1, .int a2] (mo_ws g ad st) (mo_ws g ad r) none := by
  refine Ct.of (lv := [(0, .ref (ad 0)), (1, .int a1), (2, .int a2)]) (by decide) (Nat.le_of_ble_eq_true rfl) rfl (fun K hl fx hf => ?_)
  subst hl
  rw [f_X4_changes] at h
  refine wa_aload_n fx 0 dX4_changes_0 rfl ?_
  refine wa_iload_n fx 1 dX4_changes_1 rfl ?_
  refine wa_iconst fx (5 : Int32) dX4_changes_2 (by decide) ?_
  refine wa_S (rmc := (rmh 1)) (As := [.int a1, .int (5 : Int32)]) (st := [.ref (ad 0)]) (wc := (no_ws ())) (wr := (mo_ws g ad st)) (wcz := fun _ => (no_ws ())) (w2 := fun _ => (mo_ws g ad st)) (o := fun z1 => some (.int z1)) (s2 := fun z1 => [.int z1, .ref (ad 0)]) fx mm_X4_spotOf q_6_14 dX4_changes_3 h (fun _ hz => c_X4_spotOf hz) (rm_ok (by decide) (by decide)) ⟨Nat.zero_le _, Nat.zero_le _⟩ rfl (List.Perm.of_eq (List.append_nil _).symm) (fun _ => (List.Perm.of_eq (List.append_nil _).symm)) rfl (Nat.le_of_ble_eq_true rfl) (fun _ => rfl) (fun z1 h => ?_)
  refine wa_aload_n fx 0 dX4_changes_6 rfl ?_
  refine wa_iload_n fx 2 dX4_changes_7 rfl ?_
  refine wa_iconst fx (5 : Int32) dX4_changes_8 (by decide) ?_
  refine wa_V (b := ad 0) (rmc := (rmh 2)) (As := [.int a2, .int (5 : Int32)]) (st := [.int z1, .ref (ad 0)]) (wc := (mo_ws g ad st)) (wr := ([] : va_W)) (wcz := fun _ => (mo_ws g ad st)) (w2 := fun _ => (mo_ws g ad st)) (o := fun z2 => some (.int z2)) (s2 := fun z2 => [.int z2, .int z1, .ref (ad 0)]) (ci := 4) (q0 := 0) fx mm_X4_its q_6_10 dX4_changes_9 h (fun _ hz => c_X4_its hz) rfl rfl (rm_ok (by decide) (by decide)) ⟨Nat.zero_le _, Nat.zero_le _⟩ rfl (List.Perm.refl _) (fun _ => (List.Perm.refl _)) rfl (Nat.le_of_ble_eq_true rfl) (fun _ => rfl) (fun z2 h => ?_)
  refine wa_V (b := ad 0) (rmc := (rmh 1)) (As := [.int z1, .int z2]) (st := []) (wc := (mo_ws g ad st)) (wr := ([] : va_W)) (wcz := fun z3 => mo_ws g ad z3.2) (w2 := fun z3 => mo_ws g ad z3.2) (o := fun z3 => some (.int z3.1)) (s2 := fun z3 => [.int z3.1]) (ci := 4) (q0 := 0) fx mm_X4_becomes q_5_12 dX4_changes_12 h (fun _ hz => c_X4_becomes hz) rfl rfl (rm_ok (by decide) (by decide)) ⟨Nat.zero_le _, Nat.zero_le _⟩ rfl (List.Perm.refl _) (fun _ => List.Perm.refl _) rfl (Nat.le_of_ble_eq_true rfl) (fun _ => rfl) (fun z3 h => ?_)
  refine wa_istore_nN fx (fun x4 => [(3, .int x4), (0, .ref (ad 0)), (1, .int a1), (2, .int a2)]) dX4_changes_15 rfl (by decide) (fun _ => rfl) h (fun x4 h => ?_)
  refine wa_aload_n fx 1 dX4_changes_16 rfl ?_
  refine wa_get (v := .ref (ad 1)) fx wm_X4 0 rfl rfl 0 (by decide) q_3_15 rfl rfl dX4_changes_17 ?_
  refine wa_iload_n fx 3 dX4_changes_20 rfl ?_
  refine wa_iconst fx (5 : Int32) dX4_changes_21 (by decide) ?_
  refine wa_S (rmc := (rmh 1)) (As := [.int a2, .int (5 : Int32)]) (st := [.ref (ad 1)]) (wc := (no_ws ())) (wr := (mo_ws g ad z3.2)) (wcz := fun _ => (no_ws ())) (w2 := fun _ => (mo_ws g ad z3.2)) (o := fun z5 => some (.int z5)) (s2 := fun z5 => [.int z5, .ref (ad 1)]) fx mm_X4_spotOf q_6_14 dX4_changes_22 h (fun _ hz => c_X4_spotOf hz) (rm_ok (by decide) (by decide)) ⟨Nat.zero_le _, Nat.zero_le _⟩ rfl (List.Perm.of_eq (List.append_nil _).symm) (fun _ => (List.Perm.of_eq (List.append_nil _).symm)) rfl (Nat.le_of_ble_eq_true rfl) (fun _ => rfl) (fun z5 h => ?_)
  refine wa_iload_n fx 0 dX4_changes_25 rfl ?_
  refine wa_iast (mo_ws g ad) (f := z3.2.1 0) fx 1 rfl dX4_changes_26 h rfl (fun w6 h => ?_)
  exact fn_v (mo_ws g ad) fx hf (Option.some.inj h) dX4_changes_27
def f_X4_change  (st : StT) (a1 : Int32) (a2 : Int32) : Option (Int32 × (StT)) := Option.bind (f_X4_areTwo st a1 a2) fun z1 => if z1 = 0 then (Option.bind (f_X4_finds st (-1000000001 : Int32)) fun z3 => some (z3.1, z3.2)) else (Option.bind (f_X4_changes st a1 a2) fun z2 => some ((1 : Int32), z2))
set_option maxHeartbeats 4000000 in
set_option maxRecDepth 100000 in
theorem c_X4_change {g : GT} {l : Launch} {ad : Nat → Nat}   {st : StT} {a1 : Int32} {a2 : Int32} {r : Int32 × (StT)} (h : f_X4_change st a1 a2 = some r) : Ct g l yX4_change (wd yX4_change cX4_change 3 (some .int)) (rmh 4) [.ref (ad 0), .int a1, .int a2] (mo_ws g ad st) (mo_ws g ad r.2) (some (.int r.1)) := by
  refine Ct.of (lv := [(0, .ref (ad 0)), (1, .int a1), (2, .int a2)]) (by decide) (Nat.le_of_ble_eq_true rfl) rfl (fun K hl fx hf => ?_)
  subst hl
  rw [f_X4_change] at h
  refine wa_aload_n fx 0 dX4_change_0 rfl ?_
  refine wa_iload_n fx 1 dX4_change_1 rfl ?_
  refine wa_iload_n fx 2 dX4_change_2 rfl ?_
  refine wa_V (b := ad 0) (rmc := (rmh 3)) (As := [.int a1, .int a2]) (st := []) (wc := (mo_ws g ad st)) (wr := ([] : va_W)) (wcz := fun _ => (mo_ws g ad st)) (w2 := fun _ => (mo_ws g ad st)) (o := fun z1 => some (.int z1)) (s2 := fun z1 => [.int z1]) (ci := 4) (q0 := 0) fx mm_X4_areTwo q_11_16 dX4_change_3 h (fun _ hz => c_X4_areTwo hz) rfl rfl (rm_ok (by decide) (by decide)) ⟨Nat.zero_le _, Nat.zero_le _⟩ rfl (List.Perm.refl _) (fun _ => (List.Perm.refl _)) rfl (Nat.le_of_ble_eq_true rfl) (fun _ => rfl) (fun z1 h => ?_)
  refine wa_if_ne fx 16 dX4_change_6 (by decide) h (fun h => ?_) (fun h => ?_)
  · refine wa_aload_n fx 0 dX4_change_9 rfl ?_
    refine wa_ldc fx q_5_4 dX4_change_10 ?_
    refine wa_V (b := ad 0) (rmc := (rmh 1)) (As := [.int (-1000000001 : Int32)]) (st := []) (wc := (mo_ws g ad st)) (wr := ([] : va_W)) (wcz := fun z3 => mo_ws g ad z3.2) (w2 := fun z3 => mo_ws g ad z3.2) (o := fun z3 => some (.int z3.1)) (s2 := fun z3 => [.int z3.1]) (ci := 4) (q0 := 0) fx mm_X4_finds q_5_16 dX4_change_12 h (fun _ hz => c_X4_finds hz) rfl rfl (rm_ok (by decide) (by decide)) ⟨Nat.zero_le _, Nat.zero_le _⟩ rfl (List.Perm.refl _) (fun _ => List.Perm.refl _) rfl (Nat.le_of_ble_eq_true rfl) (fun _ => rfl) (fun z3 h => ?_)
    exact fn_i (mo_ws g ad) fx hf (sn1 h) (sn2 h) dX4_change_15
  · refine wa_aload_n fx 0 dX4_change_16 rfl ?_
    refine wa_iload_n fx 1 dX4_change_17 rfl ?_
    refine wa_iload_n fx 2 dX4_change_18 rfl ?_
    refine wa_V (b := ad 0) (rmc := (rmh 3)) (As := [.int a1, .int a2]) (st := []) (wc := (mo_ws g ad st)) (wr := ([] : va_W)) (wcz := fun z2 => mo_ws g ad z2) (w2 := fun z2 => mo_ws g ad z2) (o := fun _ => none) (s2 := fun z2 => []) (ci := 4) (q0 := 0) fx mm_X4_changes q_13_5 dX4_change_19 h (fun _ hz => c_X4_changes hz) rfl rfl (rm_ok (by decide) (by decide)) ⟨Nat.zero_le _, Nat.zero_le _⟩ rfl (List.Perm.refl _) (fun _ => List.Perm.refl _) rfl (Nat.le_of_ble_eq_true rfl) (fun _ => rfl) (fun z2 h => ?_)
    refine wa_iconst fx (1 : Int32) dX4_change_22 (by decide) ?_
    exact fn_i (mo_ws g ad) fx hf (sn1 h) (sn2 h) dX4_change_23
def f_X4_hourNow (st : StT)  : Option (Int32) := ck (1 : Int32) 66 (some ((st.1 0 (Int32.toNatClampNeg (1 : Int32))) - (st.1 0 (Int32.toNatClampNeg (1 : Int32))) / (24 : Int32) * (24 : Int32)))
set_option maxHeartbeats 4000000 in
set_option maxRecDepth 100000 in
theorem c_X4_hourNow {g : GT} {l : Launch} {ad : Nat → Nat}   {st : StT}  {r : Int32} (h : f_X4_hourNow st = some r) : Ct g l yX4_hourNow (wd yX4_hourNow cX4_hourNow 1 (some .int)) (rmh 1) [.ref (ad 0)] (mo_ws g ad st) (mo_ws g ad st) (some (.int r)) := by
  refine Ct.of (lv := [(0, .ref (ad 0))]) (by decide) (Nat.le_of_ble_eq_true rfl) rfl (fun K hl fx hf => ?_)
  subst hl
  rw [f_X4_hourNow] at h
  refine wa_aload_n fx 0 dX4_hourNow_0 rfl ?_
  refine wa_get (v := .ref (ad 1)) fx wm_X4 0 rfl rfl 0 (by decide) q_3_15 rfl rfl dX4_hourNow_1 ?_
  refine wa_iconst fx (1 : Int32) dX4_hourNow_4 (by decide) ?_
  refine wa_iald (f := st.1 0) fx 1 rfl dX4_hourNow_5 h (fun h => ?_)
  refine wa_bipush fx (24 : Int32) dX4_hourNow_6 (by decide) ?_
  refine wa_irem fx dX4_hourNow_8 (by decide) ?_
  exact fn_i (mo_ws g ad) fx hf (Option.some.inj h) rfl dX4_hourNow_9
def f_X4_isSunny (st : StT)  : Option (Int32) := Option.bind (f_X4_hourNow st) fun z1 => if z1 < (10 : Int32) then (some (0 : Int32)) else (Option.bind (f_X4_hourNow st) fun z2 => if (14 : Int32) < z2 then (some (0 : Int32)) else (some (1 : Int32)))
set_option maxHeartbeats 4000000 in
set_option maxRecDepth 100000 in
theorem c_X4_isSunny {g : GT} {l : Launch} {ad : Nat → Nat}   {st : StT}  {r : Int32} (h : f_X4_isSunny st = some r) : Ct g l yX4_isSunny (wd yX4_isSunny cX4_isSunny 1 (some .boolean)) (rmh 2) [.ref (ad 0)] (mo_ws g ad st) (mo_ws g ad st) (some (.int r)) := by
  refine Ct.of (lv := [(0, .ref (ad 0))]) (by decide) (Nat.le_of_ble_eq_true rfl) rfl (fun K hl fx hf => ?_)
  subst hl
  rw [f_X4_isSunny] at h
  refine wa_aload_n fx 0 dX4_isSunny_0 rfl ?_
  refine wa_V (b := ad 0) (rmc := (rmh 1)) (As := []) (st := []) (wc := (mo_ws g ad st)) (wr := ([] : va_W)) (wcz := fun _ => (mo_ws g ad st)) (w2 := fun _ => (mo_ws g ad st)) (o := fun z1 => some (.int z1)) (s2 := fun z1 => [.int z1]) (ci := 4) (q0 := 0) fx mm_X4_hourNow q_14_23 dX4_isSunny_1 h (fun _ hz => c_X4_hourNow hz) rfl rfl (rm_ok (by decide) (by decide)) ⟨Nat.zero_le _, Nat.zero_le _⟩ rfl (List.Perm.refl _) (fun _ => (List.Perm.refl _)) rfl (Nat.le_of_ble_eq_true rfl) (fun _ => rfl) (fun z1 h => ?_)
  refine wa_bipush fx (10 : Int32) dX4_isSunny_4 (by decide) ?_
  refine wa_icmp_lt fx 22 dX4_isSunny_6 (by decide) h (fun h => ?_) (fun h => ?_)
  · refine wa_iconst fx (0 : Int32) dX4_isSunny_22 (by decide) ?_
    exact fn_z (mo_ws g ad) fx hf (by decide) (Option.some.inj h) rfl dX4_isSunny_23
  · refine wa_aload_n fx 0 dX4_isSunny_9 rfl ?_
    refine wa_V (b := ad 0) (rmc := (rmh 1)) (As := []) (st := []) (wc := (mo_ws g ad st)) (wr := ([] : va_W)) (wcz := fun _ => (mo_ws g ad st)) (w2 := fun _ => (mo_ws g ad st)) (o := fun z2 => some (.int z2)) (s2 := fun z2 => [.int z2]) (ci := 4) (q0 := 0) fx mm_X4_hourNow q_14_23 dX4_isSunny_10 h (fun _ hz => c_X4_hourNow hz) rfl rfl (rm_ok (by decide) (by decide)) ⟨Nat.zero_le _, Nat.zero_le _⟩ rfl (List.Perm.refl _) (fun _ => (List.Perm.refl _)) rfl (Nat.le_of_ble_eq_true rfl) (fun _ => rfl) (fun z2 h => ?_)
    refine wa_bipush fx (14 : Int32) dX4_isSunny_13 (by decide) ?_
    refine wa_icmp_gt fx 22 dX4_isSunny_15 (by decide) h (fun h => ?_) (fun h => ?_)
    · refine wa_iconst fx (0 : Int32) dX4_isSunny_22 (by decide) ?_
      exact fn_z (mo_ws g ad) fx hf (by decide) (Option.some.inj h) rfl dX4_isSunny_23
    · refine wa_iconst fx (1 : Int32) dX4_isSunny_18 (by decide) ?_
      refine wa_goto fx 23 dX4_isSunny_19 (by decide) ?_
      exact fn_z (mo_ws g ad) fx hf (by decide) (Option.some.inj h) rfl dX4_isSunny_23
