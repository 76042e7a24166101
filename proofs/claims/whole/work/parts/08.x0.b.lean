def f_X0_pass_l4 : Nat → (Int32) → (Int32) → (Int32) → (StT) → Option (Int32 × (StT))
  | 0, _, _, _, _ => none
  | n + 1, x5, x6, x7, w8 => if x5 ≤ x7 then (some (x6, w8)) else (Option.bind (f_X0_passOne w8) fun z9 => nm z9.1 fun x10 => nm (x7 + (1 : Int32)) fun x11 => (f_X0_pass_l4 n) x5 x10 x11 z9.2)
def f_X0_pass  (st : StT) (a1 : Int32) : Option (Int32 × (StT)) := f_X0_pass_l4 200 a1 (0 : Int32) (0 : Int32) st
set_option maxHeartbeats 4000000 in
set_option maxRecDepth 100000 in
theorem c_X0_pass {g : GT} {l : Launch} {ad : Nat → Nat}   {st : StT} {a1 : Int32} {r : Int32 × (StT)} (h : f_X0_pass st a1 = some r) : Ct g l yX0_pass (wd yX0_pass cX0_pass 4 (some .int)) (rmh 6) [.ref (ad 0), .int a1] (rm_ws g ad st) (rm_ws g ad r.2) (some (.int r.1)) := by
  refine Ct.of (lv := [(0, .ref (ad 0)), (1, .int a1)]) (by decide) (Nat.le_of_ble_eq_true rfl) rfl (fun K hl fx hf => ?_)
  subst hl
  rw [f_X0_pass] at h
  have B4 : ∀  (n : Nat) (x5 : Int32) (x6 : Int32) (x7 : Int32) (w8 : StT), f_X0_pass_l4 n x5 x6 x7 w8 = some r → WA g K 4 0 0 4 [(0, .ref (ad 0)), (1, .int x5), (2, .int x6), (3, .int x7)] [] (rm_ws g ad w8) := by
    intro   n
    induction n with
    | zero => intro x5 x6 x7 w8 h; exact absurd h (by rw [f_X0_pass_l4]; exact nofun)
    | succ n ih =>
      intro x5 x6 x7 w8 h
      rw [f_X0_pass_l4] at h
      refine wa_iload_n fx 3 dX0_pass_4 rfl ?_
      refine wa_iload_n fx 1 dX0_pass_5 rfl ?_
      refine wa_icmp_ge fx 20 dX0_pass_6 (by decide) h (fun h => ?_) (fun h => ?_)
      · refine wa_iload_n fx 2 dX0_pass_20 rfl ?_
        exact fn_i (rm_ws g ad) fx hf (sn1 h) (sn2 h) dX0_pass_21
      · refine wa_aload_n fx 0 dX0_pass_9 rfl ?_
        refine wa_V (b := ad 0) (rmc := (rmh 5)) (As := []) (st := []) (wc := (rm_ws g ad w8)) (wr := ([] : va_W)) (wcz := fun z9 => rm_ws g ad z9.2) (w2 := fun z9 => rm_ws g ad z9.2) (o := fun z9 => some (.int z9.1)) (s2 := fun z9 => [.int z9.1]) (ci := 0) (q0 := 0) fx mm_X0_passOne q_15_17 dX0_pass_10 h (fun _ hz => c_X0_passOne hz) rfl rfl (rm_ok (by decide) (by decide)) ⟨Nat.zero_le _, Nat.zero_le _⟩ rfl (List.Perm.refl _) (fun _ => List.Perm.refl _) rfl (Nat.le_of_ble_eq_true rfl) (fun _ => rfl) (fun z9 h => ?_)
        refine wa_istore_nN fx (fun x10 => [(2, .int x10), (0, .ref (ad 0)), (1, .int x5), (3, .int x7)]) dX0_pass_13 rfl (by decide) (fun _ => rfl) h (fun x10 h => ?_)
        refine wa_iinc fx 3 (fun x11 => [(3, .int x11), (2, .int x10), (0, .ref (ad 0)), (1, .int x5)]) dX0_pass_14 rfl (by rfl) (by decide) (fun _ => rfl) h (fun x11 h => ?_)
        refine wa_goto fx 4 dX0_pass_17 (by decide) ?_
        refine wa_sub [2, 3, 1, 0] rfl ?_
        exact ih x5 x10 x11 z9.2 h
  refine wa_iconst fx (0 : Int32) dX0_pass_0 (by decide) ?_
  refine wa_istore_n fx [(2, .int (0 : Int32)), (0, .ref (ad 0)), (1, .int a1)] dX0_pass_1 rfl (by decide) rfl ?_
  refine wa_iconst fx (0 : Int32) dX0_pass_2 (by decide) ?_
  refine wa_istore_n fx [(3, .int (0 : Int32)), (2, .int (0 : Int32)), (0, .ref (ad 0)), (1, .int a1)] dX0_pass_3 rfl (by decide) rfl ?_
  refine wa_sub [2, 3, 1, 0] rfl ?_
  exact B4 200 a1 (0 : Int32) (0 : Int32) st h
