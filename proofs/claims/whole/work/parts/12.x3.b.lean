def f_X3_mend_b153 (k67 : (Int32) → (Int32) → (Int32) → (Int32) → (Int32) → (Nat → StT) → Option (Int32 × (Nat → StT))) (x33 : Int32) (x34 : Int32) (x35 : Int32) (x36 : Int32) (x37 : Int32) (w38 : Nat → StT) : Option (Int32 × (Nat → StT)) := nm (x37 + (1 : Int32)) fun x39 => k67 x33 x34 x35 x36 x39 w38
def f_X3_mend_l67 (k49 : (Int32) → (Int32) → (Int32) → (Int32) → (Nat → StT) → Option (Int32 × (Nat → StT))) : Nat → (Int32) → (Int32) → (Int32) → (Int32) → (Int32) → (Nat → StT) → Option (Int32 × (Nat → StT))
  | 0, _, _, _, _, _, _ => none
  | n + 1, x25, x26, x27, x28, x29, w30 => if ((w30 1).2.2 0) ≤ x29 then (nm (x28 + (1 : Int32)) fun x31 => k49 x25 x26 x27 x31 w30) else (Option.bind (f_X0_areAtOdds (w30 1) x28 x29) fun z32 => if z32 = 0 then (f_X3_mend_b153 (f_X3_mend_l67 k49 n) x25 x26 x27 x28 x29 w30) else (Option.bind (f_X0_become (w30 2, w30 1)) fun z40 => nm (gset (gset w30 2 z40.1) 1 z40.2) fun w41 => Option.bind (f_X0_putAtOdds (w41 2) x28 x29 (0 : Int32)) fun z42 => nm (gset w41 2 z42) fun w43 => Option.bind (f_X0_pass (w43 2) x25) fun z44 => nm (gset w43 2 z44.2) fun w45 => Option.bind (f_X0_together (w45 2)) fun z46 => if z46 ≤ x26 then (f_X3_mend_b153 (f_X3_mend_l67 k49 n) x25 x26 x27 x28 x29 w45) else (Option.bind (f_X0_together (w45 2)) fun z47 => nm (((10 : Int32) * x28) + x29) fun x48 => f_X3_mend_b153 (f_X3_mend_l67 k49 n) x25 z47 x48 x28 x29 w45)))
def f_X3_mend_l49 : Nat → (Int32) → (Int32) → (Int32) → (Int32) → (Nat → StT) → Option (Int32 × (Nat → StT))
  | 0, _, _, _, _, _ => none
  | n + 1, x12, x13, x14, x15, w16 => if ((w16 1).2.2 0) ≤ x15 then (if 0 ≤ x14 then (some (x14, w16)) else (Option.bind (f_X3_finding w16 (3 : Int32)) fun z17 => some (z17.1, z17.2))) else (nm (x15 + (1 : Int32)) fun x18 => f_X3_mend_l67 (f_X3_mend_l49 n) 200 x12 x13 x14 x15 x18 w16)
def f_X3_mend  (G : Nat → StT) (a1 : Int32) : Option (Int32 × (Nat → StT)) := Option.bind (f_X3_isWithin a1 (0 : Int32) (30 : Int32)) fun z1 => if z1 = 0 then (Option.bind (f_X3_finding G (0 : Int32)) fun z49 => some (z49.1, z49.2)) else (Option.bind (f_X0_become (G 2, G 1)) fun z2 => nm (gset (gset G 2 z2.1) 1 z2.2) fun w3 => Option.bind (f_X0_pass (w3 2) a1) fun z4 => nm (gset w3 2 z4.2) fun w5 => Option.bind (f_X0_together (w5 2)) fun z6 => f_X3_mend_l49 200 a1 z6 (-1 : Int32) (0 : Int32) w5)
set_option maxHeartbeats 4000000 in
set_option maxRecDepth 100000 in
theorem c_X3_mend {g : GT} {l : Launch} {ad : Nat → Nat}   {G : Nat → StT} {a1 : Int32} {r : Int32 × (Nat → StT)} (h : f_X3_mend G a1 = some r) : Ct g l yX3_mend (wd yX3_mend cX3_mend 6 (some .int)) (rmh 7) [.ref (ad 0), .int a1] (wc_ws g ad G) (wc_ws g ad r.2) (some (.int r.1)) := by
  refine Ct.of (lv := [(0, .ref (ad 0)), (1, .int a1)]) (by decide) (Nat.le_of_ble_eq_true rfl) rfl (fun K hl fx hf => ?_)
  subst hl
  rw [f_X3_mend] at h
  have B153 : ∀ (k67 : (Int32) → (Int32) → (Int32) → (Int32) → (Int32) → (Nat → StT) → Option (Int32 × (Nat → StT))) (Hk67 : ∀ (y19 : Int32) (y20 : Int32) (y21 : Int32) (y22 : Int32) (y23 : Int32) (w24 : Nat → StT), k67 y19 y20 y21 y22 y23 w24 = some r → WA g K 6 0 0 67 [(0, .ref (ad 0)), (1, .int y19), (2, .int y20), (3, .int y21), (4, .int y22), (5, .int y23)] [] (wc_ws g ad w24)) (x33 : Int32) (x34 : Int32) (x35 : Int32) (x36 : Int32) (x37 : Int32) (w38 : Nat → StT), f_X3_mend_b153 k67 x33 x34 x35 x36 x37 w38 = some r → WA g K 6 0 0 153 [(0, .ref (ad 0)), (1, .int x33), (2, .int x34), (3, .int x35), (4, .int x36), (5, .int x37)] [] (wc_ws g ad w38) := by
    intro  k67 Hk67 x33 x34 x35 x36 x37 w38 h
    rw [f_X3_mend_b153] at h
    refine wa_iinc fx 5 (fun x39 => [(5, .int x39), (0, .ref (ad 0)), (1, .int x33), (2, .int x34), (3, .int x35), (4, .int x36)]) dX3_mend_153 rfl (by rfl) (by decide) (fun _ => rfl) h (fun x39 h => ?_)
    refine wa_goto fx 67 dX3_mend_156 (by decide) ?_
    refine wa_sub [1, 2, 3, 4, 5, 0] rfl ?_
    exact Hk67 x33 x34 x35 x36 x39 w38 h
  have B67 : ∀ (k49 : (Int32) → (Int32) → (Int32) → (Int32) → (Nat → StT) → Option (Int32 × (Nat → StT))) (Hk49 : ∀ (y7 : Int32) (y8 : Int32) (y9 : Int32) (y10 : Int32) (w11 : Nat → StT), k49 y7 y8 y9 y10 w11 = some r → WA g K 6 0 0 49 [(0, .ref (ad 0)), (1, .int y7), (2, .int y8), (3, .int y9), (4, .int y10)] [] (wc_ws g ad w11)) (n : Nat) (x25 : Int32) (x26 : Int32) (x27 : Int32) (x28 : Int32) (x29 : Int32) (w30 : Nat → StT), f_X3_mend_l67 k49 n x25 x26 x27 x28 x29 w30 = some r → WA g K 6 0 0 67 [(0, .ref (ad 0)), (1, .int x25), (2, .int x26), (3, .int x27), (4, .int x28), (5, .int x29)] [] (wc_ws g ad w30) := by
    intro  k49 Hk49 n
    induction n with
    | zero => intro x25 x26 x27 x28 x29 w30 h; exact absurd h (by rw [f_X3_mend_l67]; exact nofun)
    | succ n ih =>
      intro x25 x26 x27 x28 x29 w30 h
      rw [f_X3_mend_l67] at h
      refine wa_iload fx 5 dX3_mend_67 rfl ?_
      refine wa_aload_n fx 0 dX3_mend_69 rfl ?_
      refine wa_get (v := .ref ((adr ad 1) 0)) fx wm_X3 0 rfl rfl 0 (by decide) q_1_16 rfl rfl dX3_mend_70 ?_
      refine wa_get (v := .int ((w30 1).2.2 0)) fx wm_X0 4 rfl rfl 9 (by decide) q_6_21 rfl rfl dX3_mend_73 ?_
      refine wa_icmp_ge fx 159 dX3_mend_76 (by decide) h (fun h => ?_) (fun h => ?_)
      · refine wa_iinc fx 4 (fun x31 => [(4, .int x31), (0, .ref (ad 0)), (1, .int x25), (2, .int x26), (3, .int x27), (5, .int x29)]) dX3_mend_159 rfl (by rfl) (by decide) (fun _ => rfl) h (fun x31 h => ?_)
        refine wa_goto fx 49 dX3_mend_162 (by decide) ?_
        refine wa_sub [1, 2, 3, 4, 0] rfl ?_
        exact Hk49 x25 x26 x27 x31 w30 h
      · refine wa_aload_n fx 0 dX3_mend_79 rfl ?_
        refine wa_get (v := .ref ((adr ad 1) 0)) fx wm_X3 0 rfl rfl 0 (by decide) q_1_16 rfl rfl dX3_mend_80 ?_
        refine wa_iload fx 4 dX3_mend_83 rfl ?_
        refine wa_iload fx 5 dX3_mend_85 rfl ?_
        refine wa_V (b := (adr ad 1) 0) (rmc := (rmh 1)) (As := [.int x28, .int x29]) (st := []) (wc := (rm_ws g (adr ad 1) (w30 1))) (wr := (wr1 g ad w30)) (wcz := fun _ => (rm_ws g (adr ad 1) (w30 1))) (w2 := fun _ => (wc_ws g ad w30)) (o := fun z32 => some (.int z32)) (s2 := fun z32 => [.int z32]) (ci := 0) (q0 := 0) fx mm_X0_areAtOdds q_11_4 dX3_mend_87 h (fun _ hz => c_X0_areAtOdds hz) rfl rfl (rm_ok (by decide) (by decide)) ⟨Nat.zero_le _, Nat.zero_le _⟩ rfl (sq1 g ad w30) (fun _ => (sq1 g ad w30)) rfl (Nat.le_of_ble_eq_true rfl) (fun _ => rfl) (fun z32 h => ?_)
        refine wa_if_eq fx 153 dX3_mend_90 (by decide) h (fun h => ?_) (fun h => ?_)
        · refine wa_sub [0, 1, 2, 3, 4, 5] rfl ?_
          exact B153 (f_X3_mend_l67 k49 n) ih x25 x26 x27 x28 x29 w30 h
        · refine wa_aload_n fx 0 dX3_mend_93 rfl ?_
          refine wa_get (v := .ref ((adr ad 11) 0)) fx wm_X3 0 rfl rfl 1 (by decide) q_1_17 rfl rfl dX3_mend_94 ?_
          refine wa_aload_n fx 0 dX3_mend_97 rfl ?_
          refine wa_get (v := .ref ((adr ad 1) 0)) fx wm_X3 0 rfl rfl 0 (by decide) q_1_16 rfl rfl dX3_mend_98 ?_
          refine wa_V (b := (adr ad 11) 0) (rmc := (rmh 2)) (As := [.ref ((adr ad 1) 0)]) (st := []) (wc := (bb_ws g (adr ad 11) (adr ad 1) (w30 2, w30 1))) (wr := (wr21 g ad w30)) (wcz := fun z40 => bb_ws g (adr ad 11) (adr ad 1) z40) (w2 := fun z40 => wc_ws g ad (gset (gset w30 2 z40.1) 1 z40.2)) (o := fun _ => none) (s2 := fun z40 => []) (ci := 0) (q0 := 0) fx mm_X0_become q_18_20 dX3_mend_101 h (fun _ hz => c_X0_become hz) rfl rfl (rm_ok (by decide) (by decide)) ⟨Nat.zero_le _, Nat.zero_le _⟩ rfl (sq21 g ad w30) (fun _ => sp21 g ad w30 _) rfl (Nat.le_of_ble_eq_true rfl) (fun _ => rfl) (fun z40 h => ?_)
          refine nm_w (wc_ws g ad) h (fun w41 h => ?_)
          refine wa_aload_n fx 0 dX3_mend_104 rfl ?_
          refine wa_get (v := .ref ((adr ad 11) 0)) fx wm_X3 0 rfl rfl 1 (by decide) q_1_17 rfl rfl dX3_mend_105 ?_
          refine wa_iload fx 4 dX3_mend_108 rfl ?_
          refine wa_iload fx 5 dX3_mend_110 rfl ?_
          refine wa_iconst fx (0 : Int32) dX3_mend_112 (by decide) ?_
          refine wa_V (b := (adr ad 11) 0) (rmc := (rmh 1)) (As := [.int x28, .int x29, .int (0 : Int32)]) (st := []) (wc := (rm_ws g (adr ad 11) (w41 2))) (wr := (wr2 g ad w41)) (wcz := fun z42 => rm_ws g (adr ad 11) z42) (w2 := fun z42 => wc_ws g ad (gset w41 2 z42)) (o := fun _ => none) (s2 := fun z42 => []) (ci := 0) (q0 := 0) fx mm_X0_putAtOdds q_11_8 dX3_mend_113 h (fun _ hz => c_X0_putAtOdds hz) rfl rfl (rm_ok (by decide) (by decide)) ⟨Nat.zero_le _, Nat.zero_le _⟩ rfl (sq2 g ad w41) (fun _ => sp2 g ad w41 _) rfl (Nat.le_of_ble_eq_true rfl) (fun _ => rfl) (fun z42 h => ?_)
          refine nm_w (wc_ws g ad) h (fun w43 h => ?_)
          refine wa_aload_n fx 0 dX3_mend_116 rfl ?_
          refine wa_get (v := .ref ((adr ad 11) 0)) fx wm_X3 0 rfl rfl 1 (by decide) q_1_17 rfl rfl dX3_mend_117 ?_
          refine wa_iload_n fx 1 dX3_mend_120 rfl ?_
          refine wa_V (b := (adr ad 11) 0) (rmc := (rmh 6)) (As := [.int x25]) (st := []) (wc := (rm_ws g (adr ad 11) (w43 2))) (wr := (wr2 g ad w43)) (wcz := fun z44 => rm_ws g (adr ad 11) z44.2) (w2 := fun z44 => wc_ws g ad (gset w43 2 z44.2)) (o := fun z44 => some (.int z44.1)) (s2 := fun z44 => [.int z44.1]) (ci := 0) (q0 := 0) fx mm_X0_pass q_15_13 dX3_mend_121 h (fun _ hz => c_X0_pass hz) rfl rfl (rm_ok (by decide) (by decide)) ⟨Nat.zero_le _, Nat.zero_le _⟩ rfl (sq2 g ad w43) (fun _ => sp2 g ad w43 _) rfl (Nat.le_of_ble_eq_true rfl) (fun _ => rfl) (fun z44 h => ?_)
          refine nm_w (wc_ws g ad) h (fun w45 h => ?_)
          refine wa_pop fx dX3_mend_124 rfl ?_
          refine wa_aload_n fx 0 dX3_mend_125 rfl ?_
          refine wa_get (v := .ref ((adr ad 11) 0)) fx wm_X3 0 rfl rfl 1 (by decide) q_1_17 rfl rfl dX3_mend_126 ?_
          refine wa_V (b := (adr ad 11) 0) (rmc := (rmh 4)) (As := []) (st := []) (wc := (rm_ws g (adr ad 11) (w45 2))) (wr := (wr2 g ad w45)) (wcz := fun _ => (rm_ws g (adr ad 11) (w45 2))) (w2 := fun _ => (wc_ws g ad w45)) (o := fun z46 => some (.int z46)) (s2 := fun z46 => [.int z46]) (ci := 0) (q0 := 0) fx mm_X0_together q_17_16 dX3_mend_129 h (fun _ hz => c_X0_together hz) rfl rfl (rm_ok (by decide) (by decide)) ⟨Nat.zero_le _, Nat.zero_le _⟩ rfl (sq2 g ad w45) (fun _ => (sq2 g ad w45)) rfl (Nat.le_of_ble_eq_true rfl) (fun _ => rfl) (fun z46 h => ?_)
          refine wa_iload_n fx 2 dX3_mend_132 rfl ?_
          refine wa_icmp_le fx 153 dX3_mend_133 (by decide) h (fun h => ?_) (fun h => ?_)
          · refine wa_sub [0, 1, 2, 3, 4, 5] rfl ?_
            exact B153 (f_X3_mend_l67 k49 n) ih x25 x26 x27 x28 x29 w45 h
          · refine wa_aload_n fx 0 dX3_mend_136 rfl ?_
            refine wa_get (v := .ref ((adr ad 11) 0)) fx wm_X3 0 rfl rfl 1 (by decide) q_1_17 rfl rfl dX3_mend_137 ?_
            refine wa_V (b := (adr ad 11) 0) (rmc := (rmh 4)) (As := []) (st := []) (wc := (rm_ws g (adr ad 11) (w45 2))) (wr := (wr2 g ad w45)) (wcz := fun _ => (rm_ws g (adr ad 11) (w45 2))) (w2 := fun _ => (wc_ws g ad w45)) (o := fun z47 => some (.int z47)) (s2 := fun z47 => [.int z47]) (ci := 0) (q0 := 0) fx mm_X0_together q_17_16 dX3_mend_140 h (fun _ hz => c_X0_together hz) rfl rfl (rm_ok (by decide) (by decide)) ⟨Nat.zero_le _, Nat.zero_le _⟩ rfl (sq2 g ad w45) (fun _ => (sq2 g ad w45)) rfl (Nat.le_of_ble_eq_true rfl) (fun _ => rfl) (fun z47 h => ?_)
            refine wa_istore_n fx [(2, .int z47), (0, .ref (ad 0)), (1, .int x25), (3, .int x27), (4, .int x28), (5, .int x29)] dX3_mend_143 rfl (by decide) rfl ?_
            refine wa_bipush fx (10 : Int32) dX3_mend_144 (by decide) ?_
            refine wa_iload fx 4 dX3_mend_146 rfl ?_
            refine wa_imul fx dX3_mend_148 ?_
            refine wa_iload fx 5 dX3_mend_149 rfl ?_
            refine wa_iadd fx dX3_mend_151 ?_
            refine wa_istore_nN fx (fun x48 => [(3, .int x48), (2, .int z47), (0, .ref (ad 0)), (1, .int x25), (4, .int x28), (5, .int x29)]) dX3_mend_152 rfl (by decide) (fun _ => rfl) h (fun x48 h => ?_)
            refine wa_sub [2, 3, 1, 0, 4, 5] rfl ?_
            exact B153 (f_X3_mend_l67 k49 n) ih x25 z47 x48 x28 x29 w45 h
  have B49 : ∀  (n : Nat) (x12 : Int32) (x13 : Int32) (x14 : Int32) (x15 : Int32) (w16 : Nat → StT), f_X3_mend_l49 n x12 x13 x14 x15 w16 = some r → WA g K 6 0 0 49 [(0, .ref (ad 0)), (1, .int x12), (2, .int x13), (3, .int x14), (4, .int x15)] [] (wc_ws g ad w16) := by
    intro   n
    induction n with
    | zero => intro x12 x13 x14 x15 w16 h; exact absurd h (by rw [f_X3_mend_l49]; exact nofun)
    | succ n ih =>
      intro x12 x13 x14 x15 w16 h
      rw [f_X3_mend_l49] at h
      refine wa_iload fx 4 dX3_mend_49 rfl ?_
      refine wa_aload_n fx 0 dX3_mend_51 rfl ?_
      refine wa_get (v := .ref ((adr ad 1) 0)) fx wm_X3 0 rfl rfl 0 (by decide) q_1_16 rfl rfl dX3_mend_52 ?_
      refine wa_get (v := .int ((w16 1).2.2 0)) fx wm_X0 4 rfl rfl 9 (by decide) q_6_21 rfl rfl dX3_mend_55 ?_
      refine wa_icmp_ge fx 165 dX3_mend_58 (by decide) h (fun h => ?_) (fun h => ?_)
      · refine wa_iload_n fx 3 dX3_mend_165 rfl ?_
        refine wa_if_ge fx 177 dX3_mend_166 (by decide) h (fun h => ?_) (fun h => ?_)
        · refine wa_iload_n fx 3 dX3_mend_177 rfl ?_
          exact fn_i (wc_ws g ad) fx hf (sn1 h) (sn2 h) dX3_mend_178
        · refine wa_aload_n fx 0 dX3_mend_169 rfl ?_
          refine wa_iconst fx (3 : Int32) dX3_mend_170 (by decide) ?_
          refine wa_V (b := ad 0) (rmc := (rmh 1)) (As := [.int (3 : Int32)]) (st := []) (wc := (wc_ws g ad w16)) (wr := ([] : va_W)) (wcz := fun z17 => wc_ws g ad z17.2) (w2 := fun z17 => wc_ws g ad z17.2) (o := fun z17 => some (.int z17.1)) (s2 := fun z17 => [.int z17.1]) (ci := 3) (q0 := 0) fx mm_X3_finding q_4_17 dX3_mend_171 h (fun _ hz => c_X3_finding hz) rfl rfl (rm_ok (by decide) (by decide)) ⟨Nat.zero_le _, Nat.zero_le _⟩ rfl (List.Perm.refl _) (fun _ => List.Perm.refl _) rfl (Nat.le_of_ble_eq_true rfl) (fun _ => rfl) (fun z17 h => ?_)
          refine wa_goto fx 178 dX3_mend_174 (by decide) ?_
          exact fn_i (wc_ws g ad) fx hf (sn1 h) (sn2 h) dX3_mend_178
      · refine wa_iload fx 4 dX3_mend_61 rfl ?_
        refine wa_iconst fx (1 : Int32) dX3_mend_63 (by decide) ?_
        refine wa_iadd fx dX3_mend_64 ?_
        refine wa_istoreN fx (fun x18 => [(5, .int x18), (0, .ref (ad 0)), (1, .int x12), (2, .int x13), (3, .int x14), (4, .int x15)]) dX3_mend_65 (by decide) (fun _ => rfl) h (fun x18 h => ?_)
        refine wa_sub [1, 2, 3, 4, 5, 0] rfl ?_
        exact B67 (f_X3_mend_l49 n) ih 200 x12 x13 x14 x15 x18 w16 h
  refine wa_iload_n fx 1 dX3_mend_0 rfl ?_
  refine wa_iconst fx (0 : Int32) dX3_mend_1 (by decide) ?_
  refine wa_bipush fx (30 : Int32) dX3_mend_2 (by decide) ?_
  refine wa_S (rmc := (rmh 1)) (As := [.int a1, .int (0 : Int32), .int (30 : Int32)]) (st := []) (wc := (no_ws ())) (wr := (wc_ws g ad G)) (wcz := fun _ => (no_ws ())) (w2 := fun _ => (wc_ws g ad G)) (o := fun z1 => some (.int z1)) (s2 := fun z1 => [.int z1]) fx mm_X3_isWithin q_4_14 dX3_mend_4 h (fun _ hz => c_X3_isWithin hz) (rm_ok (by decide) (by decide)) ⟨Nat.zero_le _, Nat.zero_le _⟩ rfl (List.Perm.of_eq (List.append_nil _).symm) (fun _ => (List.Perm.of_eq (List.append_nil _).symm)) rfl (Nat.le_of_ble_eq_true rfl) (fun _ => rfl) (fun z1 h => ?_)
  refine wa_if_ne fx 16 dX3_mend_7 (by decide) h (fun h => ?_) (fun h => ?_)
  · refine wa_aload_n fx 0 dX3_mend_10 rfl ?_
    refine wa_iconst fx (0 : Int32) dX3_mend_11 (by decide) ?_
    refine wa_V (b := ad 0) (rmc := (rmh 1)) (As := [.int (0 : Int32)]) (st := []) (wc := (wc_ws g ad G)) (wr := ([] : va_W)) (wcz := fun z49 => wc_ws g ad z49.2) (w2 := fun z49 => wc_ws g ad z49.2) (o := fun z49 => some (.int z49.1)) (s2 := fun z49 => [.int z49.1]) (ci := 3) (q0 := 0) fx mm_X3_finding q_4_17 dX3_mend_12 h (fun _ hz => c_X3_finding hz) rfl rfl (rm_ok (by decide) (by decide)) ⟨Nat.zero_le _, Nat.zero_le _⟩ rfl (List.Perm.refl _) (fun _ => List.Perm.refl _) rfl (Nat.le_of_ble_eq_true rfl) (fun _ => rfl) (fun z49 h => ?_)
    exact fn_i (wc_ws g ad) fx hf (sn1 h) (sn2 h) dX3_mend_15
  · refine wa_aload_n fx 0 dX3_mend_16 rfl ?_
    refine wa_get (v := .ref ((adr ad 11) 0)) fx wm_X3 0 rfl rfl 1 (by decide) q_1_17 rfl rfl dX3_mend_17 ?_
    refine wa_aload_n fx 0 dX3_mend_20 rfl ?_
    refine wa_get (v := .ref ((adr ad 1) 0)) fx wm_X3 0 rfl rfl 0 (by decide) q_1_16 rfl rfl dX3_mend_21 ?_
    refine wa_V (b := (adr ad 11) 0) (rmc := (rmh 2)) (As := [.ref ((adr ad 1) 0)]) (st := []) (wc := (bb_ws g (adr ad 11) (adr ad 1) (G 2, G 1))) (wr := (wr21 g ad G)) (wcz := fun z2 => bb_ws g (adr ad 11) (adr ad 1) z2) (w2 := fun z2 => wc_ws g ad (gset (gset G 2 z2.1) 1 z2.2)) (o := fun _ => none) (s2 := fun z2 => []) (ci := 0) (q0 := 0) fx mm_X0_become q_18_20 dX3_mend_24 h (fun _ hz => c_X0_become hz) rfl rfl (rm_ok (by decide) (by decide)) ⟨Nat.zero_le _, Nat.zero_le _⟩ rfl (sq21 g ad G) (fun _ => sp21 g ad G _) rfl (Nat.le_of_ble_eq_true rfl) (fun _ => rfl) (fun z2 h => ?_)
    refine nm_w (wc_ws g ad) h (fun w3 h => ?_)
    refine wa_aload_n fx 0 dX3_mend_27 rfl ?_
    refine wa_get (v := .ref ((adr ad 11) 0)) fx wm_X3 0 rfl rfl 1 (by decide) q_1_17 rfl rfl dX3_mend_28 ?_
    refine wa_iload_n fx 1 dX3_mend_31 rfl ?_
    refine wa_V (b := (adr ad 11) 0) (rmc := (rmh 6)) (As := [.int a1]) (st := []) (wc := (rm_ws g (adr ad 11) (w3 2))) (wr := (wr2 g ad w3)) (wcz := fun z4 => rm_ws g (adr ad 11) z4.2) (w2 := fun z4 => wc_ws g ad (gset w3 2 z4.2)) (o := fun z4 => some (.int z4.1)) (s2 := fun z4 => [.int z4.1]) (ci := 0) (q0 := 0) fx mm_X0_pass q_15_13 dX3_mend_32 h (fun _ hz => c_X0_pass hz) rfl rfl (rm_ok (by decide) (by decide)) ⟨Nat.zero_le _, Nat.zero_le _⟩ rfl (sq2 g ad w3) (fun _ => sp2 g ad w3 _) rfl (Nat.le_of_ble_eq_true rfl) (fun _ => rfl) (fun z4 h => ?_)
    refine nm_w (wc_ws g ad) h (fun w5 h => ?_)
    refine wa_pop fx dX3_mend_35 rfl ?_
    refine wa_aload_n fx 0 dX3_mend_36 rfl ?_
    refine wa_get (v := .ref ((adr ad 11) 0)) fx wm_X3 0 rfl rfl 1 (by decide) q_1_17 rfl rfl dX3_mend_37 ?_
    refine wa_V (b := (adr ad 11) 0) (rmc := (rmh 4)) (As := []) (st := []) (wc := (rm_ws g (adr ad 11) (w5 2))) (wr := (wr2 g ad w5)) (wcz := fun _ => (rm_ws g (adr ad 11) (w5 2))) (w2 := fun _ => (wc_ws g ad w5)) (o := fun z6 => some (.int z6)) (s2 := fun z6 => [.int z6]) (ci := 0) (q0 := 0) fx mm_X0_together q_17_16 dX3_mend_40 h (fun _ hz => c_X0_together hz) rfl rfl (rm_ok (by decide) (by decide)) ⟨Nat.zero_le _, Nat.zero_le _⟩ rfl (sq2 g ad w5) (fun _ => (sq2 g ad w5)) rfl (Nat.le_of_ble_eq_true rfl) (fun _ => rfl) (fun z6 h => ?_)
    refine wa_istore_n fx [(2, .int z6), (0, .ref (ad 0)), (1, .int a1)] dX3_mend_43 rfl (by decide) rfl ?_
    refine wa_iconst fx (-1 : Int32) dX3_mend_44 (by decide) ?_
    refine wa_istore_n fx [(3, .int (-1 : Int32)), (2, .int z6), (0, .ref (ad 0)), (1, .int a1)] dX3_mend_45 rfl (by decide) rfl ?_
    refine wa_iconst fx (0 : Int32) dX3_mend_46 (by decide) ?_
    refine wa_istore fx [(4, .int (0 : Int32)), (3, .int (-1 : Int32)), (2, .int z6), (0, .ref (ad 0)), (1, .int a1)] dX3_mend_47 (by decide) rfl ?_
    refine wa_sub [3, 4, 2, 1, 0] rfl ?_
    exact B49 200 a1 z6 (-1 : Int32) (0 : Int32) w5 h
def f_X3_kind_b99 (k32 : (Int32) → (Int32) → (Int32) → (Int32) → (Int32) → (Nat → StT) → Option (Int32 × (Nat → StT))) (x27 : Int32) (x28 : Int32) (x29 : Int32) (x30 : Int32) (x31 : Int32) (w32 : Nat → StT) : Option (Int32 × (Nat → StT)) := nm (x31 + (1 : Int32)) fun x33 => k32 x27 x28 x29 x30 x33 w32
def f_X3_kind_b92 (k32 : (Int32) → (Int32) → (Int32) → (Int32) → (Int32) → (Nat → StT) → Option (Int32 × (Nat → StT))) (x22 : Int32) (x23 : Int32) (x24 : Int32) (x25 : Int32) (w26 : Nat → StT) : Option (Int32 × (Nat → StT)) := f_X3_kind_b99 k32 x22 x23 x24 x25 x24 w26
def f_X3_kind_l32 : Nat → (Int32) → (Int32) → (Int32) → (Int32) → (Int32) → (Nat → StT) → Option (Int32 × (Nat → StT))
  | 0, _, _, _, _, _, _ => none
  | n + 1, x10, x11, x12, x13, x14, w15 => if (6 : Int32) ≤ x14 then (some (x12, w15)) else (Option.bind (f_X0_become (w15 2, w15 1)) fun z16 => nm (gset (gset w15 2 z16.1) 1 z16.2) fun w17 => ck x10 8 (nm (gset w17 2 (setA (w17 2) 3 (upd ((w17 2).1 3) (Int32.toNatClampNeg x10) x14))) fun w18 => Option.bind (f_X0_pass (w18 2) x11) fun z19 => nm (gset w18 2 z19.2) fun w20 => Option.bind (f_X0_howWellNow (w20 2) x10) fun z21 => if x14 = 0 then (f_X3_kind_b92 (f_X3_kind_l32 n) x10 x11 x14 z21 w20) else (if z21 ≤ x13 then (f_X3_kind_b99 (f_X3_kind_l32 n) x10 x11 x12 x13 x14 w20) else (f_X3_kind_b92 (f_X3_kind_l32 n) x10 x11 x14 z21 w20))))
def f_X3_kind  (G : Nat → StT) (a1 : Int32) (a2 : Int32) : Option (Int32 × (Nat → StT)) := Option.bind (f_X3_isThere G a1) fun z1 => if z1 = 0 then (Option.bind (f_X3_finding G (0 : Int32)) fun z2 => some (z2.1, z2.2)) else (Option.bind (f_X3_isWithin a2 (0 : Int32) (30 : Int32)) fun z3 => if z3 = 0 then (Option.bind (f_X3_finding G (0 : Int32)) fun z34 => some (z34.1, z34.2)) else (f_X3_kind_l32 200 a1 a2 (0 : Int32) (0 : Int32) (0 : Int32) G))
set_option maxHeartbeats 4000000 in
set_option maxRecDepth 100000 in
theorem c_X3_kind {g : GT} {l : Launch} {ad : Nat → Nat}   {G : Nat → StT} {a1 : Int32} {a2 : Int32} {r : Int32 × (Nat → StT)} (h : f_X3_kind G a1 a2 = some r) : Ct g l yX3_kind (wd yX3_kind cX3_kind 7 (some .int)) (rmh 7) [.ref (ad 0), .int a1, .int a2] (wc_ws g ad G) (wc_ws g ad r.2) (some (.int r.1)) := by
  refine Ct.of (lv := [(0, .ref (ad 0)), (1, .int a1), (2, .int a2)]) (by decide) (Nat.le_of_ble_eq_true rfl) rfl (fun K hl fx hf => ?_)
  subst hl
  rw [f_X3_kind] at h
  have B99 : ∀ (k32 : (Int32) → (Int32) → (Int32) → (Int32) → (Int32) → (Nat → StT) → Option (Int32 × (Nat → StT))) (Hk32 : ∀ (y4 : Int32) (y5 : Int32) (y6 : Int32) (y7 : Int32) (y8 : Int32) (w9 : Nat → StT), k32 y4 y5 y6 y7 y8 w9 = some r → WA g K 7 0 0 32 [(0, .ref (ad 0)), (1, .int y4), (2, .int y5), (3, .int y6), (4, .int y7), (5, .int y8)] [] (wc_ws g ad w9)) (x27 : Int32) (x28 : Int32) (x29 : Int32) (x30 : Int32) (x31 : Int32) (w32 : Nat → StT), f_X3_kind_b99 k32 x27 x28 x29 x30 x31 w32 = some r → WA g K 7 0 0 99 [(0, .ref (ad 0)), (1, .int x27), (2, .int x28), (3, .int x29), (4, .int x30), (5, .int x31)] [] (wc_ws g ad w32) := by
    intro  k32 Hk32 x27 x28 x29 x30 x31 w32 h
    rw [f_X3_kind_b99] at h
    refine wa_iinc fx 5 (fun x33 => [(5, .int x33), (0, .ref (ad 0)), (1, .int x27), (2, .int x28), (3, .int x29), (4, .int x30)]) dX3_kind_99 rfl (by rfl) (by decide) (fun _ => rfl) h (fun x33 h => ?_)
    refine wa_goto fx 32 dX3_kind_102 (by decide) ?_
    refine wa_sub [1, 2, 3, 4, 5, 0] rfl ?_
    exact Hk32 x27 x28 x29 x30 x33 w32 h
  have B92 : ∀ (k32 : (Int32) → (Int32) → (Int32) → (Int32) → (Int32) → (Nat → StT) → Option (Int32 × (Nat → StT))) (Hk32 : ∀ (y4 : Int32) (y5 : Int32) (y6 : Int32) (y7 : Int32) (y8 : Int32) (w9 : Nat → StT), k32 y4 y5 y6 y7 y8 w9 = some r → WA g K 7 0 0 32 [(0, .ref (ad 0)), (1, .int y4), (2, .int y5), (3, .int y6), (4, .int y7), (5, .int y8)] [] (wc_ws g ad w9)) (x22 : Int32) (x23 : Int32) (x24 : Int32) (x25 : Int32) (w26 : Nat → StT), f_X3_kind_b92 k32 x22 x23 x24 x25 w26 = some r → WA g K 7 0 0 92 [(0, .ref (ad 0)), (1, .int x22), (2, .int x23), (5, .int x24), (6, .int x25)] [] (wc_ws g ad w26) := by
    intro  k32 Hk32 x22 x23 x24 x25 w26 h
    rw [f_X3_kind_b92] at h
    refine wa_iload fx 3 dX3_kind_92 rfl ?_
    refine wa_istore_n fx [(3, .int x24), (0, .ref (ad 0)), (1, .int x22), (2, .int x23), (5, .int x24), (6, .int x25)] dX3_kind_94 rfl (by decide) rfl ?_
    refine wa_iload fx 5 dX3_kind_95 rfl ?_
    refine wa_istore fx [(4, .int x25), (3, .int x24), (0, .ref (ad 0)), (1, .int x22), (2, .int x23), (5, .int x24), (6, .int x25)] dX3_kind_97 (by decide) rfl ?_
    refine wa_sub [2, 3, 4, 1, 0, 5] rfl ?_
    exact B99 k32 Hk32 x22 x23 x24 x25 x24 w26 h
  have B32 : ∀  (n : Nat) (x10 : Int32) (x11 : Int32) (x12 : Int32) (x13 : Int32) (x14 : Int32) (w15 : Nat → StT), f_X3_kind_l32 n x10 x11 x12 x13 x14 w15 = some r → WA g K 7 0 0 32 [(0, .ref (ad 0)), (1, .int x10), (2, .int x11), (3, .int x12), (4, .int x13), (5, .int x14)] [] (wc_ws g ad w15) := by
    intro   n
    induction n with
    | zero => intro x10 x11 x12 x13 x14 w15 h; exact absurd h (by rw [f_X3_kind_l32]; exact nofun)
    | succ n ih =>
      intro x10 x11 x12 x13 x14 w15 h
      rw [f_X3_kind_l32] at h
      refine wa_iload fx 5 dX3_kind_32 rfl ?_
      refine wa_bipush fx (6 : Int32) dX3_kind_34 (by decide) ?_
      refine wa_icmp_ge fx 105 dX3_kind_36 (by decide) h (fun h => ?_) (fun h => ?_)
      · refine wa_iload_n fx 3 dX3_kind_105 rfl ?_
        exact fn_i (wc_ws g ad) fx hf (sn1 h) (sn2 h) dX3_kind_106
      · refine wa_aload_n fx 0 dX3_kind_39 rfl ?_
        refine wa_get (v := .ref ((adr ad 11) 0)) fx wm_X3 0 rfl rfl 1 (by decide) q_1_17 rfl rfl dX3_kind_40 ?_
        refine wa_aload_n fx 0 dX3_kind_43 rfl ?_
        refine wa_get (v := .ref ((adr ad 1) 0)) fx wm_X3 0 rfl rfl 0 (by decide) q_1_16 rfl rfl dX3_kind_44 ?_
        refine wa_V (b := (adr ad 11) 0) (rmc := (rmh 2)) (As := [.ref ((adr ad 1) 0)]) (st := []) (wc := (bb_ws g (adr ad 11) (adr ad 1) (w15 2, w15 1))) (wr := (wr21 g ad w15)) (wcz := fun z16 => bb_ws g (adr ad 11) (adr ad 1) z16) (w2 := fun z16 => wc_ws g ad (gset (gset w15 2 z16.1) 1 z16.2)) (o := fun _ => none) (s2 := fun z16 => []) (ci := 0) (q0 := 0) fx mm_X0_become q_18_20 dX3_kind_47 h (fun _ hz => c_X0_become hz) rfl rfl (rm_ok (by decide) (by decide)) ⟨Nat.zero_le _, Nat.zero_le _⟩ rfl (sq21 g ad w15) (fun _ => sp21 g ad w15 _) rfl (Nat.le_of_ble_eq_true rfl) (fun _ => rfl) (fun z16 h => ?_)
        refine nm_w (wc_ws g ad) h (fun w17 h => ?_)
        refine wa_aload_n fx 0 dX3_kind_50 rfl ?_
        refine wa_get (v := .ref ((adr ad 11) 0)) fx wm_X3 0 rfl rfl 1 (by decide) q_1_17 rfl rfl dX3_kind_51 ?_
        refine wa_get (v := .ref ((adr ad 11) 4)) fx wm_X0 14 rfl rfl 3 (by decide) q_7_23 rfl rfl dX3_kind_54 ?_
        refine wa_iload_n fx 1 dX3_kind_57 rfl ?_
        refine wa_iload fx 5 dX3_kind_58 rfl ?_
        refine wa_iast (wc_ws g ad) (f := (w17 2).1 3) fx 18 rfl dX3_kind_60 h rfl (fun w18 h => ?_)
        refine wa_aload_n fx 0 dX3_kind_61 rfl ?_
        refine wa_get (v := .ref ((adr ad 11) 0)) fx wm_X3 0 rfl rfl 1 (by decide) q_1_17 rfl rfl dX3_kind_62 ?_
        refine wa_iload_n fx 2 dX3_kind_65 rfl ?_
        refine wa_V (b := (adr ad 11) 0) (rmc := (rmh 6)) (As := [.int x11]) (st := []) (wc := (rm_ws g (adr ad 11) (w18 2))) (wr := (wr2 g ad w18)) (wcz := fun z19 => rm_ws g (adr ad 11) z19.2) (w2 := fun z19 => wc_ws g ad (gset w18 2 z19.2)) (o := fun z19 => some (.int z19.1)) (s2 := fun z19 => [.int z19.1]) (ci := 0) (q0 := 0) fx mm_X0_pass q_15_13 dX3_kind_66 h (fun _ hz => c_X0_pass hz) rfl rfl (rm_ok (by decide) (by decide)) ⟨Nat.zero_le _, Nat.zero_le _⟩ rfl (sq2 g ad w18) (fun _ => sp2 g ad w18 _) rfl (Nat.le_of_ble_eq_true rfl) (fun _ => rfl) (fun z19 h => ?_)
        refine nm_w (wc_ws g ad) h (fun w20 h => ?_)
        refine wa_pop fx dX3_kind_69 rfl ?_
        refine wa_aload_n fx 0 dX3_kind_70 rfl ?_
        refine wa_get (v := .ref ((adr ad 11) 0)) fx wm_X3 0 rfl rfl 1 (by decide) q_1_17 rfl rfl dX3_kind_71 ?_
        refine wa_iload_n fx 1 dX3_kind_74 rfl ?_
        refine wa_V (b := (adr ad 11) 0) (rmc := (rmh 4)) (As := [.int x10]) (st := []) (wc := (rm_ws g (adr ad 11) (w20 2))) (wr := (wr2 g ad w20)) (wcz := fun _ => (rm_ws g (adr ad 11) (w20 2))) (w2 := fun _ => (wc_ws g ad w20)) (o := fun z21 => some (.int z21)) (s2 := fun z21 => [.int z21]) (ci := 0) (q0 := 0) fx mm_X0_howWellNow q_22_15 dX3_kind_75 h (fun _ hz => c_X0_howWellNow hz) rfl rfl (rm_ok (by decide) (by decide)) ⟨Nat.zero_le _, Nat.zero_le _⟩ rfl (sq2 g ad w20) (fun _ => (sq2 g ad w20)) rfl (Nat.le_of_ble_eq_true rfl) (fun _ => rfl) (fun z21 h => ?_)
        refine wa_istore fx [(6, .int z21), (0, .ref (ad 0)), (1, .int x10), (2, .int x11), (3, .int x12), (4, .int x13), (5, .int x14)] dX3_kind_78 (by decide) rfl ?_
        refine wa_iload fx 6 dX3_kind_80 rfl ?_
        refine wa_if_eq fx 92 dX3_kind_82 (by decide) h (fun h => ?_) (fun h => ?_)
        · refine wa_sub [1, 2, 3, 6, 0] rfl ?_
          exact B92 (f_X3_kind_l32 n) ih x10 x11 x14 z21 w20 h
        · refine wa_iload fx 0 dX3_kind_85 rfl ?_
          refine wa_iload fx 5 dX3_kind_87 rfl ?_
          refine wa_icmp_le fx 99 dX3_kind_89 (by decide) h (fun h => ?_) (fun h => ?_)
          · refine wa_sub [1, 2, 3, 4, 5, 6] rfl ?_
            exact B99 (f_X3_kind_l32 n) ih x10 x11 x12 x13 x14 w20 h
          · refine wa_sub [1, 2, 3, 6, 0] rfl ?_
            exact B92 (f_X3_kind_l32 n) ih x10 x11 x14 z21 w20 h
  refine wa_aload_n fx 0 dX3_kind_0 rfl ?_
  refine wa_iload_n fx 1 dX3_kind_1 rfl ?_
  refine wa_V (b := ad 0) (rmc := (rmh 2)) (As := [.int a1]) (st := []) (wc := (wc_ws g ad G)) (wr := ([] : va_W)) (wcz := fun _ => (wc_ws g ad G)) (w2 := fun _ => (wc_ws g ad G)) (o := fun z1 => some (.int z1)) (s2 := fun z1 => [.int z1]) (ci := 3) (q0 := 0) fx mm_X3_isThere q_8_5 dX3_kind_2 h (fun _ hz => c_X3_isThere hz) rfl rfl (rm_ok (by decide) (by decide)) ⟨Nat.zero_le _, Nat.zero_le _⟩ rfl (List.Perm.refl _) (fun _ => (List.Perm.refl _)) rfl (Nat.le_of_ble_eq_true rfl) (fun _ => rfl) (fun z1 h => ?_)
  refine wa_if_eq fx 18 dX3_kind_5 (by decide) h (fun h => ?_) (fun h => ?_)
  · refine wa_aload_n fx 0 dX3_kind_18 rfl ?_
    refine wa_iconst fx (0 : Int32) dX3_kind_19 (by decide) ?_
    refine wa_V (b := ad 0) (rmc := (rmh 1)) (As := [.int (0 : Int32)]) (st := []) (wc := (wc_ws g ad G)) (wr := ([] : va_W)) (wcz := fun z2 => wc_ws g ad z2.2) (w2 := fun z2 => wc_ws g ad z2.2) (o := fun z2 => some (.int z2.1)) (s2 := fun z2 => [.int z2.1]) (ci := 3) (q0 := 0) fx mm_X3_finding q_4_17 dX3_kind_20 h (fun _ hz => c_X3_finding hz) rfl rfl (rm_ok (by decide) (by decide)) ⟨Nat.zero_le _, Nat.zero_le _⟩ rfl (List.Perm.refl _) (fun _ => List.Perm.refl _) rfl (Nat.le_of_ble_eq_true rfl) (fun _ => rfl) (fun z2 h => ?_)
    exact fn_i (wc_ws g ad) fx hf (sn1 h) (sn2 h) dX3_kind_23
  · refine wa_iload_n fx 2 dX3_kind_8 rfl ?_
    refine wa_iconst fx (0 : Int32) dX3_kind_9 (by decide) ?_
    refine wa_bipush fx (30 : Int32) dX3_kind_10 (by decide) ?_
    refine wa_S (rmc := (rmh 1)) (As := [.int a2, .int (0 : Int32), .int (30 : Int32)]) (st := []) (wc := (no_ws ())) (wr := (wc_ws g ad G)) (wcz := fun _ => (no_ws ())) (w2 := fun _ => (wc_ws g ad G)) (o := fun z3 => some (.int z3)) (s2 := fun z3 => [.int z3]) fx mm_X3_isWithin q_4_14 dX3_kind_12 h (fun _ hz => c_X3_isWithin hz) (rm_ok (by decide) (by decide)) ⟨Nat.zero_le _, Nat.zero_le _⟩ rfl (List.Perm.of_eq (List.append_nil _).symm) (fun _ => (List.Perm.of_eq (List.append_nil _).symm)) rfl (Nat.le_of_ble_eq_true rfl) (fun _ => rfl) (fun z3 h => ?_)
    refine wa_if_ne fx 24 dX3_kind_15 (by decide) h (fun h => ?_) (fun h => ?_)
    · refine wa_aload_n fx 0 dX3_kind_18 rfl ?_
      refine wa_iconst fx (0 : Int32) dX3_kind_19 (by decide) ?_
      refine wa_V (b := ad 0) (rmc := (rmh 1)) (As := [.int (0 : Int32)]) (st := []) (wc := (wc_ws g ad G)) (wr := ([] : va_W)) (wcz := fun z34 => wc_ws g ad z34.2) (w2 := fun z34 => wc_ws g ad z34.2) (o := fun z34 => some (.int z34.1)) (s2 := fun z34 => [.int z34.1]) (ci := 3) (q0 := 0) fx mm_X3_finding q_4_17 dX3_kind_20 h (fun _ hz => c_X3_finding hz) rfl rfl (rm_ok (by decide) (by decide)) ⟨Nat.zero_le _, Nat.zero_le _⟩ rfl (List.Perm.refl _) (fun _ => List.Perm.refl _) rfl (Nat.le_of_ble_eq_true rfl) (fun _ => rfl) (fun z34 h => ?_)
      exact fn_i (wc_ws g ad) fx hf (sn1 h) (sn2 h) dX3_kind_23
    · refine wa_iconst fx (0 : Int32) dX3_kind_24 (by decide) ?_
      refine wa_istore_n fx [(3, .int (0 : Int32)), (0, .ref (ad 0)), (1, .int a1), (2, .int a2)] dX3_kind_25 rfl (by decide) rfl ?_
      refine wa_iconst fx (0 : Int32) dX3_kind_26 (by decide) ?_
      refine wa_istore fx [(4, .int (0 : Int32)), (3, .int (0 : Int32)), (0, .ref (ad 0)), (1, .int a1), (2, .int a2)] dX3_kind_27 (by decide) rfl ?_
      refine wa_iconst fx (0 : Int32) dX3_kind_29 (by decide) ?_
      refine wa_istore fx [(5, .int (0 : Int32)), (4, .int (0 : Int32)), (3, .int (0 : Int32)), (0, .ref (ad 0)), (1, .int a1), (2, .int a2)] dX3_kind_30 (by decide) rfl ?_
      refine wa_sub [3, 4, 5, 2, 1, 0] rfl ?_
      exact B32 200 a1 a2 (0 : Int32) (0 : Int32) (0 : Int32) G h
def f_X3_claim_b100 (k32 : (Int32) → (Int32) → (Int32) → (Int32) → (Int32) → (Nat → StT) → Option (Int32 × (Nat → StT))) (x27 : Int32) (x28 : Int32) (x29 : Int32) (x30 : Int32) (x31 : Int32) (w32 : Nat → StT) : Option (Int32 × (Nat → StT)) := nm (x31 + (1 : Int32)) fun x33 => k32 x27 x28 x29 x30 x33 w32
def f_X3_claim_b93 (k32 : (Int32) → (Int32) → (Int32) → (Int32) → (Int32) → (Nat → StT) → Option (Int32 × (Nat → StT))) (x22 : Int32) (x23 : Int32) (x24 : Int32) (x25 : Int32) (w26 : Nat → StT) : Option (Int32 × (Nat → StT)) := f_X3_claim_b100 k32 x22 x23 x24 x25 x24 w26
def f_X3_claim_l32 : Nat → (Int32) → (Int32) → (Int32) → (Int32) → (Int32) → (Nat → StT) → Option (Int32 × (Nat → StT))
  | 0, _, _, _, _, _, _ => none
  | n + 1, x10, x11, x12, x13, x14, w15 => if (8 : Int32) ≤ x14 then (some (((1 : Int32) + x12), w15)) else (Option.bind (f_X0_become (w15 2, w15 1)) fun z16 => nm (gset (gset w15 2 z16.1) 1 z16.2) fun w17 => ck x10 8 (nm (gset w17 2 (setA (w17 2) 5 (upd ((w17 2).1 5) (Int32.toNatClampNeg x10) x14))) fun w18 => Option.bind (f_X0_pass (w18 2) x11) fun z19 => nm (gset w18 2 z19.2) fun w20 => Option.bind (f_X0_howWellNow (w20 2) x10) fun z21 => if x14 = (-1 : Int32) then (f_X3_claim_b93 (f_X3_claim_l32 n) x10 x11 x14 z21 w20) else (if z21 ≤ x13 then (f_X3_claim_b100 (f_X3_claim_l32 n) x10 x11 x12 x13 x14 w20) else (f_X3_claim_b93 (f_X3_claim_l32 n) x10 x11 x14 z21 w20))))
def f_X3_claim  (G : Nat → StT) (a1 : Int32) (a2 : Int32) : Option (Int32 × (Nat → StT)) := Option.bind (f_X3_isThere G a1) fun z1 => if z1 = 0 then (Option.bind (f_X3_finding G (0 : Int32)) fun z2 => some (z2.1, z2.2)) else (Option.bind (f_X3_isWithin a2 (0 : Int32) (30 : Int32)) fun z3 => if z3 = 0 then (Option.bind (f_X3_finding G (0 : Int32)) fun z34 => some (z34.1, z34.2)) else (f_X3_claim_l32 200 a1 a2 (-1 : Int32) (0 : Int32) (-1 : Int32) G))
set_option maxHeartbeats 4000000 in
set_option maxRecDepth 100000 in
theorem c_X3_claim {g : GT} {l : Launch} {ad : Nat → Nat}   {G : Nat → StT} {a1 : Int32} {a2 : Int32} {r : Int32 × (Nat → StT)} (h : f_X3_claim G a1 a2 = some r) : Ct g l yX3_claim (wd yX3_claim cX3_claim 7 (some .int)) (rmh 7) [.ref (ad 0), .int a1, .int a2] (wc_ws g ad G) (wc_ws g ad r.2) (some (.int r.1)) := by
  refine Ct.of (lv := [(0, .ref (ad 0)), (1, .int a1), (2, .int a2)]) (by decide) (Nat.le_of_ble_eq_true rfl) rfl (fun K hl fx hf => ?_)
  subst hl
  rw [f_X3_claim] at h
  have B100 : ∀ (k32 : (Int32) → (Int32) → (Int32) → (Int32) → (Int32) → (Nat → StT) → Option (Int32 × (Nat → StT))) (Hk32 : ∀ (y4 : Int32) (y5 : Int32) (y6 : Int32) (y7 : Int32) (y8 : Int32) (w9 : Nat → StT), k32 y4 y5 y6 y7 y8 w9 = some r → WA g K 7 0 0 32 [(0, .ref (ad 0)), (1, .int y4), (2, .int y5), (3, .int y6), (4, .int y7), (5, .int y8)] [] (wc_ws g ad w9)) (x27 : Int32) (x28 : Int32) (x29 : Int32) (x30 : Int32) (x31 : Int32) (w32 : Nat → StT), f_X3_claim_b100 k32 x27 x28 x29 x30 x31 w32 = some r → WA g K 7 0 0 100 [(0, .ref (ad 0)), (1, .int x27), (2, .int x28), (3, .int x29), (4, .int x30), (5, .int x31)] [] (wc_ws g ad w32) := by
    intro  k32 Hk32 x27 x28 x29 x30 x31 w32 h
    rw [f_X3_claim_b100] at h
    refine wa_iinc fx 5 (fun x33 => [(5, .int x33), (0, .ref (ad 0)), (1, .int x27), (2, .int x28), (3, .int x29), (4, .int x30)]) dX3_claim_100 rfl (by rfl) (by decide) (fun _ => rfl) h (fun x33 h => ?_)
    refine wa_goto fx 32 dX3_claim_103 (by decide) ?_
    refine wa_sub [1, 2, 3, 4, 5, 0] rfl ?_
    exact Hk32 x27 x28 x29 x30 x33 w32 h
  have B93 : ∀ (k32 : (Int32) → (Int32) → (Int32) → (Int32) → (Int32) → (Nat → StT) → Option (Int32 × (Nat → StT))) (Hk32 : ∀ (y4 : Int32) (y5 : Int32) (y6 : Int32) (y7 : Int32) (y8 : Int32) (w9 : Nat → StT), k32 y4 y5 y6 y7 y8 w9 = some r → WA g K 7 0 0 32 [(0, .ref (ad 0)), (1, .int y4), (2, .int y5), (3, .int y6), (4, .int y7), (5, .int y8)] [] (wc_ws g ad w9)) (x22 : Int32) (x23 : Int32) (x24 : Int32) (x25 : Int32) (w26 : Nat → StT), f_X3_claim_b93 k32 x22 x23 x24 x25 w26 = some r → WA g K 7 0 0 93 [(0, .ref (ad 0)), (1, .int x22), (2, .int x23), (5, .int x24), (6, .int x25)] [] (wc_ws g ad w26) := by
    intro  k32 Hk32 x22 x23 x24 x25 w26 h
    rw [f_X3_claim_b93] at h
    refine wa_iload fx 3 dX3_claim_93 rfl ?_
    refine wa_istore_n fx [(3, .int x24), (0, .ref (ad 0)), (1, .int x22), (2, .int x23), (5, .int x24), (6, .int x25)] dX3_claim_95 rfl (by decide) rfl ?_
    refine wa_iload fx 5 dX3_claim_96 rfl ?_
    refine wa_istore fx [(4, .int x25), (3, .int x24), (0, .ref (ad 0)), (1, .int x22), (2, .int x23), (5, .int x24), (6, .int x25)] dX3_claim_98 (by decide) rfl ?_
    refine wa_sub [2, 3, 4, 1, 0, 5] rfl ?_
    exact B100 k32 Hk32 x22 x23 x24 x25 x24 w26 h
  have B32 : ∀  (n : Nat) (x10 : Int32) (x11 : Int32) (x12 : Int32) (x13 : Int32) (x14 : Int32) (w15 : Nat → StT), f_X3_claim_l32 n x10 x11 x12 x13 x14 w15 = some r → WA g K 7 0 0 32 [(0, .ref (ad 0)), (1, .int x10), (2, .int x11), (3, .int x12), (4, .int x13), (5, .int x14)] [] (wc_ws g ad w15) := by
    intro   n
    induction n with
    | zero => intro x10 x11 x12 x13 x14 w15 h; exact absurd h (by rw [f_X3_claim_l32]; exact nofun)
    | succ n ih =>
      intro x10 x11 x12 x13 x14 w15 h
      rw [f_X3_claim_l32] at h
      refine wa_iload fx 5 dX3_claim_32 rfl ?_
      refine wa_bipush fx (8 : Int32) dX3_claim_34 (by decide) ?_
      refine wa_icmp_ge fx 106 dX3_claim_36 (by decide) h (fun h => ?_) (fun h => ?_)
      · refine wa_iconst fx (1 : Int32) dX3_claim_106 (by decide) ?_
        refine wa_iload_n fx 3 dX3_claim_107 rfl ?_
        refine wa_iadd fx dX3_claim_108 ?_
        exact fn_i (wc_ws g ad) fx hf (sn1 h) (sn2 h) dX3_claim_109
      · refine wa_aload_n fx 0 dX3_claim_39 rfl ?_
        refine wa_get (v := .ref ((adr ad 11) 0)) fx wm_X3 0 rfl rfl 1 (by decide) q_1_17 rfl rfl dX3_claim_40 ?_
        refine wa_aload_n fx 0 dX3_claim_43 rfl ?_
        refine wa_get (v := .ref ((adr ad 1) 0)) fx wm_X3 0 rfl rfl 0 (by decide) q_1_16 rfl rfl dX3_claim_44 ?_
        refine wa_V (b := (adr ad 11) 0) (rmc := (rmh 2)) (As := [.ref ((adr ad 1) 0)]) (st := []) (wc := (bb_ws g (adr ad 11) (adr ad 1) (w15 2, w15 1))) (wr := (wr21 g ad w15)) (wcz := fun z16 => bb_ws g (adr ad 11) (adr ad 1) z16) (w2 := fun z16 => wc_ws g ad (gset (gset w15 2 z16.1) 1 z16.2)) (o := fun _ => none) (s2 := fun z16 => []) (ci := 0) (q0 := 0) fx mm_X0_become q_18_20 dX3_claim_47 h (fun _ hz => c_X0_become hz) rfl rfl (rm_ok (by decide) (by decide)) ⟨Nat.zero_le _, Nat.zero_le _⟩ rfl (sq21 g ad w15) (fun _ => sp21 g ad w15 _) rfl (Nat.le_of_ble_eq_true rfl) (fun _ => rfl) (fun z16 h => ?_)
        refine nm_w (wc_ws g ad) h (fun w17 h => ?_)
        refine wa_aload_n fx 0 dX3_claim_50 rfl ?_
        refine wa_get (v := .ref ((adr ad 11) 0)) fx wm_X3 0 rfl rfl 1 (by decide) q_1_17 rfl rfl dX3_claim_51 ?_
        refine wa_get (v := .ref ((adr ad 11) 6)) fx wm_X0 14 rfl rfl 5 (by decide) q_8_1 rfl rfl dX3_claim_54 ?_
        refine wa_iload_n fx 1 dX3_claim_57 rfl ?_
        refine wa_iload fx 5 dX3_claim_58 rfl ?_
        refine wa_iast (wc_ws g ad) (f := (w17 2).1 5) fx 20 rfl dX3_claim_60 h rfl (fun w18 h => ?_)
        refine wa_aload_n fx 0 dX3_claim_61 rfl ?_
        refine wa_get (v := .ref ((adr ad 11) 0)) fx wm_X3 0 rfl rfl 1 (by decide) q_1_17 rfl rfl dX3_claim_62 ?_
        refine wa_iload_n fx 2 dX3_claim_65 rfl ?_
        refine wa_V (b := (adr ad 11) 0) (rmc := (rmh 6)) (As := [.int x11]) (st := []) (wc := (rm_ws g (adr ad 11) (w18 2))) (wr := (wr2 g ad w18)) (wcz := fun z19 => rm_ws g (adr ad 11) z19.2) (w2 := fun z19 => wc_ws g ad (gset w18 2 z19.2)) (o := fun z19 => some (.int z19.1)) (s2 := fun z19 => [.int z19.1]) (ci := 0) (q0 := 0) fx mm_X0_pass q_15_13 dX3_claim_66 h (fun _ hz => c_X0_pass hz) rfl rfl (rm_ok (by decide) (by decide)) ⟨Nat.zero_le _, Nat.zero_le _⟩ rfl (sq2 g ad w18) (fun _ => sp2 g ad w18 _) rfl (Nat.le_of_ble_eq_true rfl) (fun _ => rfl) (fun z19 h => ?_)
        refine nm_w (wc_ws g ad) h (fun w20 h => ?_)
        refine wa_pop fx dX3_claim_69 rfl ?_
        refine wa_aload_n fx 0 dX3_claim_70 rfl ?_
        refine wa_get (v := .ref ((adr ad 11) 0)) fx wm_X3 0 rfl rfl 1 (by decide) q_1_17 rfl rfl dX3_claim_71 ?_
        refine wa_iload_n fx 1 dX3_claim_74 rfl ?_
        refine wa_V (b := (adr ad 11) 0) (rmc := (rmh 4)) (As := [.int x10]) (st := []) (wc := (rm_ws g (adr ad 11) (w20 2))) (wr := (wr2 g ad w20)) (wcz := fun _ => (rm_ws g (adr ad 11) (w20 2))) (w2 := fun _ => (wc_ws g ad w20)) (o := fun z21 => some (.int z21)) (s2 := fun z21 => [.int z21]) (ci := 0) (q0 := 0) fx mm_X0_howWellNow q_22_15 dX3_claim_75 h (fun _ hz => c_X0_howWellNow hz) rfl rfl (rm_ok (by decide) (by decide)) ⟨Nat.zero_le _, Nat.zero_le _⟩ rfl (sq2 g ad w20) (fun _ => (sq2 g ad w20)) rfl (Nat.le_of_ble_eq_true rfl) (fun _ => rfl) (fun z21 h => ?_)
        refine wa_istore fx [(6, .int z21), (0, .ref (ad 0)), (1, .int x10), (2, .int x11), (3, .int x12), (4, .int x13), (5, .int x14)] dX3_claim_78 (by decide) rfl ?_
        refine wa_iload fx 6 dX3_claim_80 rfl ?_
        refine wa_iconst fx (-1 : Int32) dX3_claim_82 (by decide) ?_
        refine wa_icmp_eq fx 93 dX3_claim_83 (by decide) h (fun h => ?_) (fun h => ?_)
        · refine wa_sub [1, 2, 3, 6, 0] rfl ?_
          exact B93 (f_X3_claim_l32 n) ih x10 x11 x14 z21 w20 h
        · refine wa_iload fx 0 dX3_claim_86 rfl ?_
          refine wa_iload fx 5 dX3_claim_88 rfl ?_
          refine wa_icmp_le fx 100 dX3_claim_90 (by decide) h (fun h => ?_) (fun h => ?_)
          · refine wa_sub [1, 2, 3, 4, 5, 6] rfl ?_
            exact B100 (f_X3_claim_l32 n) ih x10 x11 x12 x13 x14 w20 h
          · refine wa_sub [1, 2, 3, 6, 0] rfl ?_
            exact B93 (f_X3_claim_l32 n) ih x10 x11 x14 z21 w20 h
  refine wa_aload_n fx 0 dX3_claim_0 rfl ?_
  refine wa_iload_n fx 1 dX3_claim_1 rfl ?_
  refine wa_V (b := ad 0) (rmc := (rmh 2)) (As := [.int a1]) (st := []) (wc := (wc_ws g ad G)) (wr := ([] : va_W)) (wcz := fun _ => (wc_ws g ad G)) (w2 := fun _ => (wc_ws g ad G)) (o := fun z1 => some (.int z1)) (s2 := fun z1 => [.int z1]) (ci := 3) (q0 := 0) fx mm_X3_isThere q_8_5 dX3_claim_2 h (fun _ hz => c_X3_isThere hz) rfl rfl (rm_ok (by decide) (by decide)) ⟨Nat.zero_le _, Nat.zero_le _⟩ rfl (List.Perm.refl _) (fun _ => (List.Perm.refl _)) rfl (Nat.le_of_ble_eq_true rfl) (fun _ => rfl) (fun z1 h => ?_)
  refine wa_if_eq fx 18 dX3_claim_5 (by decide) h (fun h => ?_) (fun h => ?_)
  · refine wa_aload_n fx 0 dX3_claim_18 rfl ?_
    refine wa_iconst fx (0 : Int32) dX3_claim_19 (by decide) ?_
    refine wa_V (b := ad 0) (rmc := (rmh 1)) (As := [.int (0 : Int32)]) (st := []) (wc := (wc_ws g ad G)) (wr := ([] : va_W)) (wcz := fun z2 => wc_ws g ad z2.2) (w2 := fun z2 => wc_ws g ad z2.2) (o := fun z2 => some (.int z2.1)) (s2 := fun z2 => [.int z2.1]) (ci := 3) (q0 := 0) fx mm_X3_finding q_4_17 dX3_claim_20 h (fun _ hz => c_X3_finding hz) rfl rfl (rm_ok (by decide) (by decide)) ⟨Nat.zero_le _, Nat.zero_le _⟩ rfl (List.Perm.refl _) (fun _ => List.Perm.refl _) rfl (Nat.le_of_ble_eq_true rfl) (fun _ => rfl) (fun z2 h => ?_)
    exact fn_i (wc_ws g ad) fx hf (sn1 h) (sn2 h) dX3_claim_23
  · refine wa_iload_n fx 2 dX3_claim_8 rfl ?_
    refine wa_iconst fx (0 : Int32) dX3_claim_9 (by decide) ?_
    refine wa_bipush fx (30 : Int32) dX3_claim_10 (by decide) ?_
    refine wa_S (rmc := (rmh 1)) (As := [.int a2, .int (0 : Int32), .int (30 : Int32)]) (st := []) (wc := (no_ws ())) (wr := (wc_ws g ad G)) (wcz := fun _ => (no_ws ())) (w2 := fun _ => (wc_ws g ad G)) (o := fun z3 => some (.int z3)) (s2 := fun z3 => [.int z3]) fx mm_X3_isWithin q_4_14 dX3_claim_12 h (fun _ hz => c_X3_isWithin hz) (rm_ok (by decide) (by decide)) ⟨Nat.zero_le _, Nat.zero_le _⟩ rfl (List.Perm.of_eq (List.append_nil _).symm) (fun _ => (List.Perm.of_eq (List.append_nil _).symm)) rfl (Nat.le_of_ble_eq_true rfl) (fun _ => rfl) (fun z3 h => ?_)
    refine wa_if_ne fx 24 dX3_claim_15 (by decide) h (fun h => ?_) (fun h => ?_)
    · refine wa_aload_n fx 0 dX3_claim_18 rfl ?_
      refine wa_iconst fx (0 : Int32) dX3_claim_19 (by decide) ?_
      refine wa_V (b := ad 0) (rmc := (rmh 1)) (As := [.int (0 : Int32)]) (st := []) (wc := (wc_ws g ad G)) (wr := ([] : va_W)) (wcz := fun z34 => wc_ws g ad z34.2) (w2 := fun z34 => wc_ws g ad z34.2) (o := fun z34 => some (.int z34.1)) (s2 := fun z34 => [.int z34.1]) (ci := 3) (q0 := 0) fx mm_X3_finding q_4_17 dX3_claim_20 h (fun _ hz => c_X3_finding hz) rfl rfl (rm_ok (by decide) (by decide)) ⟨Nat.zero_le _, Nat.zero_le _⟩ rfl (List.Perm.refl _) (fun _ => List.Perm.refl _) rfl (Nat.le_of_ble_eq_true rfl) (fun _ => rfl) (fun z34 h => ?_)
      exact fn_i (wc_ws g ad) fx hf (sn1 h) (sn2 h) dX3_claim_23
    · refine wa_iconst fx (-1 : Int32) dX3_claim_24 (by decide) ?_
      refine wa_istore_n fx [(3, .int (-1 : Int32)), (0, .ref (ad 0)), (1, .int a1), (2, .int a2)] dX3_claim_25 rfl (by decide) rfl ?_
      refine wa_iconst fx (0 : Int32) dX3_claim_26 (by decide) ?_
      refine wa_istore fx [(4, .int (0 : Int32)), (3, .int (-1 : Int32)), (0, .ref (ad 0)), (1, .int a1), (2, .int a2)] dX3_claim_27 (by decide) rfl ?_
      refine wa_iconst fx (-1 : Int32) dX3_claim_29 (by decide) ?_
      refine wa_istore fx [(5, .int (-1 : Int32)), (4, .int (0 : Int32)), (3, .int (-1 : Int32)), (0, .ref (ad 0)), (1, .int a1), (2, .int a2)] dX3_claim_30 (by decide) rfl ?_
      refine wa_sub [3, 4, 5, 2, 1, 0] rfl ?_
      exact B32 200 a1 a2 (-1 : Int32) (0 : Int32) (-1 : Int32) G h
def f_X3_years_b103 (k34 : (Int32) → (Int32) → (Int32) → (Int32) → (Nat → StT) → Option (Int32 × (Nat → StT))) (x27 : Int32) (x28 : Int32) (x29 : Int32) (x30 : Int32) (w31 : Nat → StT) : Option (Int32 × (Nat → StT)) := nm (x30 + (1 : Int32)) fun x32 => k34 x27 x28 x29 x32 w31
def f_X3_years_b56 (k34 : (Int32) → (Int32) → (Int32) → (Int32) → (Nat → StT) → Option (Int32 × (Nat → StT))) (x17 : Int32) (x18 : Int32) (x19 : Int32) (x20 : Int32) (w21 : Nat → StT) : Option (Int32 × (Nat → StT)) := Option.bind (f_X0_become (w21 2, w21 1)) fun z22 => nm (gset (gset w21 2 z22.1) 1 z22.2) fun w23 => ck x17 8 (nm (gset w23 2 (setA (w23 2) 4 (upd ((w23 2).1 4) (Int32.toNatClampNeg x17) x20))) fun w24 => Option.bind (f_X0_pass (w24 2) x19) fun z25 => nm (gset w24 2 z25.2) fun w26 => ck x17 8 (if ((w26 2).1 8 (Int32.toNatClampNeg x17)) = x18 then (some (x20, w26)) else (f_X3_years_b103 k34 x17 x18 x19 x20 w26)))
def f_X3_years_l34 : Nat → (Int32) → (Int32) → (Int32) → (Int32) → (Nat → StT) → Option (Int32 × (Nat → StT))
  | 0, _, _, _, _, _ => none
  | n + 1, x11, x12, x13, x14, w15 => if (99 : Int32) < x14 then (Option.bind (f_X3_finding w15 (3 : Int32)) fun z16 => some (z16.1, z16.2)) else (if (x14 - x14 / (4 : Int32) * (4 : Int32)) = 0 then (f_X3_years_b56 (f_X3_years_l34 n) x11 x12 x13 x14 w15) else (if (x14 - x14 / (10 : Int32) * (10 : Int32)) = 0 then (f_X3_years_b56 (f_X3_years_l34 n) x11 x12 x13 x14 w15) else (f_X3_years_b103 (f_X3_years_l34 n) x11 x12 x13 x14 w15)))
def f_X3_years  (G : Nat → StT) (a1 : Int32) (a2 : Int32) (a3 : Int32) : Option (Int32 × (Nat → StT)) := Option.bind (f_X3_isThere G a1) fun z1 => if z1 = 0 then (Option.bind (f_X3_finding G (0 : Int32)) fun z2 => some (z2.1, z2.2)) else (Option.bind (f_X3_isChair a2) fun z3 => if z3 = 0 then (Option.bind (f_X3_finding G (0 : Int32)) fun z4 => some (z4.1, z4.2)) else (Option.bind (f_X3_isWithin a3 (1 : Int32) (30 : Int32)) fun z5 => if z5 = 0 then (Option.bind (f_X3_finding G (0 : Int32)) fun z33 => some (z33.1, z33.2)) else (f_X3_years_l34 200 a1 a2 a3 (0 : Int32) G)))
set_option maxHeartbeats 4000000 in
set_option maxRecDepth 100000 in
theorem c_X3_years {g : GT} {l : Launch} {ad : Nat → Nat}   {G : Nat → StT} {a1 : Int32} {a2 : Int32} {a3 : Int32} {r : Int32 × (Nat → StT)} (h : f_X3_years G a1 a2 a3 = some r) : Ct g l yX3_years (wd yX3_years cX3_years 5 (some .int)) (rmh 7) [.ref (ad 0), .int a1, .int a2, .int a3] (wc_ws g ad G) (wc_ws g ad r.2) (some (.int r.1)) := by
  refine Ct.of (lv := [(0, .ref (ad 0)), (1, .int a1), (2, .int a2), (3, .int a3)]) (by decide) (Nat.le_of_ble_eq_true rfl) rfl (fun K hl fx hf => ?_)
  subst hl
  rw [f_X3_years] at h
  have B103 : ∀ (k34 : (Int32) → (Int32) → (Int32) → (Int32) → (Nat → StT) → Option (Int32 × (Nat → StT))) (Hk34 : ∀ (y6 : Int32) (y7 : Int32) (y8 : Int32) (y9 : Int32) (w10 : Nat → StT), k34 y6 y7 y8 y9 w10 = some r → WA g K 5 0 0 34 [(0, .ref (ad 0)), (1, .int y6), (2, .int y7), (3, .int y8), (4, .int y9)] [] (wc_ws g ad w10)) (x27 : Int32) (x28 : Int32) (x29 : Int32) (x30 : Int32) (w31 : Nat → StT), f_X3_years_b103 k34 x27 x28 x29 x30 w31 = some r → WA g K 5 0 0 103 [(0, .ref (ad 0)), (1, .int x27), (2, .int x28), (3, .int x29), (4, .int x30)] [] (wc_ws g ad w31) := by
    intro  k34 Hk34 x27 x28 x29 x30 w31 h
    rw [f_X3_years_b103] at h
    refine wa_iinc fx 4 (fun x32 => [(4, .int x32), (0, .ref (ad 0)), (1, .int x27), (2, .int x28), (3, .int x29)]) dX3_years_103 rfl (by rfl) (by decide) (fun _ => rfl) h (fun x32 h => ?_)
    refine wa_goto fx 34 dX3_years_106 (by decide) ?_
    refine wa_sub [1, 2, 3, 4, 0] rfl ?_
    exact Hk34 x27 x28 x29 x32 w31 h
  have B56 : ∀ (k34 : (Int32) → (Int32) → (Int32) → (Int32) → (Nat → StT) → Option (Int32 × (Nat → StT))) (Hk34 : ∀ (y6 : Int32) (y7 : Int32) (y8 : Int32) (y9 : Int32) (w10 : Nat → StT), k34 y6 y7 y8 y9 w10 = some r → WA g K 5 0 0 34 [(0, .ref (ad 0)), (1, .int y6), (2, .int y7), (3, .int y8), (4, .int y9)] [] (wc_ws g ad w10)) (x17 : Int32) (x18 : Int32) (x19 : Int32) (x20 : Int32) (w21 : Nat → StT), f_X3_years_b56 k34 x17 x18 x19 x20 w21 = some r → WA g K 5 0 0 56 [(0, .ref (ad 0)), (1, .int x17), (2, .int x18), (3, .int x19), (4, .int x20)] [] (wc_ws g ad w21) := by
    intro  k34 Hk34 x17 x18 x19 x20 w21 h
    rw [f_X3_years_b56] at h
    refine wa_aload_n fx 0 dX3_years_56 rfl ?_
    refine wa_get (v := .ref ((adr ad 11) 0)) fx wm_X3 0 rfl rfl 1 (by decide) q_1_17 rfl rfl dX3_years_57 ?_
    refine wa_aload_n fx 0 dX3_years_60 rfl ?_
    refine wa_get (v := .ref ((adr ad 1) 0)) fx wm_X3 0 rfl rfl 0 (by decide) q_1_16 rfl rfl dX3_years_61 ?_
    refine wa_V (b := (adr ad 11) 0) (rmc := (rmh 2)) (As := [.ref ((adr ad 1) 0)]) (st := []) (wc := (bb_ws g (adr ad 11) (adr ad 1) (w21 2, w21 1))) (wr := (wr21 g ad w21)) (wcz := fun z22 => bb_ws g (adr ad 11) (adr ad 1) z22) (w2 := fun z22 => wc_ws g ad (gset (gset w21 2 z22.1) 1 z22.2)) (o := fun _ => none) (s2 := fun z22 => []) (ci := 0) (q0 := 0) fx mm_X0_become q_18_20 dX3_years_64 h (fun _ hz => c_X0_become hz) rfl rfl (rm_ok (by decide) (by decide)) ⟨Nat.zero_le _, Nat.zero_le _⟩ rfl (sq21 g ad w21) (fun _ => sp21 g ad w21 _) rfl (Nat.le_of_ble_eq_true rfl) (fun _ => rfl) (fun z22 h => ?_)
    refine nm_w (wc_ws g ad) h (fun w23 h => ?_)
    refine wa_aload_n fx 0 dX3_years_67 rfl ?_
    refine wa_get (v := .ref ((adr ad 11) 0)) fx wm_X3 0 rfl rfl 1 (by decide) q_1_17 rfl rfl dX3_years_68 ?_
    refine wa_get (v := .ref ((adr ad 11) 5)) fx wm_X0 14 rfl rfl 4 (by decide) q_8_0 rfl rfl dX3_years_71 ?_
    refine wa_iload_n fx 1 dX3_years_74 rfl ?_
    refine wa_iload fx 4 dX3_years_75 rfl ?_
    refine wa_iast (wc_ws g ad) (f := (w23 2).1 4) fx 19 rfl dX3_years_77 h rfl (fun w24 h => ?_)
    refine wa_aload_n fx 0 dX3_years_78 rfl ?_
    refine wa_get (v := .ref ((adr ad 11) 0)) fx wm_X3 0 rfl rfl 1 (by decide) q_1_17 rfl rfl dX3_years_79 ?_
    refine wa_iload_n fx 3 dX3_years_82 rfl ?_
    refine wa_V (b := (adr ad 11) 0) (rmc := (rmh 6)) (As := [.int x19]) (st := []) (wc := (rm_ws g (adr ad 11) (w24 2))) (wr := (wr2 g ad w24)) (wcz := fun z25 => rm_ws g (adr ad 11) z25.2) (w2 := fun z25 => wc_ws g ad (gset w24 2 z25.2)) (o := fun z25 => some (.int z25.1)) (s2 := fun z25 => [.int z25.1]) (ci := 0) (q0 := 0) fx mm_X0_pass q_15_13 dX3_years_83 h (fun _ hz => c_X0_pass hz) rfl rfl (rm_ok (by decide) (by decide)) ⟨Nat.zero_le _, Nat.zero_le _⟩ rfl (sq2 g ad w24) (fun _ => sp2 g ad w24 _) rfl (Nat.le_of_ble_eq_true rfl) (fun _ => rfl) (fun z25 h => ?_)
    refine nm_w (wc_ws g ad) h (fun w26 h => ?_)
    refine wa_pop fx dX3_years_86 rfl ?_
    refine wa_aload_n fx 0 dX3_years_87 rfl ?_
    refine wa_get (v := .ref ((adr ad 11) 0)) fx wm_X3 0 rfl rfl 1 (by decide) q_1_17 rfl rfl dX3_years_88 ?_
    refine wa_get (v := .ref ((adr ad 11) 9)) fx wm_X0 14 rfl rfl 8 (by decide) q_8_4 rfl rfl dX3_years_91 ?_
    refine wa_iload_n fx 1 dX3_years_94 rfl ?_
    refine wa_iald (f := (w26 2).1 8) fx 23 rfl dX3_years_95 h (fun h => ?_)
    refine wa_iload_n fx 2 dX3_years_96 rfl ?_
    refine wa_icmp_ne fx 103 dX3_years_97 (by decide) h (fun h => ?_) (fun h => ?_)
    · refine wa_iload fx 4 dX3_years_100 rfl ?_
      exact fn_i (wc_ws g ad) fx hf (sn1 h) (sn2 h) dX3_years_102
    · refine wa_sub [0, 1, 2, 3, 4] rfl ?_
      exact B103 k34 Hk34 x17 x18 x19 x20 w26 h
  have B34 : ∀  (n : Nat) (x11 : Int32) (x12 : Int32) (x13 : Int32) (x14 : Int32) (w15 : Nat → StT), f_X3_years_l34 n x11 x12 x13 x14 w15 = some r → WA g K 5 0 0 34 [(0, .ref (ad 0)), (1, .int x11), (2, .int x12), (3, .int x13), (4, .int x14)] [] (wc_ws g ad w15) := by
    intro   n
    induction n with
    | zero => intro x11 x12 x13 x14 w15 h; exact absurd h (by rw [f_X3_years_l34]; exact nofun)
    | succ n ih =>
      intro x11 x12 x13 x14 w15 h
      rw [f_X3_years_l34] at h
      refine wa_iload fx 4 dX3_years_34 rfl ?_
      refine wa_bipush fx (99 : Int32) dX3_years_36 (by decide) ?_
      refine wa_icmp_gt fx 109 dX3_years_38 (by decide) h (fun h => ?_) (fun h => ?_)
      · refine wa_aload_n fx 0 dX3_years_109 rfl ?_
        refine wa_iconst fx (3 : Int32) dX3_years_110 (by decide) ?_
        refine wa_V (b := ad 0) (rmc := (rmh 1)) (As := [.int (3 : Int32)]) (st := []) (wc := (wc_ws g ad w15)) (wr := ([] : va_W)) (wcz := fun z16 => wc_ws g ad z16.2) (w2 := fun z16 => wc_ws g ad z16.2) (o := fun z16 => some (.int z16.1)) (s2 := fun z16 => [.int z16.1]) (ci := 3) (q0 := 0) fx mm_X3_finding q_4_17 dX3_years_111 h (fun _ hz => c_X3_finding hz) rfl rfl (rm_ok (by decide) (by decide)) ⟨Nat.zero_le _, Nat.zero_le _⟩ rfl (List.Perm.refl _) (fun _ => List.Perm.refl _) rfl (Nat.le_of_ble_eq_true rfl) (fun _ => rfl) (fun z16 h => ?_)
        exact fn_i (wc_ws g ad) fx hf (sn1 h) (sn2 h) dX3_years_114
      · refine wa_iload fx 4 dX3_years_41 rfl ?_
        refine wa_iconst fx (4 : Int32) dX3_years_43 (by decide) ?_
        refine wa_irem fx dX3_years_44 (by decide) ?_
        refine wa_if_eq fx 56 dX3_years_45 (by decide) h (fun h => ?_) (fun h => ?_)
        · refine wa_sub [0, 1, 2, 3, 4] rfl ?_
          exact B56 (f_X3_years_l34 n) ih x11 x12 x13 x14 w15 h
        · refine wa_iload fx 4 dX3_years_48 rfl ?_
          refine wa_bipush fx (10 : Int32) dX3_years_50 (by decide) ?_
          refine wa_irem fx dX3_years_52 (by decide) ?_
          refine wa_if_ne fx 103 dX3_years_53 (by decide) h (fun h => ?_) (fun h => ?_)
          · refine wa_sub [0, 1, 2, 3, 4] rfl ?_
            exact B56 (f_X3_years_l34 n) ih x11 x12 x13 x14 w15 h
          · refine wa_sub [0, 1, 2, 3, 4] rfl ?_
            exact B103 (f_X3_years_l34 n) ih x11 x12 x13 x14 w15 h
  refine wa_aload_n fx 0 dX3_years_0 rfl ?_
  refine wa_iload_n fx 1 dX3_years_1 rfl ?_
  refine wa_V (b := ad 0) (rmc := (rmh 2)) (As := [.int a1]) (st := []) (wc := (wc_ws g ad G)) (wr := ([] : va_W)) (wcz := fun _ => (wc_ws g ad G)) (w2 := fun _ => (wc_ws g ad G)) (o := fun z1 => some (.int z1)) (s2 := fun z1 => [.int z1]) (ci := 3) (q0 := 0) fx mm_X3_isThere q_8_5 dX3_years_2 h (fun _ hz => c_X3_isThere hz) rfl rfl (rm_ok (by decide) (by decide)) ⟨Nat.zero_le _, Nat.zero_le _⟩ rfl (List.Perm.refl _) (fun _ => (List.Perm.refl _)) rfl (Nat.le_of_ble_eq_true rfl) (fun _ => rfl) (fun z1 h => ?_)
  refine wa_if_eq fx 25 dX3_years_5 (by decide) h (fun h => ?_) (fun h => ?_)
  · refine wa_aload_n fx 0 dX3_years_25 rfl ?_
    refine wa_iconst fx (0 : Int32) dX3_years_26 (by decide) ?_
    refine wa_V (b := ad 0) (rmc := (rmh 1)) (As := [.int (0 : Int32)]) (st := []) (wc := (wc_ws g ad G)) (wr := ([] : va_W)) (wcz := fun z2 => wc_ws g ad z2.2) (w2 := fun z2 => wc_ws g ad z2.2) (o := fun z2 => some (.int z2.1)) (s2 := fun z2 => [.int z2.1]) (ci := 3) (q0 := 0) fx mm_X3_finding q_4_17 dX3_years_27 h (fun _ hz => c_X3_finding hz) rfl rfl (rm_ok (by decide) (by decide)) ⟨Nat.zero_le _, Nat.zero_le _⟩ rfl (List.Perm.refl _) (fun _ => List.Perm.refl _) rfl (Nat.le_of_ble_eq_true rfl) (fun _ => rfl) (fun z2 h => ?_)
    exact fn_i (wc_ws g ad) fx hf (sn1 h) (sn2 h) dX3_years_30
  · refine wa_iload_n fx 2 dX3_years_8 rfl ?_
    refine wa_S (rmc := (rmh 2)) (As := [.int a2]) (st := []) (wc := (no_ws ())) (wr := (wc_ws g ad G)) (wcz := fun _ => (no_ws ())) (w2 := fun _ => (wc_ws g ad G)) (o := fun z3 => some (.int z3)) (s2 := fun z3 => [.int z3]) fx mm_X3_isChair q_4_11 dX3_years_9 h (fun _ hz => c_X3_isChair hz) (rm_ok (by decide) (by decide)) ⟨Nat.zero_le _, Nat.zero_le _⟩ rfl (List.Perm.of_eq (List.append_nil _).symm) (fun _ => (List.Perm.of_eq (List.append_nil _).symm)) rfl (Nat.le_of_ble_eq_true rfl) (fun _ => rfl) (fun z3 h => ?_)
    refine wa_if_eq fx 25 dX3_years_12 (by decide) h (fun h => ?_) (fun h => ?_)
    · refine wa_aload_n fx 0 dX3_years_25 rfl ?_
      refine wa_iconst fx (0 : Int32) dX3_years_26 (by decide) ?_
      refine wa_V (b := ad 0) (rmc := (rmh 1)) (As := [.int (0 : Int32)]) (st := []) (wc := (wc_ws g ad G)) (wr := ([] : va_W)) (wcz := fun z4 => wc_ws g ad z4.2) (w2 := fun z4 => wc_ws g ad z4.2) (o := fun z4 => some (.int z4.1)) (s2 := fun z4 => [.int z4.1]) (ci := 3) (q0 := 0) fx mm_X3_finding q_4_17 dX3_years_27 h (fun _ hz => c_X3_finding hz) rfl rfl (rm_ok (by decide) (by decide)) ⟨Nat.zero_le _, Nat.zero_le _⟩ rfl (List.Perm.refl _) (fun _ => List.Perm.refl _) rfl (Nat.le_of_ble_eq_true rfl) (fun _ => rfl) (fun z4 h => ?_)
      exact fn_i (wc_ws g ad) fx hf (sn1 h) (sn2 h) dX3_years_30
    · refine wa_iload_n fx 3 dX3_years_15 rfl ?_
      refine wa_iconst fx (1 : Int32) dX3_years_16 (by decide) ?_
      refine wa_bipush fx (30 : Int32) dX3_years_17 (by decide) ?_
      refine wa_S (rmc := (rmh 1)) (As := [.int a3, .int (1 : Int32), .int (30 : Int32)]) (st := []) (wc := (no_ws ())) (wr := (wc_ws g ad G)) (wcz := fun _ => (no_ws ())) (w2 := fun _ => (wc_ws g ad G)) (o := fun z5 => some (.int z5)) (s2 := fun z5 => [.int z5]) fx mm_X3_isWithin q_4_14 dX3_years_19 h (fun _ hz => c_X3_isWithin hz) (rm_ok (by decide) (by decide)) ⟨Nat.zero_le _, Nat.zero_le _⟩ rfl (List.Perm.of_eq (List.append_nil _).symm) (fun _ => (List.Perm.of_eq (List.append_nil _).symm)) rfl (Nat.le_of_ble_eq_true rfl) (fun _ => rfl) (fun z5 h => ?_)
      refine wa_if_ne fx 31 dX3_years_22 (by decide) h (fun h => ?_) (fun h => ?_)
      · refine wa_aload_n fx 0 dX3_years_25 rfl ?_
        refine wa_iconst fx (0 : Int32) dX3_years_26 (by decide) ?_
        refine wa_V (b := ad 0) (rmc := (rmh 1)) (As := [.int (0 : Int32)]) (st := []) (wc := (wc_ws g ad G)) (wr := ([] : va_W)) (wcz := fun z33 => wc_ws g ad z33.2) (w2 := fun z33 => wc_ws g ad z33.2) (o := fun z33 => some (.int z33.1)) (s2 := fun z33 => [.int z33.1]) (ci := 3) (q0 := 0) fx mm_X3_finding q_4_17 dX3_years_27 h (fun _ hz => c_X3_finding hz) rfl rfl (rm_ok (by decide) (by decide)) ⟨Nat.zero_le _, Nat.zero_le _⟩ rfl (List.Perm.refl _) (fun _ => List.Perm.refl _) rfl (Nat.le_of_ble_eq_true rfl) (fun _ => rfl) (fun z33 h => ?_)
        exact fn_i (wc_ws g ad) fx hf (sn1 h) (sn2 h) dX3_years_30
      · refine wa_iconst fx (0 : Int32) dX3_years_31 (by decide) ?_
        refine wa_istore fx [(4, .int (0 : Int32)), (0, .ref (ad 0)), (1, .int a1), (2, .int a2), (3, .int a3)] dX3_years_32 (by decide) rfl ?_
        refine wa_sub [1, 2, 3, 4, 0] rfl ?_
        exact B34 200 a1 a2 a3 (0 : Int32) G h
def f_X3_always_b90 (k56 : (Int32) → (Int32) → (Nat → StT) → Option (Int32 × (Nat → StT))) (x12 : Int32) (x13 : Int32) (w14 : Nat → StT) : Option (Int32 × (Nat → StT)) := nm (x13 + (1 : Int32)) fun x15 => k56 x12 x15 w14
def f_X3_always_l56 : Nat → (Int32) → (Int32) → (Nat → StT) → Option (Int32 × (Nat → StT))
  | 0, _, _, _ => none
  | n + 1, x9, x10, w11 => if ((w11 2).2.2 0) ≤ x10 then (some (x9, w11)) else (ck x10 8 (ck x9 8 (if ((w11 2).1 7 (Int32.toNatClampNeg x10)) ≤ ((w11 2).1 7 (Int32.toNatClampNeg x9)) then (f_X3_always_b90 (f_X3_always_l56 n) x9 x10 w11) else (f_X3_always_b90 (f_X3_always_l56 n) x10 x10 w11))))
def f_X3_always  (G : Nat → StT) (a1 : Int32) : Option (Int32 × (Nat → StT)) := Option.bind (f_X3_isWithin a1 (0 : Int32) (60 : Int32)) fun z1 => if z1 = 0 then (Option.bind (f_X3_finding G (0 : Int32)) fun z17 => some (z17.1, z17.2)) else (if ((G 1).2.2 0) = 0 then (Option.bind (f_X3_finding G (3 : Int32)) fun z16 => some (z16.1, z16.2)) else (Option.bind (f_X0_become (G 2, G 1)) fun z2 => nm (gset (gset G 2 z2.1) 1 z2.2) fun w3 => Option.bind (f_X0_pass (w3 2) a1) fun z4 => nm (gset w3 2 z4.2) fun w5 => f_X3_always_l56 200 (0 : Int32) (1 : Int32) w5))
set_option maxHeartbeats 4000000 in
set_option maxRecDepth 100000 in
theorem c_X3_always {g : GT} {l : Launch} {ad : Nat → Nat}   {G : Nat → StT} {a1 : Int32} {r : Int32 × (Nat → StT)} (h : f_X3_always G a1 = some r) : Ct g l yX3_always (wd yX3_always cX3_always 4 (some .int)) (rmh 7) [.ref (ad 0), .int a1] (wc_ws g ad G) (wc_ws g ad r.2) (some (.int r.1)) := by
  refine Ct.of (lv := [(0, .ref (ad 0)), (1, .int a1)]) (by decide) (Nat.le_of_ble_eq_true rfl) rfl (fun K hl fx hf => ?_)
  subst hl
  rw [f_X3_always] at h
  have B90 : ∀ (k56 : (Int32) → (Int32) → (Nat → StT) → Option (Int32 × (Nat → StT))) (Hk56 : ∀ (y6 : Int32) (y7 : Int32) (w8 : Nat → StT), k56 y6 y7 w8 = some r → WA g K 4 0 0 56 [(0, .ref (ad 0)), (2, .int y6), (3, .int y7)] [] (wc_ws g ad w8)) (x12 : Int32) (x13 : Int32) (w14 : Nat → StT), f_X3_always_b90 k56 x12 x13 w14 = some r → WA g K 4 0 0 90 [(0, .ref (ad 0)), (2, .int x12), (3, .int x13)] [] (wc_ws g ad w14) := by
    intro  k56 Hk56 x12 x13 w14 h
    rw [f_X3_always_b90] at h
    refine wa_iinc fx 2 (fun x15 => [(3, .int x15), (0, .ref (ad 0)), (2, .int x12)]) dX3_always_90 rfl (by rfl) (by decide) (fun _ => rfl) h (fun x15 h => ?_)
    refine wa_goto fx 56 dX3_always_93 (by decide) ?_
    refine wa_sub [1, 2, 0] rfl ?_
    exact Hk56 x12 x15 w14 h
  have B56 : ∀  (n : Nat) (x9 : Int32) (x10 : Int32) (w11 : Nat → StT), f_X3_always_l56 n x9 x10 w11 = some r → WA g K 4 0 0 56 [(0, .ref (ad 0)), (2, .int x9), (3, .int x10)] [] (wc_ws g ad w11) := by
    intro   n
    induction n with
    | zero => intro x9 x10 w11 h; exact absurd h (by rw [f_X3_always_l56]; exact nofun)
    | succ n ih =>
      intro x9 x10 w11 h
      rw [f_X3_always_l56] at h
      refine wa_iload_n fx 2 dX3_always_56 rfl ?_
      refine wa_aload_n fx 0 dX3_always_57 rfl ?_
      refine wa_get (v := .ref ((adr ad 11) 0)) fx wm_X3 0 rfl rfl 1 (by decide) q_1_17 rfl rfl dX3_always_58 ?_
      refine wa_get (v := .int ((w11 2).2.2 0)) fx wm_X0 14 rfl rfl 9 (by decide) q_6_21 rfl rfl dX3_always_61 ?_
      refine wa_icmp_ge fx 96 dX3_always_64 (by decide) h (fun h => ?_) (fun h => ?_)
      · refine wa_iload_n fx 1 dX3_always_96 rfl ?_
        exact fn_i (wc_ws g ad) fx hf (sn1 h) (sn2 h) dX3_always_97
      · refine wa_aload_n fx 0 dX3_always_67 rfl ?_
        refine wa_get (v := .ref ((adr ad 11) 0)) fx wm_X3 0 rfl rfl 1 (by decide) q_1_17 rfl rfl dX3_always_68 ?_
        refine wa_get (v := .ref ((adr ad 11) 8)) fx wm_X0 14 rfl rfl 7 (by decide) q_8_3 rfl rfl dX3_always_71 ?_
        refine wa_iload_n fx 2 dX3_always_74 rfl ?_
        refine wa_iald (f := (w11 2).1 7) fx 22 rfl dX3_always_75 h (fun h => ?_)
        refine wa_aload_n fx 0 dX3_always_76 rfl ?_
        refine wa_get (v := .ref ((adr ad 11) 0)) fx wm_X3 0 rfl rfl 1 (by decide) q_1_17 rfl rfl dX3_always_77 ?_
        refine wa_get (v := .ref ((adr ad 11) 8)) fx wm_X0 14 rfl rfl 7 (by decide) q_8_3 rfl rfl dX3_always_80 ?_
        refine wa_iload_n fx 1 dX3_always_83 rfl ?_
        refine wa_iald (f := (w11 2).1 7) fx 22 rfl dX3_always_84 h (fun h => ?_)
        refine wa_icmp_le fx 90 dX3_always_85 (by decide) h (fun h => ?_) (fun h => ?_)
        · refine wa_sub [0, 1, 2] rfl ?_
          exact B90 (f_X3_always_l56 n) ih x9 x10 w11 h
        · refine wa_iload_n fx 2 dX3_always_88 rfl ?_
          refine wa_istore_n fx [(2, .int x10), (0, .ref (ad 0)), (3, .int x10)] dX3_always_89 rfl (by decide) rfl ?_
          refine wa_sub [1, 0, 2] rfl ?_
          exact B90 (f_X3_always_l56 n) ih x10 x10 w11 h
  refine wa_iload_n fx 1 dX3_always_0 rfl ?_
  refine wa_iconst fx (0 : Int32) dX3_always_1 (by decide) ?_
  refine wa_bipush fx (60 : Int32) dX3_always_2 (by decide) ?_
  refine wa_S (rmc := (rmh 1)) (As := [.int a1, .int (0 : Int32), .int (60 : Int32)]) (st := []) (wc := (no_ws ())) (wr := (wc_ws g ad G)) (wcz := fun _ => (no_ws ())) (w2 := fun _ => (wc_ws g ad G)) (o := fun z1 => some (.int z1)) (s2 := fun z1 => [.int z1]) fx mm_X3_isWithin q_4_14 dX3_always_4 h (fun _ hz => c_X3_isWithin hz) (rm_ok (by decide) (by decide)) ⟨Nat.zero_le _, Nat.zero_le _⟩ rfl (List.Perm.of_eq (List.append_nil _).symm) (fun _ => (List.Perm.of_eq (List.append_nil _).symm)) rfl (Nat.le_of_ble_eq_true rfl) (fun _ => rfl) (fun z1 h => ?_)
  refine wa_if_ne fx 16 dX3_always_7 (by decide) h (fun h => ?_) (fun h => ?_)
  · refine wa_aload_n fx 0 dX3_always_10 rfl ?_
    refine wa_iconst fx (0 : Int32) dX3_always_11 (by decide) ?_
    refine wa_V (b := ad 0) (rmc := (rmh 1)) (As := [.int (0 : Int32)]) (st := []) (wc := (wc_ws g ad G)) (wr := ([] : va_W)) (wcz := fun z17 => wc_ws g ad z17.2) (w2 := fun z17 => wc_ws g ad z17.2) (o := fun z17 => some (.int z17.1)) (s2 := fun z17 => [.int z17.1]) (ci := 3) (q0 := 0) fx mm_X3_finding q_4_17 dX3_always_12 h (fun _ hz => c_X3_finding hz) rfl rfl (rm_ok (by decide) (by decide)) ⟨Nat.zero_le _, Nat.zero_le _⟩ rfl (List.Perm.refl _) (fun _ => List.Perm.refl _) rfl (Nat.le_of_ble_eq_true rfl) (fun _ => rfl) (fun z17 h => ?_)
    exact fn_i (wc_ws g ad) fx hf (sn1 h) (sn2 h) dX3_always_15
  · refine wa_aload_n fx 0 dX3_always_16 rfl ?_
    refine wa_get (v := .ref ((adr ad 1) 0)) fx wm_X3 0 rfl rfl 0 (by decide) q_1_16 rfl rfl dX3_always_17 ?_
    refine wa_get (v := .int ((G 1).2.2 0)) fx wm_X0 4 rfl rfl 9 (by decide) q_6_21 rfl rfl dX3_always_20 ?_
    refine wa_if_ne fx 32 dX3_always_23 (by decide) h (fun h => ?_) (fun h => ?_)
    · refine wa_aload_n fx 0 dX3_always_26 rfl ?_
      refine wa_iconst fx (3 : Int32) dX3_always_27 (by decide) ?_
      refine wa_V (b := ad 0) (rmc := (rmh 1)) (As := [.int (3 : Int32)]) (st := []) (wc := (wc_ws g ad G)) (wr := ([] : va_W)) (wcz := fun z16 => wc_ws g ad z16.2) (w2 := fun z16 => wc_ws g ad z16.2) (o := fun z16 => some (.int z16.1)) (s2 := fun z16 => [.int z16.1]) (ci := 3) (q0 := 0) fx mm_X3_finding q_4_17 dX3_always_28 h (fun _ hz => c_X3_finding hz) rfl rfl (rm_ok (by decide) (by decide)) ⟨Nat.zero_le _, Nat.zero_le _⟩ rfl (List.Perm.refl _) (fun _ => List.Perm.refl _) rfl (Nat.le_of_ble_eq_true rfl) (fun _ => rfl) (fun z16 h => ?_)
      exact fn_i (wc_ws g ad) fx hf (sn1 h) (sn2 h) dX3_always_31
    · refine wa_aload_n fx 0 dX3_always_32 rfl ?_
      refine wa_get (v := .ref ((adr ad 11) 0)) fx wm_X3 0 rfl rfl 1 (by decide) q_1_17 rfl rfl dX3_always_33 ?_
      refine wa_aload_n fx 0 dX3_always_36 rfl ?_
      refine wa_get (v := .ref ((adr ad 1) 0)) fx wm_X3 0 rfl rfl 0 (by decide) q_1_16 rfl rfl dX3_always_37 ?_
      refine wa_V (b := (adr ad 11) 0) (rmc := (rmh 2)) (As := [.ref ((adr ad 1) 0)]) (st := []) (wc := (bb_ws g (adr ad 11) (adr ad 1) (G 2, G 1))) (wr := (wr21 g ad G)) (wcz := fun z2 => bb_ws g (adr ad 11) (adr ad 1) z2) (w2 := fun z2 => wc_ws g ad (gset (gset G 2 z2.1) 1 z2.2)) (o := fun _ => none) (s2 := fun z2 => []) (ci := 0) (q0 := 0) fx mm_X0_become q_18_20 dX3_always_40 h (fun _ hz => c_X0_become hz) rfl rfl (rm_ok (by decide) (by decide)) ⟨Nat.zero_le _, Nat.zero_le _⟩ rfl (sq21 g ad G) (fun _ => sp21 g ad G _) rfl (Nat.le_of_ble_eq_true rfl) (fun _ => rfl) (fun z2 h => ?_)
      refine nm_w (wc_ws g ad) h (fun w3 h => ?_)
      refine wa_aload_n fx 0 dX3_always_43 rfl ?_
      refine wa_get (v := .ref ((adr ad 11) 0)) fx wm_X3 0 rfl rfl 1 (by decide) q_1_17 rfl rfl dX3_always_44 ?_
      refine wa_iload_n fx 1 dX3_always_47 rfl ?_
      refine wa_V (b := (adr ad 11) 0) (rmc := (rmh 6)) (As := [.int a1]) (st := []) (wc := (rm_ws g (adr ad 11) (w3 2))) (wr := (wr2 g ad w3)) (wcz := fun z4 => rm_ws g (adr ad 11) z4.2) (w2 := fun z4 => wc_ws g ad (gset w3 2 z4.2)) (o := fun z4 => some (.int z4.1)) (s2 := fun z4 => [.int z4.1]) (ci := 0) (q0 := 0) fx mm_X0_pass q_15_13 dX3_always_48 h (fun _ hz => c_X0_pass hz) rfl rfl (rm_ok (by decide) (by decide)) ⟨Nat.zero_le _, Nat.zero_le _⟩ rfl (sq2 g ad w3) (fun _ => sp2 g ad w3 _) rfl (Nat.le_of_ble_eq_true rfl) (fun _ => rfl) (fun z4 h => ?_)
      refine nm_w (wc_ws g ad) h (fun w5 h => ?_)
      refine wa_pop fx dX3_always_51 rfl ?_
      refine wa_iconst fx (0 : Int32) dX3_always_52 (by decide) ?_
      refine wa_istore_n fx [(2, .int (0 : Int32)), (0, .ref (ad 0)), (1, .int a1)] dX3_always_53 rfl (by decide) rfl ?_
      refine wa_iconst fx (1 : Int32) dX3_always_54 (by decide) ?_
      refine wa_istore_n fx [(3, .int (1 : Int32)), (2, .int (0 : Int32)), (0, .ref (ad 0)), (1, .int a1)] dX3_always_55 rfl (by decide) rfl ?_
      refine wa_sub [2, 1, 0] rfl ?_
      exact B56 200 (0 : Int32) (1 : Int32) w5 h
def f_X3_beside_b135 (k21 : (Int32) → (Int32) → (Int32) → (Int32) → (Nat → StT) → Option (Int32 × (Nat → StT))) (x13 : Int32) (x14 : Int32) (x15 : Int32) (x16 : Int32) (w17 : Nat → StT) : Option (Int32 × (Nat → StT)) := nm (x16 + (1 : Int32)) fun x18 => k21 x13 x14 x15 x18 w17
def f_X3_beside_b129 (k66 : (Int32) → (Int32) → (Int32) → (Int32) → (Int32) → (Nat → StT) → Option (Int32 × (Nat → StT))) (x33 : Int32) (x34 : Int32) (x35 : Int32) (x36 : Int32) (x37 : Int32) (w38 : Nat → StT) : Option (Int32 × (Nat → StT)) := nm (x37 + (2 : Int32)) fun x39 => k66 x33 x34 x35 x36 x39 w38
def f_X3_beside_b115 (k66 : (Int32) → (Int32) → (Int32) → (Int32) → (Int32) → (Nat → StT) → Option (Int32 × (Nat → StT))) (x40 : Int32) (x41 : Int32) (x42 : Int32) (w43 : Nat → StT) : Option (Int32 × (Nat → StT)) := Option.bind (f_X0_howWell (w43 1) x40 x42) fun z44 => f_X3_beside_b129 k66 x40 x41 z44 x41 x42 w43
def f_X3_beside_l66 (k21 : (Int32) → (Int32) → (Int32) → (Int32) → (Nat → StT) → Option (Int32 × (Nat → StT))) : Nat → (Int32) → (Int32) → (Int32) → (Int32) → (Int32) → (Nat → StT) → Option (Int32 × (Nat → StT))
  | 0, _, _, _, _, _, _ => none
  | n + 1, x26, x27, x28, x29, x30, w31 => ck x29 8 (if (((w31 1).1 8 (Int32.toNatClampNeg x29)) + (1 : Int32)) < x30 then (f_X3_beside_b135 k21 x26 x27 x28 x29 w31) else (Option.bind (f_X0_isFreeFor (w31 1) x26 x30) fun z32 => if z32 = 0 then (f_X3_beside_b129 (f_X3_beside_l66 k21 n) x26 x27 x28 x29 x30 w31) else (if x27 = (-1 : Int32) then (f_X3_beside_b115 (f_X3_beside_l66 k21 n) x26 x29 x30 w31) else (Option.bind (f_X0_howWell (w31 1) x26 x30) fun z45 => if z45 ≤ x28 then (f_X3_beside_b129 (f_X3_beside_l66 k21 n) x26 x27 x28 x29 x30 w31) else (f_X3_beside_b115 (f_X3_beside_l66 k21 n) x26 x29 x30 w31)))))
def f_X3_beside_l21 : Nat → (Int32) → (Int32) → (Int32) → (Int32) → (Nat → StT) → Option (Int32 × (Nat → StT))
  | 0, _, _, _, _, _ => none
  | n + 1, x7, x8, x9, x10, w11 => if ((w11 1).2.2 0) ≤ x10 then (if x8 = (-1 : Int32) then (Option.bind (f_X3_finding w11 (3 : Int32)) fun z12 => some (z12.1, z12.2)) else (some (x8, w11))) else (if x10 = x7 then (f_X3_beside_b135 (f_X3_beside_l21 n) x7 x8 x9 x10 w11) else (ck x10 8 (if ((w11 1).1 8 (Int32.toNatClampNeg x10)) < 0 then (f_X3_beside_b135 (f_X3_beside_l21 n) x7 x8 x9 x10 w11) else (ck x10 8 (nm (((w11 1).1 8 (Int32.toNatClampNeg x10)) - (1 : Int32)) fun x19 => f_X3_beside_l66 (f_X3_beside_l21 n) 200 x7 x8 x9 x10 x19 w11)))))
def f_X3_beside  (G : Nat → StT) (a1 : Int32) : Option (Int32 × (Nat → StT)) := Option.bind (f_X3_isThere G a1) fun z1 => if z1 = 0 then (Option.bind (f_X3_finding G (0 : Int32)) fun z46 => some (z46.1, z46.2)) else (f_X3_beside_l21 200 a1 (-1 : Int32) (0 : Int32) (0 : Int32) G)
set_option maxHeartbeats 4000000 in
set_option maxRecDepth 100000 in
theorem c_X3_beside {g : GT} {l : Launch} {ad : Nat → Nat}   {G : Nat → StT} {a1 : Int32} {r : Int32 × (Nat → StT)} (h : f_X3_beside G a1 = some r) : Ct g l yX3_beside (wd yX3_beside cX3_beside 6 (some .int)) (rmh 4) [.ref (ad 0), .int a1] (wc_ws g ad G) (wc_ws g ad r.2) (some (.int r.1)) := by
  refine Ct.of (lv := [(0, .ref (ad 0)), (1, .int a1)]) (by decide) (Nat.le_of_ble_eq_true rfl) rfl (fun K hl fx hf => ?_)
  subst hl
  rw [f_X3_beside] at h
  have B135 : ∀ (k21 : (Int32) → (Int32) → (Int32) → (Int32) → (Nat → StT) → Option (Int32 × (Nat → StT))) (Hk21 : ∀ (y2 : Int32) (y3 : Int32) (y4 : Int32) (y5 : Int32) (w6 : Nat → StT), k21 y2 y3 y4 y5 w6 = some r → WA g K 6 0 0 21 [(0, .ref (ad 0)), (1, .int y2), (2, .int y3), (3, .int y4), (4, .int y5)] [] (wc_ws g ad w6)) (x13 : Int32) (x14 : Int32) (x15 : Int32) (x16 : Int32) (w17 : Nat → StT), f_X3_beside_b135 k21 x13 x14 x15 x16 w17 = some r → WA g K 6 0 0 135 [(0, .ref (ad 0)), (1, .int x13), (2, .int x14), (3, .int x15), (4, .int x16)] [] (wc_ws g ad w17) := by
    intro  k21 Hk21 x13 x14 x15 x16 w17 h
    rw [f_X3_beside_b135] at h
    refine wa_iinc fx 4 (fun x18 => [(4, .int x18), (0, .ref (ad 0)), (1, .int x13), (2, .int x14), (3, .int x15)]) dX3_beside_135 rfl (by rfl) (by decide) (fun _ => rfl) h (fun x18 h => ?_)
    refine wa_goto fx 21 dX3_beside_138 (by decide) ?_
    refine wa_sub [1, 2, 3, 4, 0] rfl ?_
    exact Hk21 x13 x14 x15 x18 w17 h
  have B129 : ∀ (k66 : (Int32) → (Int32) → (Int32) → (Int32) → (Int32) → (Nat → StT) → Option (Int32 × (Nat → StT))) (Hk66 : ∀ (y20 : Int32) (y21 : Int32) (y22 : Int32) (y23 : Int32) (y24 : Int32) (w25 : Nat → StT), k66 y20 y21 y22 y23 y24 w25 = some r → WA g K 6 0 0 66 [(0, .ref (ad 0)), (1, .int y20), (2, .int y21), (3, .int y22), (4, .int y23), (5, .int y24)] [] (wc_ws g ad w25)) (x33 : Int32) (x34 : Int32) (x35 : Int32) (x36 : Int32) (x37 : Int32) (w38 : Nat → StT), f_X3_beside_b129 k66 x33 x34 x35 x36 x37 w38 = some r → WA g K 6 0 0 129 [(0, .ref (ad 0)), (1, .int x33), (2, .int x34), (3, .int x35), (4, .int x36), (5, .int x37)] [] (wc_ws g ad w38) := by
    intro  k66 Hk66 x33 x34 x35 x36 x37 w38 h
    rw [f_X3_beside_b129] at h
    refine wa_iinc fx 5 (fun x39 => [(5, .int x39), (0, .ref (ad 0)), (1, .int x33), (2, .int x34), (3, .int x35), (4, .int x36)]) dX3_beside_129 rfl (by rfl) (by decide) (fun _ => rfl) h (fun x39 h => ?_)
    refine wa_goto fx 66 dX3_beside_132 (by decide) ?_
    refine wa_sub [1, 2, 3, 4, 5, 0] rfl ?_
    exact Hk66 x33 x34 x35 x36 x39 w38 h
  have B115 : ∀ (k66 : (Int32) → (Int32) → (Int32) → (Int32) → (Int32) → (Nat → StT) → Option (Int32 × (Nat → StT))) (Hk66 : ∀ (y20 : Int32) (y21 : Int32) (y22 : Int32) (y23 : Int32) (y24 : Int32) (w25 : Nat → StT), k66 y20 y21 y22 y23 y24 w25 = some r → WA g K 6 0 0 66 [(0, .ref (ad 0)), (1, .int y20), (2, .int y21), (3, .int y22), (4, .int y23), (5, .int y24)] [] (wc_ws g ad w25)) (x40 : Int32) (x41 : Int32) (x42 : Int32) (w43 : Nat → StT), f_X3_beside_b115 k66 x40 x41 x42 w43 = some r → WA g K 6 0 0 115 [(0, .ref (ad 0)), (1, .int x40), (4, .int x41), (5, .int x42)] [] (wc_ws g ad w43) := by
    intro  k66 Hk66 x40 x41 x42 w43 h
    rw [f_X3_beside_b115] at h
    refine wa_iload fx 2 dX3_beside_115 rfl ?_
    refine wa_istore_n fx [(2, .int x41), (0, .ref (ad 0)), (1, .int x40), (4, .int x41), (5, .int x42)] dX3_beside_117 rfl (by decide) rfl ?_
    refine wa_aload_n fx 1 dX3_beside_118 rfl ?_
    refine wa_get (v := .ref ((adr ad 1) 0)) fx wm_X3 0 rfl rfl 0 (by decide) q_1_16 rfl rfl dX3_beside_119 ?_
    refine wa_iload_n fx 2 dX3_beside_122 rfl ?_
    refine wa_iload fx 4 dX3_beside_123 rfl ?_
    refine wa_V (b := (adr ad 1) 0) (rmc := (rmh 3)) (As := [.int x40, .int x42]) (st := []) (wc := (rm_ws g (adr ad 1) (w43 1))) (wr := (wr1 g ad w43)) (wcz := fun _ => (rm_ws g (adr ad 1) (w43 1))) (w2 := fun _ => (wc_ws g ad w43)) (o := fun z44 => some (.int z44)) (s2 := fun z44 => [.int z44]) (ci := 0) (q0 := 0) fx mm_X0_howWell q_13_13 dX3_beside_125 h (fun _ hz => c_X0_howWell hz) rfl rfl (rm_ok (by decide) (by decide)) ⟨Nat.zero_le _, Nat.zero_le _⟩ rfl (sq1 g ad w43) (fun _ => (sq1 g ad w43)) rfl (Nat.le_of_ble_eq_true rfl) (fun _ => rfl) (fun z44 h => ?_)
    refine wa_istore_n fx [(3, .int z44), (2, .int x41), (0, .ref (ad 0)), (1, .int x40), (4, .int x41), (5, .int x42)] dX3_beside_128 rfl (by decide) rfl ?_
    refine wa_sub [2, 3, 1, 0, 4, 5] rfl ?_
    exact B129 k66 Hk66 x40 x41 z44 x41 x42 w43 h
  have B66 : ∀ (k21 : (Int32) → (Int32) → (Int32) → (Int32) → (Nat → StT) → Option (Int32 × (Nat → StT))) (Hk21 : ∀ (y2 : Int32) (y3 : Int32) (y4 : Int32) (y5 : Int32) (w6 : Nat → StT), k21 y2 y3 y4 y5 w6 = some r → WA g K 6 0 0 21 [(0, .ref (ad 0)), (1, .int y2), (2, .int y3), (3, .int y4), (4, .int y5)] [] (wc_ws g ad w6)) (n : Nat) (x26 : Int32) (x27 : Int32) (x28 : Int32) (x29 : Int32) (x30 : Int32) (w31 : Nat → StT), f_X3_beside_l66 k21 n x26 x27 x28 x29 x30 w31 = some r → WA g K 6 0 0 66 [(0, .ref (ad 0)), (1, .int x26), (2, .int x27), (3, .int x28), (4, .int x29), (5, .int x30)] [] (wc_ws g ad w31) := by
    intro  k21 Hk21 n
    induction n with
    | zero => intro x26 x27 x28 x29 x30 w31 h; exact absurd h (by rw [f_X3_beside_l66]; exact nofun)
    | succ n ih =>
      intro x26 x27 x28 x29 x30 w31 h
      rw [f_X3_beside_l66] at h
      refine wa_iload fx 5 dX3_beside_66 rfl ?_
      refine wa_aload_n fx 0 dX3_beside_68 rfl ?_
      refine wa_get (v := .ref ((adr ad 1) 0)) fx wm_X3 0 rfl rfl 0 (by decide) q_1_16 rfl rfl dX3_beside_69 ?_
      refine wa_get (v := .ref ((adr ad 1) 9)) fx wm_X0 4 rfl rfl 8 (by decide) q_8_4 rfl rfl dX3_beside_72 ?_
      refine wa_iload fx 4 dX3_beside_75 rfl ?_
      refine wa_iald (f := (w31 1).1 8) fx 13 rfl dX3_beside_77 h (fun h => ?_)
      refine wa_iconst fx (1 : Int32) dX3_beside_78 (by decide) ?_
      refine wa_iadd fx dX3_beside_79 ?_
      refine wa_icmp_gt fx 135 dX3_beside_80 (by decide) h (fun h => ?_) (fun h => ?_)
      · refine wa_sub [0, 1, 2, 3, 4] rfl ?_
        exact B135 k21 Hk21 x26 x27 x28 x29 w31 h
      · refine wa_aload_n fx 0 dX3_beside_83 rfl ?_
        refine wa_get (v := .ref ((adr ad 1) 0)) fx wm_X3 0 rfl rfl 0 (by decide) q_1_16 rfl rfl dX3_beside_84 ?_
        refine wa_iload_n fx 1 dX3_beside_87 rfl ?_
        refine wa_iload fx 5 dX3_beside_88 rfl ?_
        refine wa_V (b := (adr ad 1) 0) (rmc := (rmh 3)) (As := [.int x26, .int x30]) (st := []) (wc := (rm_ws g (adr ad 1) (w31 1))) (wr := (wr1 g ad w31)) (wcz := fun _ => (rm_ws g (adr ad 1) (w31 1))) (w2 := fun _ => (wc_ws g ad w31)) (o := fun z32 => some (.int z32)) (s2 := fun z32 => [.int z32]) (ci := 0) (q0 := 0) fx mm_X0_isFreeFor q_24_11 dX3_beside_90 h (fun _ hz => c_X0_isFreeFor hz) rfl rfl (rm_ok (by decide) (by decide)) ⟨Nat.zero_le _, Nat.zero_le _⟩ rfl (sq1 g ad w31) (fun _ => (sq1 g ad w31)) rfl (Nat.le_of_ble_eq_true rfl) (fun _ => rfl) (fun z32 h => ?_)
        refine wa_if_eq fx 129 dX3_beside_93 (by decide) h (fun h => ?_) (fun h => ?_)
        · refine wa_sub [0, 1, 2, 3, 4, 5] rfl ?_
          exact B129 (f_X3_beside_l66 k21 n) ih x26 x27 x28 x29 x30 w31 h
        · refine wa_iload_n fx 2 dX3_beside_96 rfl ?_
          refine wa_iconst fx (-1 : Int32) dX3_beside_97 (by decide) ?_
          refine wa_icmp_eq fx 115 dX3_beside_98 (by decide) h (fun h => ?_) (fun h => ?_)
          · refine wa_sub [0, 1, 4, 5] rfl ?_
            exact B115 (f_X3_beside_l66 k21 n) ih x26 x29 x30 w31 h
          · refine wa_aload_n fx 0 dX3_beside_101 rfl ?_
            refine wa_get (v := .ref ((adr ad 1) 0)) fx wm_X3 0 rfl rfl 0 (by decide) q_1_16 rfl rfl dX3_beside_102 ?_
            refine wa_iload_n fx 1 dX3_beside_105 rfl ?_
            refine wa_iload fx 5 dX3_beside_106 rfl ?_
            refine wa_V (b := (adr ad 1) 0) (rmc := (rmh 3)) (As := [.int x26, .int x30]) (st := []) (wc := (rm_ws g (adr ad 1) (w31 1))) (wr := (wr1 g ad w31)) (wcz := fun _ => (rm_ws g (adr ad 1) (w31 1))) (w2 := fun _ => (wc_ws g ad w31)) (o := fun z45 => some (.int z45)) (s2 := fun z45 => [.int z45]) (ci := 0) (q0 := 0) fx mm_X0_howWell q_13_13 dX3_beside_108 h (fun _ hz => c_X0_howWell hz) rfl rfl (rm_ok (by decide) (by decide)) ⟨Nat.zero_le _, Nat.zero_le _⟩ rfl (sq1 g ad w31) (fun _ => (sq1 g ad w31)) rfl (Nat.le_of_ble_eq_true rfl) (fun _ => rfl) (fun z45 h => ?_)
            refine wa_iload_n fx 3 dX3_beside_111 rfl ?_
            refine wa_icmp_le fx 129 dX3_beside_112 (by decide) h (fun h => ?_) (fun h => ?_)
            · refine wa_sub [0, 1, 2, 3, 4, 5] rfl ?_
              exact B129 (f_X3_beside_l66 k21 n) ih x26 x27 x28 x29 x30 w31 h
            · refine wa_sub [0, 1, 4, 5] rfl ?_
              exact B115 (f_X3_beside_l66 k21 n) ih x26 x29 x30 w31 h
  have B21 : ∀  (n : Nat) (x7 : Int32) (x8 : Int32) (x9 : Int32) (x10 : Int32) (w11 : Nat → StT), f_X3_beside_l21 n x7 x8 x9 x10 w11 = some r → WA g K 6 0 0 21 [(0, .ref (ad 0)), (1, .int x7), (2, .int x8), (3, .int x9), (4, .int x10)] [] (wc_ws g ad w11) := by
    intro   n
    induction n with
    | zero => intro x7 x8 x9 x10 w11 h; exact absurd h (by rw [f_X3_beside_l21]; exact nofun)
    | succ n ih =>
      intro x7 x8 x9 x10 w11 h
      rw [f_X3_beside_l21] at h
      refine wa_iload fx 4 dX3_beside_21 rfl ?_
      refine wa_aload_n fx 0 dX3_beside_23 rfl ?_
      refine wa_get (v := .ref ((adr ad 1) 0)) fx wm_X3 0 rfl rfl 0 (by decide) q_1_16 rfl rfl dX3_beside_24 ?_
      refine wa_get (v := .int ((w11 1).2.2 0)) fx wm_X0 4 rfl rfl 9 (by decide) q_6_21 rfl rfl dX3_beside_27 ?_
      refine wa_icmp_ge fx 141 dX3_beside_30 (by decide) h (fun h => ?_) (fun h => ?_)
      · refine wa_iload_n fx 2 dX3_beside_141 rfl ?_
        refine wa_iconst fx (-1 : Int32) dX3_beside_142 (by decide) ?_
        refine wa_icmp_ne fx 154 dX3_beside_143 (by decide) h (fun h => ?_) (fun h => ?_)
        · refine wa_aload_n fx 0 dX3_beside_146 rfl ?_
          refine wa_iconst fx (3 : Int32) dX3_beside_147 (by decide) ?_
          refine wa_V (b := ad 0) (rmc := (rmh 1)) (As := [.int (3 : Int32)]) (st := []) (wc := (wc_ws g ad w11)) (wr := ([] : va_W)) (wcz := fun z12 => wc_ws g ad z12.2) (w2 := fun z12 => wc_ws g ad z12.2) (o := fun z12 => some (.int z12.1)) (s2 := fun z12 => [.int z12.1]) (ci := 3) (q0 := 0) fx mm_X3_finding q_4_17 dX3_beside_148 h (fun _ hz => c_X3_finding hz) rfl rfl (rm_ok (by decide) (by decide)) ⟨Nat.zero_le _, Nat.zero_le _⟩ rfl (List.Perm.refl _) (fun _ => List.Perm.refl _) rfl (Nat.le_of_ble_eq_true rfl) (fun _ => rfl) (fun z12 h => ?_)
          refine wa_goto fx 155 dX3_beside_151 (by decide) ?_
          exact fn_i (wc_ws g ad) fx hf (sn1 h) (sn2 h) dX3_beside_155
        · refine wa_iload_n fx 2 dX3_beside_154 rfl ?_
          exact fn_i (wc_ws g ad) fx hf (sn1 h) (sn2 h) dX3_beside_155
      · refine wa_iload fx 4 dX3_beside_33 rfl ?_
        refine wa_iload_n fx 1 dX3_beside_35 rfl ?_
        refine wa_icmp_eq fx 135 dX3_beside_36 (by decide) h (fun h => ?_) (fun h => ?_)
        · refine wa_sub [0, 1, 2, 3, 4] rfl ?_
          exact B135 (f_X3_beside_l21 n) ih x7 x8 x9 x10 w11 h
        · refine wa_aload_n fx 0 dX3_beside_39 rfl ?_
          refine wa_get (v := .ref ((adr ad 1) 0)) fx wm_X3 0 rfl rfl 0 (by decide) q_1_16 rfl rfl dX3_beside_40 ?_
          refine wa_get (v := .ref ((adr ad 1) 9)) fx wm_X0 4 rfl rfl 8 (by decide) q_8_4 rfl rfl dX3_beside_43 ?_
          refine wa_iload fx 4 dX3_beside_46 rfl ?_
          refine wa_iald (f := (w11 1).1 8) fx 13 rfl dX3_beside_48 h (fun h => ?_)
          refine wa_if_lt fx 135 dX3_beside_49 (by decide) h (fun h => ?_) (fun h => ?_)
          · refine wa_sub [0, 1, 2, 3, 4] rfl ?_
            exact B135 (f_X3_beside_l21 n) ih x7 x8 x9 x10 w11 h
          · refine wa_aload_n fx 0 dX3_beside_52 rfl ?_
            refine wa_get (v := .ref ((adr ad 1) 0)) fx wm_X3 0 rfl rfl 0 (by decide) q_1_16 rfl rfl dX3_beside_53 ?_
            refine wa_get (v := .ref ((adr ad 1) 9)) fx wm_X0 4 rfl rfl 8 (by decide) q_8_4 rfl rfl dX3_beside_56 ?_
            refine wa_iload fx 4 dX3_beside_59 rfl ?_
            refine wa_iald (f := (w11 1).1 8) fx 13 rfl dX3_beside_61 h (fun h => ?_)
            refine wa_iconst fx (1 : Int32) dX3_beside_62 (by decide) ?_
            refine wa_isub fx dX3_beside_63 ?_
            refine wa_istoreN fx (fun x19 => [(5, .int x19), (0, .ref (ad 0)), (1, .int x7), (2, .int x8), (3, .int x9), (4, .int x10)]) dX3_beside_64 (by decide) (fun _ => rfl) h (fun x19 h => ?_)
            refine wa_sub [1, 2, 3, 4, 5, 0] rfl ?_
            exact B66 (f_X3_beside_l21 n) ih 200 x7 x8 x9 x10 x19 w11 h
  refine wa_aload_n fx 0 dX3_beside_0 rfl ?_
  refine wa_iload_n fx 1 dX3_beside_1 rfl ?_
  refine wa_V (b := ad 0) (rmc := (rmh 2)) (As := [.int a1]) (st := []) (wc := (wc_ws g ad G)) (wr := ([] : va_W)) (wcz := fun _ => (wc_ws g ad G)) (w2 := fun _ => (wc_ws g ad G)) (o := fun z1 => some (.int z1)) (s2 := fun z1 => [.int z1]) (ci := 3) (q0 := 0) fx mm_X3_isThere q_8_5 dX3_beside_2 h (fun _ hz => c_X3_isThere hz) rfl rfl (rm_ok (by decide) (by decide)) ⟨Nat.zero_le _, Nat.zero_le _⟩ rfl (List.Perm.refl _) (fun _ => (List.Perm.refl _)) rfl (Nat.le_of_ble_eq_true rfl) (fun _ => rfl) (fun z1 h => ?_)
  refine wa_if_ne fx 14 dX3_beside_5 (by decide) h (fun h => ?_) (fun h => ?_)
  · refine wa_aload_n fx 0 dX3_beside_8 rfl ?_
    refine wa_iconst fx (0 : Int32) dX3_beside_9 (by decide) ?_
    refine wa_V (b := ad 0) (rmc := (rmh 1)) (As := [.int (0 : Int32)]) (st := []) (wc := (wc_ws g ad G)) (wr := ([] : va_W)) (wcz := fun z46 => wc_ws g ad z46.2) (w2 := fun z46 => wc_ws g ad z46.2) (o := fun z46 => some (.int z46.1)) (s2 := fun z46 => [.int z46.1]) (ci := 3) (q0 := 0) fx mm_X3_finding q_4_17 dX3_beside_10 h (fun _ hz => c_X3_finding hz) rfl rfl (rm_ok (by decide) (by decide)) ⟨Nat.zero_le _, Nat.zero_le _⟩ rfl (List.Perm.refl _) (fun _ => List.Perm.refl _) rfl (Nat.le_of_ble_eq_true rfl) (fun _ => rfl) (fun z46 h => ?_)
    exact fn_i (wc_ws g ad) fx hf (sn1 h) (sn2 h) dX3_beside_13
  · refine wa_iconst fx (-1 : Int32) dX3_beside_14 (by decide) ?_
    refine wa_istore_n fx [(2, .int (-1 : Int32)), (0, .ref (ad 0)), (1, .int a1)] dX3_beside_15 rfl (by decide) rfl ?_
    refine wa_iconst fx (0 : Int32) dX3_beside_16 (by decide) ?_
    refine wa_istore_n fx [(3, .int (0 : Int32)), (2, .int (-1 : Int32)), (0, .ref (ad 0)), (1, .int a1)] dX3_beside_17 rfl (by decide) rfl ?_
    refine wa_iconst fx (0 : Int32) dX3_beside_18 (by decide) ?_
    refine wa_istore fx [(4, .int (0 : Int32)), (3, .int (0 : Int32)), (2, .int (-1 : Int32)), (0, .ref (ad 0)), (1, .int a1)] dX3_beside_19 (by decide) rfl ?_
    refine wa_sub [3, 4, 2, 1, 0] rfl ?_
    exact B21 200 a1 (-1 : Int32) (0 : Int32) (0 : Int32) G h
def f_X3_feed_l39 : Nat → (Int32) → (Int32) → (Nat → StT) → Option (Int32 × (Nat → StT))
  | 0, _, _, _ => none
  | n + 1, x6, x7, w8 => if x7 < 0 then (some (((w8 4).2.2 0), w8)) else (Option.bind (f_X2_append (w8 4) ((UInt32.toInt32 (Int32.toUInt32 x6 >>> (Int32.toUInt32 ((8 : Int32) * x7) &&& Int32.toUInt32 31))) &&& (255 : Int32))) fun z9 => nm (gset w8 4 z9) fun w10 => nm (x7 + (-1 : Int32)) fun x11 => (f_X3_feed_l39 n) x6 x11 w10)
def f_X3_feed  (G : Nat → StT) (a1 : Int32) (a2 : Int32) : Option (Int32 × (Nat → StT)) := Option.bind (f_X3_isWithin a2 (1 : Int32) (4 : Int32)) fun z1 => if z1 = 0 then (Option.bind (f_X3_finding G (0 : Int32)) fun z13 => some (z13.1, z13.2)) else (if (((G 4).2.2 0) + a2) ≤ (120 : Int32) then (nm (a2 - (1 : Int32)) fun x2 => f_X3_feed_l39 200 a1 x2 G) else (Option.bind (f_X3_finding G (1 : Int32)) fun z12 => some (z12.1, z12.2)))
set_option maxHeartbeats 4000000 in
set_option maxRecDepth 100000 in
theorem c_X3_feed {g : GT} {l : Launch} {ad : Nat → Nat}   {G : Nat → StT} {a1 : Int32} {a2 : Int32} {r : Int32 × (Nat → StT)} (h : f_X3_feed G a1 a2 = some r) : Ct g l yX3_feed (wd yX3_feed cX3_feed 4 (some .int)) (rmh 2) [.ref (ad 0), .int a1, .int a2] (wc_ws g ad G) (wc_ws g ad r.2) (some (.int r.1)) := by
  refine Ct.of (lv := [(0, .ref (ad 0)), (1, .int a1), (2, .int a2)]) (by decide) (Nat.le_of_ble_eq_true rfl) rfl (fun K hl fx hf => ?_)
  subst hl
  rw [f_X3_feed] at h
  have B39 : ∀  (n : Nat) (x6 : Int32) (x7 : Int32) (w8 : Nat → StT), f_X3_feed_l39 n x6 x7 w8 = some r → WA g K 4 0 0 39 [(0, .ref (ad 0)), (1, .int x6), (3, .int x7)] [] (wc_ws g ad w8) := by
    intro   n
    induction n with
    | zero => intro x6 x7 w8 h; exact absurd h (by rw [f_X3_feed_l39]; exact nofun)
    | succ n ih =>
      intro x6 x7 w8 h
      rw [f_X3_feed_l39] at h
      refine wa_iload_n fx 2 dX3_feed_39 rfl ?_
      refine wa_if_lt fx 66 dX3_feed_40 (by decide) h (fun h => ?_) (fun h => ?_)
      · refine wa_aload_n fx 0 dX3_feed_66 rfl ?_
        refine wa_get (v := .ref ((adr ad 31) 0)) fx wm_X3 0 rfl rfl 4 (by decide) q_1_23 rfl rfl dX3_feed_67 ?_
        refine wa_get (v := .int ((w8 4).2.2 0)) fx wm_X2 34 rfl rfl 1 (by decide) q_24_23 rfl rfl dX3_feed_70 ?_
        exact fn_i (wc_ws g ad) fx hf (sn1 h) (sn2 h) dX3_feed_73
      · refine wa_aload_n fx 0 dX3_feed_43 rfl ?_
        refine wa_get (v := .ref ((adr ad 31) 0)) fx wm_X3 0 rfl rfl 4 (by decide) q_1_23 rfl rfl dX3_feed_44 ?_
        refine wa_iload_n fx 1 dX3_feed_47 rfl ?_
        refine wa_bipush fx (8 : Int32) dX3_feed_48 (by decide) ?_
        refine wa_iload_n fx 2 dX3_feed_50 rfl ?_
        refine wa_imul fx dX3_feed_51 ?_
        refine wa_iushr fx dX3_feed_52 ?_
        refine wa_sipush fx (255 : Int32) dX3_feed_53 (by decide) ?_
        refine wa_iand fx dX3_feed_56 ?_
        refine wa_V (b := (adr ad 31) 0) (rmc := (rmh 1)) (As := [.int ((UInt32.toInt32 (Int32.toUInt32 x6 >>> (Int32.toUInt32 ((8 : Int32) * x7) &&& Int32.toUInt32 31))) &&& (255 : Int32))]) (st := []) (wc := (tx_ws g (adr ad 31) (w8 4))) (wr := (wr4 g ad w8)) (wcz := fun z9 => tx_ws g (adr ad 31) z9) (w2 := fun z9 => wc_ws g ad (gset w8 4 z9)) (o := fun _ => none) (s2 := fun z9 => []) (ci := 2) (q0 := 0) fx mm_X2_append q_25_0 dX3_feed_57 h (fun _ hz => c_X2_append hz) rfl rfl (rm_ok (by decide) (by decide)) ⟨Nat.zero_le _, Nat.zero_le _⟩ rfl (sq4 g ad w8) (fun _ => sp4 g ad w8 _) rfl (Nat.le_of_ble_eq_true rfl) (fun _ => rfl) (fun z9 h => ?_)
        refine nm_w (wc_ws g ad) h (fun w10 h => ?_)
        refine wa_iinc fx 2 (fun x11 => [(3, .int x11), (0, .ref (ad 0)), (1, .int x6)]) dX3_feed_60 rfl (by rfl) (by decide) (fun _ => rfl) h (fun x11 h => ?_)
        refine wa_goto fx 39 dX3_feed_63 (by decide) ?_
        refine wa_sub [1, 2, 0] rfl ?_
        exact ih x6 x11 w10 h
  refine wa_iload_n fx 2 dX3_feed_0 rfl ?_
  refine wa_iconst fx (1 : Int32) dX3_feed_1 (by decide) ?_
  refine wa_iconst fx (4 : Int32) dX3_feed_2 (by decide) ?_
  refine wa_S (rmc := (rmh 1)) (As := [.int a2, .int (1 : Int32), .int (4 : Int32)]) (st := []) (wc := (no_ws ())) (wr := (wc_ws g ad G)) (wcz := fun _ => (no_ws ())) (w2 := fun _ => (wc_ws g ad G)) (o := fun z1 => some (.int z1)) (s2 := fun z1 => [.int z1]) fx mm_X3_isWithin q_4_14 dX3_feed_3 h (fun _ hz => c_X3_isWithin hz) (rm_ok (by decide) (by decide)) ⟨Nat.zero_le _, Nat.zero_le _⟩ rfl (List.Perm.of_eq (List.append_nil _).symm) (fun _ => (List.Perm.of_eq (List.append_nil _).symm)) rfl (Nat.le_of_ble_eq_true rfl) (fun _ => rfl) (fun z1 h => ?_)
  refine wa_if_ne fx 15 dX3_feed_6 (by decide) h (fun h => ?_) (fun h => ?_)
  · refine wa_aload_n fx 0 dX3_feed_9 rfl ?_
    refine wa_iconst fx (0 : Int32) dX3_feed_10 (by decide) ?_
    refine wa_V (b := ad 0) (rmc := (rmh 1)) (As := [.int (0 : Int32)]) (st := []) (wc := (wc_ws g ad G)) (wr := ([] : va_W)) (wcz := fun z13 => wc_ws g ad z13.2) (w2 := fun z13 => wc_ws g ad z13.2) (o := fun z13 => some (.int z13.1)) (s2 := fun z13 => [.int z13.1]) (ci := 3) (q0 := 0) fx mm_X3_finding q_4_17 dX3_feed_11 h (fun _ hz => c_X3_finding hz) rfl rfl (rm_ok (by decide) (by decide)) ⟨Nat.zero_le _, Nat.zero_le _⟩ rfl (List.Perm.refl _) (fun _ => List.Perm.refl _) rfl (Nat.le_of_ble_eq_true rfl) (fun _ => rfl) (fun z13 h => ?_)
    exact fn_i (wc_ws g ad) fx hf (sn1 h) (sn2 h) dX3_feed_14
  · refine wa_aload_n fx 0 dX3_feed_15 rfl ?_
    refine wa_get (v := .ref ((adr ad 31) 0)) fx wm_X3 0 rfl rfl 4 (by decide) q_1_23 rfl rfl dX3_feed_16 ?_
    refine wa_get (v := .int ((G 4).2.2 0)) fx wm_X2 34 rfl rfl 1 (by decide) q_24_23 rfl rfl dX3_feed_19 ?_
    refine wa_iload_n fx 2 dX3_feed_22 rfl ?_
    refine wa_iadd fx dX3_feed_23 ?_
    refine wa_bipush fx (120 : Int32) dX3_feed_24 (by decide) ?_
    refine wa_icmp_le fx 35 dX3_feed_26 (by decide) h (fun h => ?_) (fun h => ?_)
    · refine wa_iload_n fx 2 dX3_feed_35 rfl ?_
      refine wa_iconst fx (1 : Int32) dX3_feed_36 (by decide) ?_
      refine wa_isub fx dX3_feed_37 ?_
      refine wa_istore_nN fx (fun x2 => [(3, .int x2), (0, .ref (ad 0)), (1, .int a1), (2, .int a2)]) dX3_feed_38 rfl (by decide) (fun _ => rfl) h (fun x2 h => ?_)
      refine wa_sub [1, 2, 0] rfl ?_
      exact B39 200 a1 x2 G h
    · refine wa_aload_n fx 0 dX3_feed_29 rfl ?_
      refine wa_iconst fx (1 : Int32) dX3_feed_30 (by decide) ?_
      refine wa_V (b := ad 0) (rmc := (rmh 1)) (As := [.int (1 : Int32)]) (st := []) (wc := (wc_ws g ad G)) (wr := ([] : va_W)) (wcz := fun z12 => wc_ws g ad z12.2) (w2 := fun z12 => wc_ws g ad z12.2) (o := fun z12 => some (.int z12.1)) (s2 := fun z12 => [.int z12.1]) (ci := 3) (q0 := 0) fx mm_X3_finding q_4_17 dX3_feed_31 h (fun _ hz => c_X3_finding hz) rfl rfl (rm_ok (by decide) (by decide)) ⟨Nat.zero_le _, Nat.zero_le _⟩ rfl (List.Perm.refl _) (fun _ => List.Perm.refl _) rfl (Nat.le_of_ble_eq_true rfl) (fun _ => rfl) (fun z12 h => ?_)
      exact fn_i (wc_ws g ad) fx hf (sn1 h) (sn2 h) dX3_feed_34
def f_X3_wipe  (G : Nat → StT) : Option (Int32 × (Nat → StT)) := nm ((G 4).2.2 0) fun x1 => nm (gset G 4 (setF (G 4) 0 (0 : Int32))) fun w2 => some (x1, w2)
set_option maxHeartbeats 4000000 in
set_option maxRecDepth 100000 in
theorem c_X3_wipe {g : GT} {l : Launch} {ad : Nat → Nat}   {G : Nat → StT} {r : Int32 × (Nat → StT)} (h : f_X3_wipe G = some r) : Ct g l yX3_wipe (wd yX3_wipe cX3_wipe 2 (some .int)) (rmh 1) [.ref (ad 0)] (wc_ws g ad G) (wc_ws g ad r.2) (some (.int r.1)) := by
  refine Ct.of (lv := [(0, .ref (ad 0))]) (by decide) (Nat.le_of_ble_eq_true rfl) rfl (fun K hl fx hf => ?_)
  subst hl
  rw [f_X3_wipe] at h
  refine wa_aload_n fx 0 dX3_wipe_0 rfl ?_
  refine wa_get (v := .ref ((adr ad 31) 0)) fx wm_X3 0 rfl rfl 4 (by decide) q_1_23 rfl rfl dX3_wipe_1 ?_
  refine wa_get (v := .int ((G 4).2.2 0)) fx wm_X2 34 rfl rfl 1 (by decide) q_24_23 rfl rfl dX3_wipe_4 ?_
  refine wa_istore_nN fx (fun x1 => [(1, .int x1), (0, .ref (ad 0))]) dX3_wipe_7 rfl (by decide) (fun _ => rfl) h (fun x1 h => ?_)
  refine wa_aload_n fx 1 dX3_wipe_8 rfl ?_
  refine wa_get (v := .ref ((adr ad 31) 0)) fx wm_X3 0 rfl rfl 4 (by decide) q_1_23 rfl rfl dX3_wipe_9 ?_
  refine wa_iconst fx (0 : Int32) dX3_wipe_12 (by decide) ?_
  refine wa_put (wc_ws g ad) fx wm_X2 tyX2 tyX2_ok nmX2 34 rfl rfl 1 (by decide) q_24_23 rfl rfl rfl rfl (Nat.le_of_ble_eq_true rfl) dX3_wipe_13 h rfl (fun w2 h => ?_)
  refine wa_iload_n fx 0 dX3_wipe_16 rfl ?_
  exact fn_i (wc_ws g ad) fx hf (sn1 h) (sn2 h) dX3_wipe_17
def f_X3_room  (G : Nat → StT) : Option (Int32 × (Nat → StT)) := Option.bind (f_X0_become (G 2, G 1)) fun z1 => nm (gset (gset G 2 z1.1) 1 z1.2) fun w2 => Option.bind (f_X2_comesTo (w2 4, w2 2)) fun z3 => nm (gset (gset w2 4 z3.2.1) 2 z3.2.2) fun w4 => nm z3.1 fun x5 => nm (gset w4 4 (setF (w4 4) 0 (0 : Int32))) fun w6 => if x5 = 0 then (some (((-1 : Int32) - ((w6 4).2.2 3)), w6)) else (Option.bind (f_X0_become (w6 1, w6 2)) fun z7 => nm (gset (gset w6 1 z7.1) 2 z7.2) fun w8 => some (((w8 4).2.2 1), w8))
set_option maxHeartbeats 4000000 in
set_option maxRecDepth 100000 in
theorem c_X3_room {g : GT} {l : Launch} {ad : Nat → Nat}   {G : Nat → StT} {r : Int32 × (Nat → StT)} (h : f_X3_room G = some r) : Ct g l yX3_room (wd yX3_room cX3_room 2 (some .int)) (rmh 11) [.ref (ad 0)] (wc_ws g ad G) (wc_ws g ad r.2) (some (.int r.1)) := by
  refine Ct.of (lv := [(0, .ref (ad 0))]) (by decide) (Nat.le_of_ble_eq_true rfl) rfl (fun K hl fx hf => ?_)
  subst hl
  rw [f_X3_room] at h
  refine wa_aload_n fx 0 dX3_room_0 rfl ?_
  refine wa_get (v := .ref ((adr ad 11) 0)) fx wm_X3 0 rfl rfl 1 (by decide) q_1_17 rfl rfl dX3_room_1 ?_
  refine wa_aload_n fx 0 dX3_room_4 rfl ?_
  refine wa_get (v := .ref ((adr ad 1) 0)) fx wm_X3 0 rfl rfl 0 (by decide) q_1_16 rfl rfl dX3_room_5 ?_
  refine wa_V (b := (adr ad 11) 0) (rmc := (rmh 2)) (As := [.ref ((adr ad 1) 0)]) (st := []) (wc := (bb_ws g (adr ad 11) (adr ad 1) (G 2, G 1))) (wr := (wr21 g ad G)) (wcz := fun z1 => bb_ws g (adr ad 11) (adr ad 1) z1) (w2 := fun z1 => wc_ws g ad (gset (gset G 2 z1.1) 1 z1.2)) (o := fun _ => none) (s2 := fun z1 => []) (ci := 0) (q0 := 0) fx mm_X0_become q_18_20 dX3_room_8 h (fun _ hz => c_X0_become hz) rfl rfl (rm_ok (by decide) (by decide)) ⟨Nat.zero_le _, Nat.zero_le _⟩ rfl (sq21 g ad G) (fun _ => sp21 g ad G _) rfl (Nat.le_of_ble_eq_true rfl) (fun _ => rfl) (fun z1 h => ?_)
  refine nm_w (wc_ws g ad) h (fun w2 h => ?_)
  refine wa_aload_n fx 0 dX3_room_11 rfl ?_
  refine wa_get (v := .ref ((adr ad 31) 0)) fx wm_X3 0 rfl rfl 4 (by decide) q_1_23 rfl rfl dX3_room_12 ?_
  refine wa_aload_n fx 0 dX3_room_15 rfl ?_
  refine wa_get (v := .ref ((adr ad 11) 0)) fx wm_X3 0 rfl rfl 1 (by decide) q_1_17 rfl rfl dX3_room_16 ?_
  refine wa_V (b := (adr ad 31) 0) (rmc := (rmh 10)) (As := [.ref ((adr ad 11) 0)]) (st := []) (wc := (tr_ws g (adr ad 31) (adr ad 11) (w2 4, w2 2))) (wr := (wr42 g ad w2)) (wcz := fun z3 => tr_ws g (adr ad 31) (adr ad 11) z3.2) (w2 := fun z3 => wc_ws g ad (gset (gset w2 4 z3.2.1) 2 z3.2.2)) (o := fun z3 => some (.int z3.1)) (s2 := fun z3 => [.int z3.1]) (ci := 2) (q0 := 0) fx mm_X2_comesTo q_26_1 dX3_room_19 h (fun _ hz => c_X2_comesTo hz) rfl rfl (rm_ok (by decide) (by decide)) ⟨Nat.zero_le _, Nat.zero_le _⟩ rfl (sq42 g ad w2) (fun _ => sp42 g ad w2 _) rfl (Nat.le_of_ble_eq_true rfl) (fun _ => rfl) (fun z3 h => ?_)
  refine nm_w (wc_ws g ad) h (fun w4 h => ?_)
  refine wa_istore_nN fx (fun x5 => [(1, .int x5), (0, .ref (ad 0))]) dX3_room_22 rfl (by decide) (fun _ => rfl) h (fun x5 h => ?_)
  refine wa_aload_n fx 1 dX3_room_23 rfl ?_
  refine wa_get (v := .ref ((adr ad 31) 0)) fx wm_X3 0 rfl rfl 4 (by decide) q_1_23 rfl rfl dX3_room_24 ?_
  refine wa_iconst fx (0 : Int32) dX3_room_27 (by decide) ?_
  refine wa_put (wc_ws g ad) fx wm_X2 tyX2 tyX2_ok nmX2 34 rfl rfl 1 (by decide) q_24_23 rfl rfl rfl rfl (Nat.le_of_ble_eq_true rfl) dX3_room_28 h rfl (fun w6 h => ?_)
  refine wa_iload_n fx 0 dX3_room_31 rfl ?_
  refine wa_if_ne fx 45 dX3_room_32 (by decide) h (fun h => ?_) (fun h => ?_)
  · refine wa_iconst fx (-1 : Int32) dX3_room_35 (by decide) ?_
    refine wa_aload_n fx 1 dX3_room_36 rfl ?_
    refine wa_get (v := .ref ((adr ad 31) 0)) fx wm_X3 0 rfl rfl 4 (by decide) q_1_23 rfl rfl dX3_room_37 ?_
    refine wa_get (v := .int ((w6 4).2.2 3)) fx wm_X2 34 rfl rfl 4 (by decide) q_25_23 rfl rfl dX3_room_40 ?_
    refine wa_isub fx dX3_room_43 ?_
    exact fn_i (wc_ws g ad) fx hf (sn1 h) (sn2 h) dX3_room_44
  · refine wa_aload_n fx 1 dX3_room_45 rfl ?_
    refine wa_get (v := .ref ((adr ad 1) 0)) fx wm_X3 0 rfl rfl 0 (by decide) q_1_16 rfl rfl dX3_room_46 ?_
    refine wa_aload_n fx 1 dX3_room_49 rfl ?_
    refine wa_get (v := .ref ((adr ad 11) 0)) fx wm_X3 0 rfl rfl 1 (by decide) q_1_17 rfl rfl dX3_room_50 ?_
    refine wa_V (b := (adr ad 1) 0) (rmc := (rmh 2)) (As := [.ref ((adr ad 11) 0)]) (st := []) (wc := (bb_ws g (adr ad 1) (adr ad 11) (w6 1, w6 2))) (wr := (wr12 g ad w6)) (wcz := fun z7 => bb_ws g (adr ad 1) (adr ad 11) z7) (w2 := fun z7 => wc_ws g ad (gset (gset w6 1 z7.1) 2 z7.2)) (o := fun _ => none) (s2 := fun z7 => []) (ci := 0) (q0 := 0) fx mm_X0_become q_18_20 dX3_room_53 h (fun _ hz => c_X0_become hz) rfl rfl (rm_ok (by decide) (by decide)) ⟨Nat.zero_le _, Nat.zero_le _⟩ rfl (sq12 g ad w6) (fun _ => sp12 g ad w6 _) rfl (Nat.le_of_ble_eq_true rfl) (fun _ => rfl) (fun z7 h => ?_)
    refine nm_w (wc_ws g ad) h (fun w8 h => ?_)
    refine wa_aload_n fx 1 dX3_room_56 rfl ?_
    refine wa_get (v := .ref ((adr ad 31) 0)) fx wm_X3 0 rfl rfl 4 (by decide) q_1_23 rfl rfl dX3_room_57 ?_
    refine wa_get (v := .int ((w8 4).2.2 1)) fx wm_X2 34 rfl rfl 2 (by decide) q_26_0 rfl rfl dX3_room_60 ?_
    exact fn_i (wc_ws g ad) fx hf (sn1 h) (sn2 h) dX3_room_63
def f_X3_sheet_b35 (x3 : Int32) (x4 : Int32) (x5 : Int32) (w6 : Nat → StT) : Option (Int32 × (Nat → StT)) := if 0 ≤ x5 then (if x5 ≤ (40 : Int32) then (ck x3 4 (nm (Int32.toNatClampNeg x3) fun k7 => Option.bind (f_X1_renew (w6 (5 + k7)) x4 x5) fun z8 => nm (gset w6 (5 + k7) z8.2) fun w9 => some (z8.1, w9))) else (Option.bind (f_X3_finding w6 (0 : Int32)) fun z10 => some (z10.1, z10.2))) else (Option.bind (f_X3_finding w6 (6 : Int32)) fun z11 => some (z11.1, z11.2))
def f_X3_sheet  (G : Nat → StT) (a1 : Int32) (a2 : Int32) (a3 : Int32) : Option (Int32 × (Nat → StT)) := Option.bind (f_X3_isSheet a1) fun z1 => if z1 = 0 then (Option.bind (f_X3_finding G (0 : Int32)) fun z2 => some (z2.1, z2.2)) else (if a2 = 0 then (f_X3_sheet_b35 a1 a2 a3 G) else (if a2 = (8 : Int32) then (f_X3_sheet_b35 a1 a2 a3 G) else (if a2 = (16 : Int32) then (f_X3_sheet_b35 a1 a2 a3 G) else (if a2 = (64 : Int32) then (f_X3_sheet_b35 a1 a2 a3 G) else (Option.bind (f_X3_finding G (0 : Int32)) fun z12 => some (z12.1, z12.2))))))
set_option maxHeartbeats 4000000 in
set_option maxRecDepth 100000 in
theorem c_X3_sheet {g : GT} {l : Launch} {ad : Nat → Nat}   {G : Nat → StT} {a1 : Int32} {a2 : Int32} {a3 : Int32} {r : Int32 × (Nat → StT)} (h : f_X3_sheet G a1 a2 a3 = some r) : Ct g l yX3_sheet (wd yX3_sheet cX3_sheet 4 (some .int)) (rmh 3) [.ref (ad 0), .int a1, .int a2, .int a3] (wc_ws g ad G) (wc_ws g ad r.2) (some (.int r.1)) := by
  refine Ct.of (lv := [(0, .ref (ad 0)), (1, .int a1), (2, .int a2), (3, .int a3)]) (by decide) (Nat.le_of_ble_eq_true rfl) rfl (fun K hl fx hf => ?_)
  subst hl
  rw [f_X3_sheet] at h
  have B35 : ∀  (x3 : Int32) (x4 : Int32) (x5 : Int32) (w6 : Nat → StT), f_X3_sheet_b35 x3 x4 x5 w6 = some r → WA g K 4 0 0 35 [(0, .ref (ad 0)), (1, .int x3), (2, .int x4), (3, .int x5)] [] (wc_ws g ad w6) := by
    intro   x3 x4 x5 w6 h
    rw [f_X3_sheet_b35] at h
    refine wa_iload_n fx 3 dX3_sheet_35 rfl ?_
    refine wa_if_ge fx 46 dX3_sheet_36 (by decide) h (fun h => ?_) (fun h => ?_)
    · refine wa_iload_n fx 3 dX3_sheet_46 rfl ?_
      refine wa_bipush fx (40 : Int32) dX3_sheet_47 (by decide) ?_
      refine wa_icmp_le fx 58 dX3_sheet_49 (by decide) h (fun h => ?_) (fun h => ?_)
      · refine wa_aload_n fx 0 dX3_sheet_58 rfl ?_
        refine wa_get (v := .ref (ad 33)) fx wm_X3 0 rfl rfl 5 (by decide) q_2_1 rfl rfl dX3_sheet_59 ?_
        refine wa_iload_n fx 1 dX3_sheet_62 rfl ?_
        refine wa_aaldN ad fx dX3_sheet_63 h (fun k7 hk_k7 h => ?_)
        refine wa_iload_n fx 2 dX3_sheet_64 rfl ?_
        refine wa_iload_n fx 3 dX3_sheet_65 rfl ?_
        refine wa_V (b := adr ad (34 + 2 * k7) 0) (rmc := (rmh 2)) (As := [.int x4, .int x5]) (st := []) (wc := (sh_ws g (adr ad (34 + 2 * k7)) (w6 (5 + k7)))) (wr := (wrs g ad w6 k7)) (wcz := fun z8 => sh_ws g (adr ad (34 + 2 * k7)) z8.2) (w2 := fun z8 => wc_ws g ad (gset w6 (5 + k7) z8.2)) (o := fun z8 => some (.int z8.1)) (s2 := fun z8 => [.int z8.1]) (ci := 1) (q0 := 0) fx mm_X1_renew q_34_15 dX3_sheet_66 h (fun _ hz => c_X1_renew hz) rfl rfl (rm_ok (by decide) (by decide)) ⟨Nat.zero_le _, Nat.zero_le _⟩ rfl (sqs g ad w6 hk_k7) (fun _ => sps g ad w6 hk_k7 _) rfl (Nat.le_of_ble_eq_true rfl) (fun _ => rfl) (fun z8 h => ?_)
        refine nm_w (wc_ws g ad) h (fun w9 h => ?_)
        exact fn_i (wc_ws g ad) fx hf (sn1 h) (sn2 h) dX3_sheet_69
      · refine wa_aload_n fx 0 dX3_sheet_52 rfl ?_
        refine wa_iconst fx (0 : Int32) dX3_sheet_53 (by decide) ?_
        refine wa_V (b := ad 0) (rmc := (rmh 1)) (As := [.int (0 : Int32)]) (st := []) (wc := (wc_ws g ad w6)) (wr := ([] : va_W)) (wcz := fun z10 => wc_ws g ad z10.2) (w2 := fun z10 => wc_ws g ad z10.2) (o := fun z10 => some (.int z10.1)) (s2 := fun z10 => [.int z10.1]) (ci := 3) (q0 := 0) fx mm_X3_finding q_4_17 dX3_sheet_54 h (fun _ hz => c_X3_finding hz) rfl rfl (rm_ok (by decide) (by decide)) ⟨Nat.zero_le _, Nat.zero_le _⟩ rfl (List.Perm.refl _) (fun _ => List.Perm.refl _) rfl (Nat.le_of_ble_eq_true rfl) (fun _ => rfl) (fun z10 h => ?_)
        exact fn_i (wc_ws g ad) fx hf (sn1 h) (sn2 h) dX3_sheet_57
    · refine wa_aload_n fx 0 dX3_sheet_39 rfl ?_
      refine wa_bipush fx (6 : Int32) dX3_sheet_40 (by decide) ?_
      refine wa_V (b := ad 0) (rmc := (rmh 1)) (As := [.int (6 : Int32)]) (st := []) (wc := (wc_ws g ad w6)) (wr := ([] : va_W)) (wcz := fun z11 => wc_ws g ad z11.2) (w2 := fun z11 => wc_ws g ad z11.2) (o := fun z11 => some (.int z11.1)) (s2 := fun z11 => [.int z11.1]) (ci := 3) (q0 := 0) fx mm_X3_finding q_4_17 dX3_sheet_42 h (fun _ hz => c_X3_finding hz) rfl rfl (rm_ok (by decide) (by decide)) ⟨Nat.zero_le _, Nat.zero_le _⟩ rfl (List.Perm.refl _) (fun _ => List.Perm.refl _) rfl (Nat.le_of_ble_eq_true rfl) (fun _ => rfl) (fun z11 h => ?_)
      exact fn_i (wc_ws g ad) fx hf (sn1 h) (sn2 h) dX3_sheet_45
  refine wa_iload_n fx 1 dX3_sheet_0 rfl ?_
  refine wa_S (rmc := (rmh 2)) (As := [.int a1]) (st := []) (wc := (no_ws ())) (wr := (wc_ws g ad G)) (wcz := fun _ => (no_ws ())) (w2 := fun _ => (wc_ws g ad G)) (o := fun z1 => some (.int z1)) (s2 := fun z1 => [.int z1]) fx mm_X3_isSheet q_34_12 dX3_sheet_1 h (fun _ hz => c_X3_isSheet hz) (rm_ok (by decide) (by decide)) ⟨Nat.zero_le _, Nat.zero_le _⟩ rfl (List.Perm.of_eq (List.append_nil _).symm) (fun _ => (List.Perm.of_eq (List.append_nil _).symm)) rfl (Nat.le_of_ble_eq_true rfl) (fun _ => rfl) (fun z1 h => ?_)
  refine wa_if_eq fx 29 dX3_sheet_4 (by decide) h (fun h => ?_) (fun h => ?_)
  · refine wa_aload_n fx 0 dX3_sheet_29 rfl ?_
    refine wa_iconst fx (0 : Int32) dX3_sheet_30 (by decide) ?_
    refine wa_V (b := ad 0) (rmc := (rmh 1)) (As := [.int (0 : Int32)]) (st := []) (wc := (wc_ws g ad G)) (wr := ([] : va_W)) (wcz := fun z2 => wc_ws g ad z2.2) (w2 := fun z2 => wc_ws g ad z2.2) (o := fun z2 => some (.int z2.1)) (s2 := fun z2 => [.int z2.1]) (ci := 3) (q0 := 0) fx mm_X3_finding q_4_17 dX3_sheet_31 h (fun _ hz => c_X3_finding hz) rfl rfl (rm_ok (by decide) (by decide)) ⟨Nat.zero_le _, Nat.zero_le _⟩ rfl (List.Perm.refl _) (fun _ => List.Perm.refl _) rfl (Nat.le_of_ble_eq_true rfl) (fun _ => rfl) (fun z2 h => ?_)
    exact fn_i (wc_ws g ad) fx hf (sn1 h) (sn2 h) dX3_sheet_34
  · refine wa_iload_n fx 2 dX3_sheet_7 rfl ?_
    refine wa_if_eq fx 35 dX3_sheet_8 (by decide) h (fun h => ?_) (fun h => ?_)
    · refine wa_sub [0, 1, 2, 3] rfl ?_
      exact B35 a1 a2 a3 G h
    · refine wa_iload_n fx 2 dX3_sheet_11 rfl ?_
      refine wa_bipush fx (8 : Int32) dX3_sheet_12 (by decide) ?_
      refine wa_icmp_eq fx 35 dX3_sheet_14 (by decide) h (fun h => ?_) (fun h => ?_)
      · refine wa_sub [0, 1, 2, 3] rfl ?_
        exact B35 a1 a2 a3 G h
      · refine wa_iload_n fx 2 dX3_sheet_17 rfl ?_
        refine wa_bipush fx (16 : Int32) dX3_sheet_18 (by decide) ?_
        refine wa_icmp_eq fx 35 dX3_sheet_20 (by decide) h (fun h => ?_) (fun h => ?_)
        · refine wa_sub [0, 1, 2, 3] rfl ?_
          exact B35 a1 a2 a3 G h
        · refine wa_iload_n fx 2 dX3_sheet_23 rfl ?_
          refine wa_bipush fx (64 : Int32) dX3_sheet_24 (by decide) ?_
          refine wa_icmp_eq fx 35 dX3_sheet_26 (by decide) h (fun h => ?_) (fun h => ?_)
          · refine wa_sub [0, 1, 2, 3] rfl ?_
            exact B35 a1 a2 a3 G h
          · refine wa_aload_n fx 0 dX3_sheet_29 rfl ?_
            refine wa_iconst fx (0 : Int32) dX3_sheet_30 (by decide) ?_
            refine wa_V (b := ad 0) (rmc := (rmh 1)) (As := [.int (0 : Int32)]) (st := []) (wc := (wc_ws g ad G)) (wr := ([] : va_W)) (wcz := fun z12 => wc_ws g ad z12.2) (w2 := fun z12 => wc_ws g ad z12.2) (o := fun z12 => some (.int z12.1)) (s2 := fun z12 => [.int z12.1]) (ci := 3) (q0 := 0) fx mm_X3_finding q_4_17 dX3_sheet_31 h (fun _ hz => c_X3_finding hz) rfl rfl (rm_ok (by decide) (by decide)) ⟨Nat.zero_le _, Nat.zero_le _⟩ rfl (List.Perm.refl _) (fun _ => List.Perm.refl _) rfl (Nat.le_of_ble_eq_true rfl) (fun _ => rfl) (fun z12 h => ?_)
            exact fn_i (wc_ws g ad) fx hf (sn1 h) (sn2 h) dX3_sheet_34
def f_X3_write  (G : Nat → StT) (a1 : Int32) (a2 : Int32) (a3 : Int64) : Option (Int64 × (Nat → StT)) := Option.bind (f_X3_isSheet a1) fun z1 => if z1 = 0 then (Option.bind (f_X3_finding G (0 : Int32)) fun z10 => some ((Int32.toInt64 z10.1), z10.2)) else (ck a1 4 (nm (Int32.toNatClampNeg a1) fun k2 => Option.bind (f_X1_isMissing (G (5 + k2))) fun z3 => if z3 = 0 then (Option.bind (f_X3_isWithin a2 (0 : Int32) (((G (5 + k2)).2.2 1) - (1 : Int32))) fun z4 => if z4 = 0 then (Option.bind (f_X3_finding G (0 : Int32)) fun z8 => some ((Int32.toInt64 z8.1), z8.2)) else (ck a2 40 (nm ((G (5 + k2)).2.1 0 (Int32.toNatClampNeg a2)) fun x5 => Option.bind (f_X1_cut (G (5 + k2)) a3) fun z6 => ck a2 40 (nm (gset G (5 + k2) (setL (G (5 + k2)) 0 (vp_updL ((G (5 + k2)).2.1 0) (Int32.toNatClampNeg a2) z6))) fun w7 => some (x5, w7))))) else (Option.bind (f_X3_finding G (5 : Int32)) fun z9 => some ((Int32.toInt64 z9.1), z9.2))))
set_option maxHeartbeats 4000000 in
set_option maxRecDepth 100000 in
theorem c_X3_write {g : GT} {l : Launch} {ad : Nat → Nat}   {G : Nat → StT} {a1 : Int32} {a2 : Int32} {a3 : Int64} {r : Int64 × (Nat → StT)} (h : f_X3_write G a1 a2 a3 = some r) : Ct g l yX3_write (wd yX3_write cX3_write 8 (some .long)) (rmh 3) [.ref (ad 0), .int a1, .int a2, .long a3] (wc_ws g ad G) (wc_ws g ad r.2) (some (.long r.1)) := by
  refine Ct.of (lv := [(0, .ref (ad 0)), (1, .int a1), (2, .int a2), (3, .long a3)]) (by decide) (Nat.le_of_ble_eq_true rfl) rfl (fun K hl fx hf => ?_)
  subst hl
  rw [f_X3_write] at h
  refine wa_iload_n fx 1 dX3_write_0 rfl ?_
  refine wa_S (rmc := (rmh 2)) (As := [.int a1]) (st := []) (wc := (no_ws ())) (wr := (wc_ws g ad G)) (wcz := fun _ => (no_ws ())) (w2 := fun _ => (wc_ws g ad G)) (o := fun z1 => some (.int z1)) (s2 := fun z1 => [.int z1]) fx mm_X3_isSheet q_34_12 dX3_write_1 h (fun _ hz => c_X3_isSheet hz) (rm_ok (by decide) (by decide)) ⟨Nat.zero_le _, Nat.zero_le _⟩ rfl (List.Perm.of_eq (List.append_nil _).symm) (fun _ => (List.Perm.of_eq (List.append_nil _).symm)) rfl (Nat.le_of_ble_eq_true rfl) (fun _ => rfl) (fun z1 h => ?_)
  refine wa_if_ne fx 14 dX3_write_4 (by decide) h (fun h => ?_) (fun h => ?_)
  · refine wa_aload_n fx 0 dX3_write_7 rfl ?_
    refine wa_iconst fx (0 : Int32) dX3_write_8 (by decide) ?_
    refine wa_V (b := ad 0) (rmc := (rmh 1)) (As := [.int (0 : Int32)]) (st := []) (wc := (wc_ws g ad G)) (wr := ([] : va_W)) (wcz := fun z10 => wc_ws g ad z10.2) (w2 := fun z10 => wc_ws g ad z10.2) (o := fun z10 => some (.int z10.1)) (s2 := fun z10 => [.int z10.1]) (ci := 3) (q0 := 0) fx mm_X3_finding q_4_17 dX3_write_9 h (fun _ hz => c_X3_finding hz) rfl rfl (rm_ok (by decide) (by decide)) ⟨Nat.zero_le _, Nat.zero_le _⟩ rfl (List.Perm.refl _) (fun _ => List.Perm.refl _) rfl (Nat.le_of_ble_eq_true rfl) (fun _ => rfl) (fun z10 h => ?_)
    refine wa_i2l fx dX3_write_12 ?_
    exact fn_l (wc_ws g ad) fx hf (sn1 h) (sn2 h) dX3_write_13
  · refine wa_aload_n fx 0 dX3_write_14 rfl ?_
    refine wa_get (v := .ref (ad 33)) fx wm_X3 0 rfl rfl 5 (by decide) q_2_1 rfl rfl dX3_write_15 ?_
    refine wa_iload_n fx 1 dX3_write_18 rfl ?_
    refine wa_aaldN ad fx dX3_write_19 h (fun k2 hk_k2 h => ?_)
    refine wa_astore fx [(5, .ref (adr ad (34 + 2 * k2) 0)), (0, .ref (ad 0)), (1, .int a1), (2, .int a2), (3, .long a3)] dX3_write_20 (by decide) rfl ?_
    refine wa_aload fx 0 dX3_write_22 rfl ?_
    refine wa_V (b := adr ad (34 + 2 * k2) 0) (rmc := (rmh 1)) (As := []) (st := []) (wc := (sh_ws g (adr ad (34 + 2 * k2)) (G (5 + k2)))) (wr := (wrs g ad G k2)) (wcz := fun _ => (sh_ws g (adr ad (34 + 2 * k2)) (G (5 + k2)))) (w2 := fun _ => (wc_ws g ad G)) (o := fun z3 => some (.int z3)) (s2 := fun z3 => [.int z3]) (ci := 1) (q0 := 0) fx mm_X1_isMissing q_35_14 dX3_write_24 h (fun _ hz => c_X1_isMissing hz) rfl rfl (rm_ok (by decide) (by decide)) ⟨Nat.zero_le _, Nat.zero_le _⟩ rfl (sqs g ad G hk_k2) (fun _ => (sqs g ad G hk_k2)) rfl (Nat.le_of_ble_eq_true rfl) (fun _ => rfl) (fun z3 h => ?_)
    refine wa_if_eq fx 37 dX3_write_27 (by decide) h (fun h => ?_) (fun h => ?_)
    · refine wa_iload_n fx 3 dX3_write_37 rfl ?_
      refine wa_iconst fx (0 : Int32) dX3_write_38 (by decide) ?_
      refine wa_aload fx 0 dX3_write_39 rfl ?_
      refine wa_get (v := .int ((G (5 + k2)).2.2 1)) fx wm_X1 (36 + 2 * k2) (gs_o g ad G hk_k2) rfl 2 (by decide) q_35_12 rfl rfl dX3_write_41 ?_
      refine wa_iconst fx (1 : Int32) dX3_write_44 (by decide) ?_
      refine wa_isub fx dX3_write_45 ?_
      refine wa_S (rmc := (rmh 1)) (As := [.int a2, .int (0 : Int32), .int (((G (5 + k2)).2.2 1) - (1 : Int32))]) (st := []) (wc := (no_ws ())) (wr := (wc_ws g ad G)) (wcz := fun _ => (no_ws ())) (w2 := fun _ => (wc_ws g ad G)) (o := fun z4 => some (.int z4)) (s2 := fun z4 => [.int z4]) fx mm_X3_isWithin q_4_14 dX3_write_46 h (fun _ hz => c_X3_isWithin hz) (rm_ok (by decide) (by decide)) ⟨Nat.zero_le _, Nat.zero_le _⟩ rfl (List.Perm.of_eq (List.append_nil _).symm) (fun _ => (List.Perm.of_eq (List.append_nil _).symm)) rfl (Nat.le_of_ble_eq_true rfl) (fun _ => rfl) (fun z4 h => ?_)
      refine wa_if_ne fx 59 dX3_write_49 (by decide) h (fun h => ?_) (fun h => ?_)
      · refine wa_aload_n fx 1 dX3_write_52 rfl ?_
        refine wa_iconst fx (0 : Int32) dX3_write_53 (by decide) ?_
        refine wa_V (b := ad 0) (rmc := (rmh 1)) (As := [.int (0 : Int32)]) (st := []) (wc := (wc_ws g ad G)) (wr := ([] : va_W)) (wcz := fun z8 => wc_ws g ad z8.2) (w2 := fun z8 => wc_ws g ad z8.2) (o := fun z8 => some (.int z8.1)) (s2 := fun z8 => [.int z8.1]) (ci := 3) (q0 := 0) fx mm_X3_finding q_4_17 dX3_write_54 h (fun _ hz => c_X3_finding hz) rfl rfl (rm_ok (by decide) (by decide)) ⟨Nat.zero_le _, Nat.zero_le _⟩ rfl (List.Perm.refl _) (fun _ => List.Perm.refl _) rfl (Nat.le_of_ble_eq_true rfl) (fun _ => rfl) (fun z8 h => ?_)
        refine wa_i2l fx dX3_write_57 ?_
        exact fn_l (wc_ws g ad) fx hf (sn1 h) (sn2 h) dX3_write_58
      · refine wa_aload fx 0 dX3_write_59 rfl ?_
        refine wa_get (v := .ref ((adr ad (34 + 2 * k2)) 1)) fx wm_X1 (36 + 2 * k2) (gs_o g ad G hk_k2) rfl 0 (by decide) q_35_13 rfl rfl dX3_write_61 ?_
        refine wa_iload_n fx 3 dX3_write_64 rfl ?_
        refine wa_lald (f := (G (5 + k2)).2.1 0) fx (37 + 2 * k2) (gs_n g ad G hk_k2) dX3_write_65 h (fun h => ?_)
        refine wa_lstoreN fx (fun x5 => [(6, .long x5), (5, .ref (adr ad (34 + 2 * k2) 0)), (0, .ref (ad 0)), (1, .int a1), (2, .int a2), (3, .long a3)]) dX3_write_66 (by decide) (fun _ => rfl) h (fun x5 h => ?_)
        refine wa_aload fx 1 dX3_write_68 rfl ?_
        refine wa_get (v := .ref ((adr ad (34 + 2 * k2)) 1)) fx wm_X1 (36 + 2 * k2) (gs_o g ad G hk_k2) rfl 0 (by decide) q_35_13 rfl rfl dX3_write_70 ?_
        refine wa_iload_n fx 4 dX3_write_73 rfl ?_
        refine wa_aload fx 1 dX3_write_74 rfl ?_
        refine wa_lload_n fx 5 dX3_write_76 rfl ?_
        refine wa_V (b := adr ad (34 + 2 * k2) 0) (rmc := (rmh 1)) (As := [.long a3]) (st := [.int a2, .ref ((adr ad (34 + 2 * k2)) 1)]) (wc := (sh_ws g (adr ad (34 + 2 * k2)) (G (5 + k2)))) (wr := (wrs g ad G k2)) (wcz := fun _ => (sh_ws g (adr ad (34 + 2 * k2)) (G (5 + k2)))) (w2 := fun _ => (wc_ws g ad G)) (o := fun z6 => some (.long z6)) (s2 := fun z6 => [.long z6, .int a2, .ref ((adr ad (34 + 2 * k2)) 1)]) (ci := 1) (q0 := 0) fx mm_X1_cut q_35_18 dX3_write_77 h (fun _ hz => c_X1_cut hz) rfl rfl (rm_ok (by decide) (by decide)) ⟨Nat.zero_le _, Nat.zero_le _⟩ rfl (sqs g ad G hk_k2) (fun _ => (sqs g ad G hk_k2)) rfl (Nat.le_of_ble_eq_true rfl) (fun _ => rfl) (fun z6 h => ?_)
        refine wa_last (wc_ws g ad) (f := (G (5 + k2)).2.1 0) fx (37 + 2 * k2) (gs_n g ad G hk_k2) dX3_write_80 h (ss_n g ad G hk_k2 _) (fun w7 h => ?_)
        refine wa_lload fx 0 dX3_write_81 rfl ?_
        exact fn_l (wc_ws g ad) fx hf (sn1 h) (sn2 h) dX3_write_83
    · refine wa_aload_n fx 1 dX3_write_30 rfl ?_
      refine wa_iconst fx (5 : Int32) dX3_write_31 (by decide) ?_
      refine wa_V (b := ad 0) (rmc := (rmh 1)) (As := [.int (5 : Int32)]) (st := []) (wc := (wc_ws g ad G)) (wr := ([] : va_W)) (wcz := fun z9 => wc_ws g ad z9.2) (w2 := fun z9 => wc_ws g ad z9.2) (o := fun z9 => some (.int z9.1)) (s2 := fun z9 => [.int z9.1]) (ci := 3) (q0 := 0) fx mm_X3_finding q_4_17 dX3_write_32 h (fun _ hz => c_X3_finding hz) rfl rfl (rm_ok (by decide) (by decide)) ⟨Nat.zero_le _, Nat.zero_le _⟩ rfl (List.Perm.refl _) (fun _ => List.Perm.refl _) rfl (Nat.le_of_ble_eq_true rfl) (fun _ => rfl) (fun z9 h => ?_)
      refine wa_i2l fx dX3_write_35 ?_
      exact fn_l (wc_ws g ad) fx hf (sn1 h) (sn2 h) dX3_write_36
def f_X3_copy  (G : Nat → StT) (a1 : Int32) (a2 : Int32) (a3 : Int32) (a4 : Int32) (a5 : Int32) : Option (Int32 × (Nat → StT)) := Option.bind (f_X3_isSheet a1) fun z1 => if z1 = 0 then (Option.bind (f_X3_finding G (0 : Int32)) fun z2 => some (z2.1, z2.2)) else (Option.bind (f_X3_isSheet a3) fun z3 => if z3 = 0 then (Option.bind (f_X3_finding G (0 : Int32)) fun z16 => some (z16.1, z16.2)) else (ck a1 4 (nm (Int32.toNatClampNeg a1) fun k4 => ck a3 4 (nm (Int32.toNatClampNeg a3) fun k5 => Option.bind (f_X1_isMissing (G (5 + k4))) fun z6 => if z6 = 0 then (Option.bind (f_X1_isMissing (G (5 + k5))) fun z8 => if z8 = 0 then (if ((G (5 + k4)).2.2 0) = ((G (5 + k5)).2.2 0) then (Option.bind (f_X1_has (G (5 + k4)) a2 a5) fun z9 => if z9 = 0 then (Option.bind (f_X3_finding G (0 : Int32)) fun z10 => some (z10.1, z10.2)) else (Option.bind (f_X1_has (G (5 + k5)) a4 a5) fun z11 => if z11 = 0 then (Option.bind (f_X3_finding G (0 : Int32)) fun z13 => some (z13.1, z13.2)) else (cpk a2 a4 a5 40 40 (nm (gset G (5 + k5) (setL (G (5 + k5)) 0 (va_cpy ((G (5 + k4)).2.1 0) ((G (5 + k5)).2.1 0) (Int32.toNatClampNeg a2) (Int32.toNatClampNeg a4) (Int32.toNatClampNeg a5)))) fun w12 => some (a5, w12))))) else (Option.bind (f_X3_finding G (2 : Int32)) fun z14 => some (z14.1, z14.2))) else (Option.bind (f_X3_finding G (5 : Int32)) fun z15 => some (z15.1, z15.2))) else (Option.bind (f_X3_finding G (5 : Int32)) fun z7 => some (z7.1, z7.2))))))
set_option maxHeartbeats 4000000 in
set_option maxRecDepth 100000 in
theorem c_X3_copy {g : GT} {l : Launch} {ad : Nat → Nat}   {G : Nat → StT} {a1 : Int32} {a2 : Int32} {a3 : Int32} {a4 : Int32} {a5 : Int32} {r : Int32 × (Nat → StT)} (h : f_X3_copy G a1 a2 a3 a4 a5 = some r) : Ct g l yX3_copy (wd yX3_copy cX3_copy 8 (some .int)) (rmh 3) [.ref (ad 0), .int a1, .int a2, .int a3, .int a4, .int a5] (wc_ws g ad G) (wc_ws g ad r.2) (some (.int r.1)) := by
  refine Ct.of (lv := [(0, .ref (ad 0)), (1, .int a1), (2, .int a2), (3, .int a3), (4, .int a4), (5, .int a5)]) (by decide) (Nat.le_of_ble_eq_true rfl) rfl (fun K hl fx hf => ?_)
  subst hl
  rw [f_X3_copy] at h
  refine wa_iload_n fx 1 dX3_copy_0 rfl ?_
  refine wa_S (rmc := (rmh 2)) (As := [.int a1]) (st := []) (wc := (no_ws ())) (wr := (wc_ws g ad G)) (wcz := fun _ => (no_ws ())) (w2 := fun _ => (wc_ws g ad G)) (o := fun z1 => some (.int z1)) (s2 := fun z1 => [.int z1]) fx mm_X3_isSheet q_34_12 dX3_copy_1 h (fun _ hz => c_X3_isSheet hz) (rm_ok (by decide) (by decide)) ⟨Nat.zero_le _, Nat.zero_le _⟩ rfl (List.Perm.of_eq (List.append_nil _).symm) (fun _ => (List.Perm.of_eq (List.append_nil _).symm)) rfl (Nat.le_of_ble_eq_true rfl) (fun _ => rfl) (fun z1 h => ?_)
  refine wa_if_eq fx 14 dX3_copy_4 (by decide) h (fun h => ?_) (fun h => ?_)
  · refine wa_aload_n fx 0 dX3_copy_14 rfl ?_
    refine wa_iconst fx (0 : Int32) dX3_copy_15 (by decide) ?_
    refine wa_V (b := ad 0) (rmc := (rmh 1)) (As := [.int (0 : Int32)]) (st := []) (wc := (wc_ws g ad G)) (wr := ([] : va_W)) (wcz := fun z2 => wc_ws g ad z2.2) (w2 := fun z2 => wc_ws g ad z2.2) (o := fun z2 => some (.int z2.1)) (s2 := fun z2 => [.int z2.1]) (ci := 3) (q0 := 0) fx mm_X3_finding q_4_17 dX3_copy_16 h (fun _ hz => c_X3_finding hz) rfl rfl (rm_ok (by decide) (by decide)) ⟨Nat.zero_le _, Nat.zero_le _⟩ rfl (List.Perm.refl _) (fun _ => List.Perm.refl _) rfl (Nat.le_of_ble_eq_true rfl) (fun _ => rfl) (fun z2 h => ?_)
    exact fn_i (wc_ws g ad) fx hf (sn1 h) (sn2 h) dX3_copy_19
  · refine wa_iload_n fx 3 dX3_copy_7 rfl ?_
    refine wa_S (rmc := (rmh 2)) (As := [.int a3]) (st := []) (wc := (no_ws ())) (wr := (wc_ws g ad G)) (wcz := fun _ => (no_ws ())) (w2 := fun _ => (wc_ws g ad G)) (o := fun z3 => some (.int z3)) (s2 := fun z3 => [.int z3]) fx mm_X3_isSheet q_34_12 dX3_copy_8 h (fun _ hz => c_X3_isSheet hz) (rm_ok (by decide) (by decide)) ⟨Nat.zero_le _, Nat.zero_le _⟩ rfl (List.Perm.of_eq (List.append_nil _).symm) (fun _ => (List.Perm.of_eq (List.append_nil _).symm)) rfl (Nat.le_of_ble_eq_true rfl) (fun _ => rfl) (fun z3 h => ?_)
    refine wa_if_ne fx 20 dX3_copy_11 (by decide) h (fun h => ?_) (fun h => ?_)
    · refine wa_aload_n fx 0 dX3_copy_14 rfl ?_
      refine wa_iconst fx (0 : Int32) dX3_copy_15 (by decide) ?_
      refine wa_V (b := ad 0) (rmc := (rmh 1)) (As := [.int (0 : Int32)]) (st := []) (wc := (wc_ws g ad G)) (wr := ([] : va_W)) (wcz := fun z16 => wc_ws g ad z16.2) (w2 := fun z16 => wc_ws g ad z16.2) (o := fun z16 => some (.int z16.1)) (s2 := fun z16 => [.int z16.1]) (ci := 3) (q0 := 0) fx mm_X3_finding q_4_17 dX3_copy_16 h (fun _ hz => c_X3_finding hz) rfl rfl (rm_ok (by decide) (by decide)) ⟨Nat.zero_le _, Nat.zero_le _⟩ rfl (List.Perm.refl _) (fun _ => List.Perm.refl _) rfl (Nat.le_of_ble_eq_true rfl) (fun _ => rfl) (fun z16 h => ?_)
      exact fn_i (wc_ws g ad) fx hf (sn1 h) (sn2 h) dX3_copy_19
    · refine wa_aload_n fx 0 dX3_copy_20 rfl ?_
      refine wa_get (v := .ref (ad 33)) fx wm_X3 0 rfl rfl 5 (by decide) q_2_1 rfl rfl dX3_copy_21 ?_
      refine wa_iload_n fx 1 dX3_copy_24 rfl ?_
      refine wa_aaldN ad fx dX3_copy_25 h (fun k4 hk_k4 h => ?_)
      refine wa_astore fx [(6, .ref (adr ad (34 + 2 * k4) 0)), (0, .ref (ad 0)), (1, .int a1), (2, .int a2), (3, .int a3), (4, .int a4), (5, .int a5)] dX3_copy_26 (by decide) rfl ?_
      refine wa_aload_n fx 1 dX3_copy_28 rfl ?_
      refine wa_get (v := .ref (ad 33)) fx wm_X3 0 rfl rfl 5 (by decide) q_2_1 rfl rfl dX3_copy_29 ?_
      refine wa_iload_n fx 4 dX3_copy_32 rfl ?_
      refine wa_aaldN ad fx dX3_copy_33 h (fun k5 hk_k5 h => ?_)
      refine wa_astore fx [(7, .ref (adr ad (34 + 2 * k5) 0)), (6, .ref (adr ad (34 + 2 * k4) 0)), (0, .ref (ad 0)), (1, .int a1), (2, .int a2), (3, .int a3), (4, .int a4), (5, .int a5)] dX3_copy_34 (by decide) rfl ?_
      refine wa_aload fx 1 dX3_copy_36 rfl ?_
      refine wa_V (b := adr ad (34 + 2 * k4) 0) (rmc := (rmh 1)) (As := []) (st := []) (wc := (sh_ws g (adr ad (34 + 2 * k4)) (G (5 + k4)))) (wr := (wrs g ad G k4)) (wcz := fun _ => (sh_ws g (adr ad (34 + 2 * k4)) (G (5 + k4)))) (w2 := fun _ => (wc_ws g ad G)) (o := fun z6 => some (.int z6)) (s2 := fun z6 => [.int z6]) (ci := 1) (q0 := 0) fx mm_X1_isMissing q_35_14 dX3_copy_38 h (fun _ hz => c_X1_isMissing hz) rfl rfl (rm_ok (by decide) (by decide)) ⟨Nat.zero_le _, Nat.zero_le _⟩ rfl (sqs g ad G hk_k4) (fun _ => (sqs g ad G hk_k4)) rfl (Nat.le_of_ble_eq_true rfl) (fun _ => rfl) (fun z6 h => ?_)
      refine wa_if_ne fx 52 dX3_copy_41 (by decide) h (fun h => ?_) (fun h => ?_)
      · refine wa_aload fx 0 dX3_copy_44 rfl ?_
        refine wa_V (b := adr ad (34 + 2 * k5) 0) (rmc := (rmh 1)) (As := []) (st := []) (wc := (sh_ws g (adr ad (34 + 2 * k5)) (G (5 + k5)))) (wr := (wrs g ad G k5)) (wcz := fun _ => (sh_ws g (adr ad (34 + 2 * k5)) (G (5 + k5)))) (w2 := fun _ => (wc_ws g ad G)) (o := fun z8 => some (.int z8)) (s2 := fun z8 => [.int z8]) (ci := 1) (q0 := 0) fx mm_X1_isMissing q_35_14 dX3_copy_46 h (fun _ hz => c_X1_isMissing hz) rfl rfl (rm_ok (by decide) (by decide)) ⟨Nat.zero_le _, Nat.zero_le _⟩ rfl (sqs g ad G hk_k5) (fun _ => (sqs g ad G hk_k5)) rfl (Nat.le_of_ble_eq_true rfl) (fun _ => rfl) (fun z8 h => ?_)
        refine wa_if_eq fx 58 dX3_copy_49 (by decide) h (fun h => ?_) (fun h => ?_)
        · refine wa_aload fx 1 dX3_copy_58 rfl ?_
          refine wa_get (v := .int ((G (5 + k4)).2.2 0)) fx wm_X1 (36 + 2 * k4) (gs_o g ad G hk_k4) rfl 1 (by decide) q_36_14 rfl rfl dX3_copy_60 ?_
          refine wa_aload fx 0 dX3_copy_63 rfl ?_
          refine wa_get (v := .int ((G (5 + k5)).2.2 0)) fx wm_X1 (36 + 2 * k5) (gs_o g ad G hk_k5) rfl 1 (by decide) q_36_14 rfl rfl dX3_copy_65 ?_
          refine wa_icmp_eq fx 77 dX3_copy_68 (by decide) h (fun h => ?_) (fun h => ?_)
          · refine wa_aload fx 1 dX3_copy_77 rfl ?_
            refine wa_iload_n fx 4 dX3_copy_79 rfl ?_
            refine wa_iload fx 7 dX3_copy_80 rfl ?_
            refine wa_V (b := adr ad (34 + 2 * k4) 0) (rmc := (rmh 1)) (As := [.int a2, .int a5]) (st := []) (wc := (sh_ws g (adr ad (34 + 2 * k4)) (G (5 + k4)))) (wr := (wrs g ad G k4)) (wcz := fun _ => (sh_ws g (adr ad (34 + 2 * k4)) (G (5 + k4)))) (w2 := fun _ => (wc_ws g ad G)) (o := fun z9 => some (.int z9)) (s2 := fun z9 => [.int z9]) (ci := 1) (q0 := 0) fx mm_X1_has q_36_16 dX3_copy_82 h (fun _ hz => c_X1_has hz) rfl rfl (rm_ok (by decide) (by decide)) ⟨Nat.zero_le _, Nat.zero_le _⟩ rfl (sqs g ad G hk_k4) (fun _ => (sqs g ad G hk_k4)) rfl (Nat.le_of_ble_eq_true rfl) (fun _ => rfl) (fun z9 h => ?_)
            refine wa_if_eq fx 100 dX3_copy_85 (by decide) h (fun h => ?_) (fun h => ?_)
            · refine wa_aload_n fx 2 dX3_copy_100 rfl ?_
              refine wa_iconst fx (0 : Int32) dX3_copy_101 (by decide) ?_
              refine wa_V (b := ad 0) (rmc := (rmh 1)) (As := [.int (0 : Int32)]) (st := []) (wc := (wc_ws g ad G)) (wr := ([] : va_W)) (wcz := fun z10 => wc_ws g ad z10.2) (w2 := fun z10 => wc_ws g ad z10.2) (o := fun z10 => some (.int z10.1)) (s2 := fun z10 => [.int z10.1]) (ci := 3) (q0 := 0) fx mm_X3_finding q_4_17 dX3_copy_102 h (fun _ hz => c_X3_finding hz) rfl rfl (rm_ok (by decide) (by decide)) ⟨Nat.zero_le _, Nat.zero_le _⟩ rfl (List.Perm.refl _) (fun _ => List.Perm.refl _) rfl (Nat.le_of_ble_eq_true rfl) (fun _ => rfl) (fun z10 h => ?_)
              exact fn_i (wc_ws g ad) fx hf (sn1 h) (sn2 h) dX3_copy_105
            · refine wa_aload fx 0 dX3_copy_88 rfl ?_
              refine wa_iload fx 6 dX3_copy_90 rfl ?_
              refine wa_iload fx 7 dX3_copy_92 rfl ?_
              refine wa_V (b := adr ad (34 + 2 * k5) 0) (rmc := (rmh 1)) (As := [.int a4, .int a5]) (st := []) (wc := (sh_ws g (adr ad (34 + 2 * k5)) (G (5 + k5)))) (wr := (wrs g ad G k5)) (wcz := fun _ => (sh_ws g (adr ad (34 + 2 * k5)) (G (5 + k5)))) (w2 := fun _ => (wc_ws g ad G)) (o := fun z11 => some (.int z11)) (s2 := fun z11 => [.int z11]) (ci := 1) (q0 := 0) fx mm_X1_has q_36_16 dX3_copy_94 h (fun _ hz => c_X1_has hz) rfl rfl (rm_ok (by decide) (by decide)) ⟨Nat.zero_le _, Nat.zero_le _⟩ rfl (sqs g ad G hk_k5) (fun _ => (sqs g ad G hk_k5)) rfl (Nat.le_of_ble_eq_true rfl) (fun _ => rfl) (fun z11 h => ?_)
              refine wa_if_ne fx 106 dX3_copy_97 (by decide) h (fun h => ?_) (fun h => ?_)
              · refine wa_aload_n fx 2 dX3_copy_100 rfl ?_
                refine wa_iconst fx (0 : Int32) dX3_copy_101 (by decide) ?_
                refine wa_V (b := ad 0) (rmc := (rmh 1)) (As := [.int (0 : Int32)]) (st := []) (wc := (wc_ws g ad G)) (wr := ([] : va_W)) (wcz := fun z13 => wc_ws g ad z13.2) (w2 := fun z13 => wc_ws g ad z13.2) (o := fun z13 => some (.int z13.1)) (s2 := fun z13 => [.int z13.1]) (ci := 3) (q0 := 0) fx mm_X3_finding q_4_17 dX3_copy_102 h (fun _ hz => c_X3_finding hz) rfl rfl (rm_ok (by decide) (by decide)) ⟨Nat.zero_le _, Nat.zero_le _⟩ rfl (List.Perm.refl _) (fun _ => List.Perm.refl _) rfl (Nat.le_of_ble_eq_true rfl) (fun _ => rfl) (fun z13 h => ?_)
                exact fn_i (wc_ws g ad) fx hf (sn1 h) (sn2 h) dX3_copy_105
              · refine wa_aload fx 1 dX3_copy_106 rfl ?_
                refine wa_get (v := .ref ((adr ad (34 + 2 * k4)) 1)) fx wm_X1 (36 + 2 * k4) (gs_o g ad G hk_k4) rfl 0 (by decide) q_35_13 rfl rfl dX3_copy_108 ?_
                refine wa_iload_n fx 4 dX3_copy_111 rfl ?_
                refine wa_aload fx 0 dX3_copy_112 rfl ?_
                refine wa_get (v := .ref ((adr ad (34 + 2 * k5)) 1)) fx wm_X1 (36 + 2 * k5) (gs_o g ad G hk_k5) rfl 0 (by decide) q_35_13 rfl rfl dX3_copy_114 ?_
                refine wa_iload fx 6 dX3_copy_117 rfl ?_
                refine wa_iload fx 7 dX3_copy_119 rfl ?_
                refine wa_copyl (wc_ws g ad) (f := (G (5 + k4)).2.1 0) (f2 := (G (5 + k5)).2.1 0) fx q_36_15 (37 + 2 * k4) (37 + 2 * k5) (gs_n g ad G hk_k4) (gs_n g ad G hk_k5) dX3_copy_121 (Nat.le_of_ble_eq_true rfl) h (ss_n g ad G hk_k5 _) (fun w12 h => ?_)
                refine wa_iload fx 7 dX3_copy_124 rfl ?_
                exact fn_i (wc_ws g ad) fx hf (sn1 h) (sn2 h) dX3_copy_126
          · refine wa_aload_n fx 2 dX3_copy_71 rfl ?_
            refine wa_iconst fx (2 : Int32) dX3_copy_72 (by decide) ?_
            refine wa_V (b := ad 0) (rmc := (rmh 1)) (As := [.int (2 : Int32)]) (st := []) (wc := (wc_ws g ad G)) (wr := ([] : va_W)) (wcz := fun z14 => wc_ws g ad z14.2) (w2 := fun z14 => wc_ws g ad z14.2) (o := fun z14 => some (.int z14.1)) (s2 := fun z14 => [.int z14.1]) (ci := 3) (q0 := 0) fx mm_X3_finding q_4_17 dX3_copy_73 h (fun _ hz => c_X3_finding hz) rfl rfl (rm_ok (by decide) (by decide)) ⟨Nat.zero_le _, Nat.zero_le _⟩ rfl (List.Perm.refl _) (fun _ => List.Perm.refl _) rfl (Nat.le_of_ble_eq_true rfl) (fun _ => rfl) (fun z14 h => ?_)
            exact fn_i (wc_ws g ad) fx hf (sn1 h) (sn2 h) dX3_copy_76
        · refine wa_aload_n fx 2 dX3_copy_52 rfl ?_
          refine wa_iconst fx (5 : Int32) dX3_copy_53 (by decide) ?_
          refine wa_V (b := ad 0) (rmc := (rmh 1)) (As := [.int (5 : Int32)]) (st := []) (wc := (wc_ws g ad G)) (wr := ([] : va_W)) (wcz := fun z15 => wc_ws g ad z15.2) (w2 := fun z15 => wc_ws g ad z15.2) (o := fun z15 => some (.int z15.1)) (s2 := fun z15 => [.int z15.1]) (ci := 3) (q0 := 0) fx mm_X3_finding q_4_17 dX3_copy_54 h (fun _ hz => c_X3_finding hz) rfl rfl (rm_ok (by decide) (by decide)) ⟨Nat.zero_le _, Nat.zero_le _⟩ rfl (List.Perm.refl _) (fun _ => List.Perm.refl _) rfl (Nat.le_of_ble_eq_true rfl) (fun _ => rfl) (fun z15 h => ?_)
          exact fn_i (wc_ws g ad) fx hf (sn1 h) (sn2 h) dX3_copy_57
      · refine wa_aload_n fx 2 dX3_copy_52 rfl ?_
        refine wa_iconst fx (5 : Int32) dX3_copy_53 (by decide) ?_
        refine wa_V (b := ad 0) (rmc := (rmh 1)) (As := [.int (5 : Int32)]) (st := []) (wc := (wc_ws g ad G)) (wr := ([] : va_W)) (wcz := fun z7 => wc_ws g ad z7.2) (w2 := fun z7 => wc_ws g ad z7.2) (o := fun z7 => some (.int z7.1)) (s2 := fun z7 => [.int z7.1]) (ci := 3) (q0 := 0) fx mm_X3_finding q_4_17 dX3_copy_54 h (fun _ hz => c_X3_finding hz) rfl rfl (rm_ok (by decide) (by decide)) ⟨Nat.zero_le _, Nat.zero_le _⟩ rfl (List.Perm.refl _) (fun _ => List.Perm.refl _) rfl (Nat.le_of_ble_eq_true rfl) (fun _ => rfl) (fun z7 h => ?_)
        exact fn_i (wc_ws g ad) fx hf (sn1 h) (sn2 h) dX3_copy_57
def f_X3_lays_b95 (k2 : Nat) (k38 : (Int32) → (Int32) → (Nat → StT) → Option (Int32 × (Nat → StT))) (x11 : Int32) (x12 : Int32) (w13 : Nat → StT) : Option (Int32 × (Nat → StT)) := nm (x12 + (1 : Int32)) fun x14 => k38 x11 x14 w13
def f_X3_lays_l38 (k2 : Nat) : Nat → (Int32) → (Int32) → (Nat → StT) → Option (Int32 × (Nat → StT))
  | 0, _, _, _ => none
  | n + 1, x7, x8, w9 => if (8 : Int32) ≤ x8 then (some (x7, w9)) else (if ((w9 (5 + k2)).2.2 1) ≤ x8 then (some (x7, w9)) else (ck x8 40 (nm ((w9 (5 + k2)).2.1 0 (Int32.toNatClampNeg x8)) fun x10 => if (lg_cmp x10 (0 : Int64)) < 0 then (f_X3_lays_b95 k2 (f_X3_lays_l38 k2 n) x7 x8 w9) else (if 0 < (lg_cmp x10 (20 : Int64)) then (f_X3_lays_b95 k2 (f_X3_lays_l38 k2 n) x7 x8 w9) else (ck x8 8 (nm (gset w9 1 (setA (w9 1) 0 (upd ((w9 1).1 0) (Int32.toNatClampNeg x8) (Int64.toInt32 x10)))) fun w15 => nm (x7 + (1 : Int32)) fun x16 => f_X3_lays_b95 k2 (f_X3_lays_l38 k2 n) x16 x8 w15))))))
def f_X3_lays  (G : Nat → StT) (a1 : Int32) : Option (Int32 × (Nat → StT)) := Option.bind (f_X3_isSheet a1) fun z1 => if z1 = 0 then (Option.bind (f_X3_finding G (0 : Int32)) fun z18 => some (z18.1, z18.2)) else (ck a1 4 (nm (Int32.toNatClampNeg a1) fun k2 => Option.bind (f_X1_isMissing (G (5 + k2))) fun z3 => if z3 = 0 then (f_X3_lays_l38 k2 200 (0 : Int32) (0 : Int32) G) else (Option.bind (f_X3_finding G (5 : Int32)) fun z17 => some (z17.1, z17.2))))
set_option maxHeartbeats 4000000 in
set_option maxRecDepth 100000 in
theorem c_X3_lays {g : GT} {l : Launch} {ad : Nat → Nat}   {G : Nat → StT} {a1 : Int32} {r : Int32 × (Nat → StT)} (h : f_X3_lays G a1 = some r) : Ct g l yX3_lays (wd yX3_lays cX3_lays 7 (some .int)) (rmh 3) [.ref (ad 0), .int a1] (wc_ws g ad G) (wc_ws g ad r.2) (some (.int r.1)) := by
  refine Ct.of (lv := [(0, .ref (ad 0)), (1, .int a1)]) (by decide) (Nat.le_of_ble_eq_true rfl) rfl (fun K hl fx hf => ?_)
  subst hl
  rw [f_X3_lays] at h
  have B95 : ∀ (k2 : Nat) (hk_k2 : k2 < 4) (k38 : (Int32) → (Int32) → (Nat → StT) → Option (Int32 × (Nat → StT))) (Hk38 : ∀ (y4 : Int32) (y5 : Int32) (w6 : Nat → StT), k38 y4 y5 w6 = some r → WA g K 7 0 0 38 [(0, .ref (ad 0)), (2, .ref (adr ad (34 + 2 * k2) 0)), (3, .int y4), (4, .int y5)] [] (wc_ws g ad w6)) (x11 : Int32) (x12 : Int32) (w13 : Nat → StT), f_X3_lays_b95 k2 k38 x11 x12 w13 = some r → WA g K 7 0 0 95 [(0, .ref (ad 0)), (2, .ref (adr ad (34 + 2 * k2) 0)), (3, .int x11), (4, .int x12)] [] (wc_ws g ad w13) := by
    intro k2 hk_k2 k38 Hk38 x11 x12 w13 h
    rw [f_X3_lays_b95] at h
    refine wa_iinc fx 3 (fun x14 => [(4, .int x14), (0, .ref (ad 0)), (2, .ref (adr ad (34 + 2 * k2) 0)), (3, .int x11)]) dX3_lays_95 rfl (by rfl) (by decide) (fun _ => rfl) h (fun x14 h => ?_)
    refine wa_goto fx 38 dX3_lays_98 (by decide) ?_
    refine wa_sub [1, 2, 3, 0] rfl ?_
    exact Hk38 x11 x14 w13 h
  have B38 : ∀ (k2 : Nat) (hk_k2 : k2 < 4)  (n : Nat) (x7 : Int32) (x8 : Int32) (w9 : Nat → StT), f_X3_lays_l38 k2 n x7 x8 w9 = some r → WA g K 7 0 0 38 [(0, .ref (ad 0)), (2, .ref (adr ad (34 + 2 * k2) 0)), (3, .int x7), (4, .int x8)] [] (wc_ws g ad w9) := by
    intro k2 hk_k2  n
    induction n with
    | zero => intro x7 x8 w9 h; exact absurd h (by rw [f_X3_lays_l38]; exact nofun)
    | succ n ih =>
      intro x7 x8 w9 h
      rw [f_X3_lays_l38] at h
      refine wa_iload fx 3 dX3_lays_38 rfl ?_
      refine wa_bipush fx (8 : Int32) dX3_lays_40 (by decide) ?_
      refine wa_icmp_ge fx 101 dX3_lays_42 (by decide) h (fun h => ?_) (fun h => ?_)
      · refine wa_iload_n fx 2 dX3_lays_101 rfl ?_
        exact fn_i (wc_ws g ad) fx hf (sn1 h) (sn2 h) dX3_lays_102
      · refine wa_iload fx 3 dX3_lays_45 rfl ?_
        refine wa_aload_n fx 1 dX3_lays_47 rfl ?_
        refine wa_get (v := .int ((w9 (5 + k2)).2.2 1)) fx wm_X1 (36 + 2 * k2) (gs_o g ad w9 hk_k2) rfl 2 (by decide) q_35_12 rfl rfl dX3_lays_48 ?_
        refine wa_icmp_ge fx 101 dX3_lays_51 (by decide) h (fun h => ?_) (fun h => ?_)
        · refine wa_iload_n fx 2 dX3_lays_101 rfl ?_
          exact fn_i (wc_ws g ad) fx hf (sn1 h) (sn2 h) dX3_lays_102
        · refine wa_aload_n fx 1 dX3_lays_54 rfl ?_
          refine wa_get (v := .ref ((adr ad (34 + 2 * k2)) 1)) fx wm_X1 (36 + 2 * k2) (gs_o g ad w9 hk_k2) rfl 0 (by decide) q_35_13 rfl rfl dX3_lays_55 ?_
          refine wa_iload fx 3 dX3_lays_58 rfl ?_
          refine wa_lald (f := (w9 (5 + k2)).2.1 0) fx (37 + 2 * k2) (gs_n g ad w9 hk_k2) dX3_lays_60 h (fun h => ?_)
          refine wa_lstoreN fx (fun x10 => [(5, .long x10), (0, .ref (ad 0)), (2, .ref (adr ad (34 + 2 * k2) 0)), (3, .int x7), (4, .int x8)]) dX3_lays_61 (by decide) (fun _ => rfl) h (fun x10 h => ?_)
          refine wa_lload fx 0 dX3_lays_63 rfl ?_
          refine wa_lconst fx (0 : Int64) dX3_lays_65 (by decide) ?_
          refine wa_lcmp fx dX3_lays_66 ?_
          refine wa_if_lt fx 95 dX3_lays_67 (by decide) h (fun h => ?_) (fun h => ?_)
          · refine wa_sub [1, 2, 3, 4] rfl ?_
            exact B95 k2 hk_k2 (f_X3_lays_l38 k2 n) ih x7 x8 w9 h
          · refine wa_lload fx 0 dX3_lays_70 rfl ?_
            refine wa_ldc2 fx q_37_4 dX3_lays_72 ?_
            refine wa_lcmp fx dX3_lays_75 ?_
            refine wa_if_gt fx 95 dX3_lays_76 (by decide) h (fun h => ?_) (fun h => ?_)
            · refine wa_sub [1, 2, 3, 4] rfl ?_
              exact B95 k2 hk_k2 (f_X3_lays_l38 k2 n) ih x7 x8 w9 h
            · refine wa_aload_n fx 1 dX3_lays_79 rfl ?_
              refine wa_get (v := .ref ((adr ad 1) 0)) fx wm_X3 0 rfl rfl 0 (by decide) q_1_16 rfl rfl dX3_lays_80 ?_
              refine wa_get (v := .ref ((adr ad 1) 1)) fx wm_X0 4 rfl rfl 0 (by decide) q_4_9 rfl rfl dX3_lays_83 ?_
              refine wa_iload fx 4 dX3_lays_86 rfl ?_
              refine wa_lload fx 0 dX3_lays_88 rfl ?_
              refine wa_l2i fx dX3_lays_90 ?_
              refine wa_iast (wc_ws g ad) (f := (w9 1).1 0) fx 5 rfl dX3_lays_91 h rfl (fun w15 h => ?_)
              refine wa_iinc fx 3 (fun x16 => [(3, .int x16), (5, .long x10), (0, .ref (ad 0)), (2, .ref (adr ad (34 + 2 * k2) 0)), (4, .int x8)]) dX3_lays_92 rfl (by rfl) (by decide) (fun _ => rfl) h (fun x16 h => ?_)
              refine wa_sub [2, 3, 0, 4] rfl ?_
              exact B95 k2 hk_k2 (f_X3_lays_l38 k2 n) ih x16 x8 w15 h
  refine wa_iload_n fx 1 dX3_lays_0 rfl ?_
  refine wa_S (rmc := (rmh 2)) (As := [.int a1]) (st := []) (wc := (no_ws ())) (wr := (wc_ws g ad G)) (wcz := fun _ => (no_ws ())) (w2 := fun _ => (wc_ws g ad G)) (o := fun z1 => some (.int z1)) (s2 := fun z1 => [.int z1]) fx mm_X3_isSheet q_34_12 dX3_lays_1 h (fun _ hz => c_X3_isSheet hz) (rm_ok (by decide) (by decide)) ⟨Nat.zero_le _, Nat.zero_le _⟩ rfl (List.Perm.of_eq (List.append_nil _).symm) (fun _ => (List.Perm.of_eq (List.append_nil _).symm)) rfl (Nat.le_of_ble_eq_true rfl) (fun _ => rfl) (fun z1 h => ?_)
  refine wa_if_ne fx 13 dX3_lays_4 (by decide) h (fun h => ?_) (fun h => ?_)
  · refine wa_aload_n fx 0 dX3_lays_7 rfl ?_
    refine wa_iconst fx (0 : Int32) dX3_lays_8 (by decide) ?_
    refine wa_V (b := ad 0) (rmc := (rmh 1)) (As := [.int (0 : Int32)]) (st := []) (wc := (wc_ws g ad G)) (wr := ([] : va_W)) (wcz := fun z18 => wc_ws g ad z18.2) (w2 := fun z18 => wc_ws g ad z18.2) (o := fun z18 => some (.int z18.1)) (s2 := fun z18 => [.int z18.1]) (ci := 3) (q0 := 0) fx mm_X3_finding q_4_17 dX3_lays_9 h (fun _ hz => c_X3_finding hz) rfl rfl (rm_ok (by decide) (by decide)) ⟨Nat.zero_le _, Nat.zero_le _⟩ rfl (List.Perm.refl _) (fun _ => List.Perm.refl _) rfl (Nat.le_of_ble_eq_true rfl) (fun _ => rfl) (fun z18 h => ?_)
    exact fn_i (wc_ws g ad) fx hf (sn1 h) (sn2 h) dX3_lays_12
  · refine wa_aload_n fx 0 dX3_lays_13 rfl ?_
    refine wa_get (v := .ref (ad 33)) fx wm_X3 0 rfl rfl 5 (by decide) q_2_1 rfl rfl dX3_lays_14 ?_
    refine wa_iload_n fx 1 dX3_lays_17 rfl ?_
    refine wa_aaldN ad fx dX3_lays_18 h (fun k2 hk_k2 h => ?_)
    refine wa_astore_n fx [(2, .ref (adr ad (34 + 2 * k2) 0)), (0, .ref (ad 0)), (1, .int a1)] dX3_lays_19 rfl (by decide) rfl ?_
    refine wa_aload_n fx 0 dX3_lays_20 rfl ?_
    refine wa_V (b := adr ad (34 + 2 * k2) 0) (rmc := (rmh 1)) (As := []) (st := []) (wc := (sh_ws g (adr ad (34 + 2 * k2)) (G (5 + k2)))) (wr := (wrs g ad G k2)) (wcz := fun _ => (sh_ws g (adr ad (34 + 2 * k2)) (G (5 + k2)))) (w2 := fun _ => (wc_ws g ad G)) (o := fun z3 => some (.int z3)) (s2 := fun z3 => [.int z3]) (ci := 1) (q0 := 0) fx mm_X1_isMissing q_35_14 dX3_lays_21 h (fun _ hz => c_X1_isMissing hz) rfl rfl (rm_ok (by decide) (by decide)) ⟨Nat.zero_le _, Nat.zero_le _⟩ rfl (sqs g ad G hk_k2) (fun _ => (sqs g ad G hk_k2)) rfl (Nat.le_of_ble_eq_true rfl) (fun _ => rfl) (fun z3 h => ?_)
    refine wa_if_eq fx 33 dX3_lays_24 (by decide) h (fun h => ?_) (fun h => ?_)
    · refine wa_iconst fx (0 : Int32) dX3_lays_33 (by decide) ?_
      refine wa_istore_n fx [(3, .int (0 : Int32)), (2, .ref (adr ad (34 + 2 * k2) 0)), (0, .ref (ad 0)), (1, .int a1)] dX3_lays_34 rfl (by decide) rfl ?_
      refine wa_iconst fx (0 : Int32) dX3_lays_35 (by decide) ?_
      refine wa_istore fx [(4, .int (0 : Int32)), (3, .int (0 : Int32)), (2, .ref (adr ad (34 + 2 * k2) 0)), (0, .ref (ad 0)), (1, .int a1)] dX3_lays_36 (by decide) rfl ?_
      refine wa_sub [3, 2, 1, 0] rfl ?_
      exact B38 k2 hk_k2 200 (0 : Int32) (0 : Int32) G h
    · refine wa_aload_n fx 1 dX3_lays_27 rfl ?_
      refine wa_iconst fx (5 : Int32) dX3_lays_28 (by decide) ?_
      refine wa_V (b := ad 0) (rmc := (rmh 1)) (As := [.int (5 : Int32)]) (st := []) (wc := (wc_ws g ad G)) (wr := ([] : va_W)) (wcz := fun z17 => wc_ws g ad z17.2) (w2 := fun z17 => wc_ws g ad z17.2) (o := fun z17 => some (.int z17.1)) (s2 := fun z17 => [.int z17.1]) (ci := 3) (q0 := 0) fx mm_X3_finding q_4_17 dX3_lays_29 h (fun _ hz => c_X3_finding hz) rfl rfl (rm_ok (by decide) (by decide)) ⟨Nat.zero_le _, Nat.zero_le _⟩ rfl (List.Perm.refl _) (fun _ => List.Perm.refl _) rfl (Nat.le_of_ble_eq_true rfl) (fun _ => rfl) (fun z17 h => ?_)
      exact fn_i (wc_ws g ad) fx hf (sn1 h) (sn2 h) dX3_lays_32
def f_X3_book_l61 (k2 : Nat) : Nat → (Int32) → (Int32) → (Nat → StT) → Option (Int32 × (Nat → StT))
  | 0, _, _, _ => none
  | n + 1, x10, x11, w12 => if ((w12 (5 + k2)).2.2 1) ≤ x11 then (some (((w12 (5 + k2)).2.2 1), w12)) else (ck x10 8 (ck x11 40 (nm (gset w12 (5 + k2) (setL (w12 (5 + k2)) 0 (vp_updL ((w12 (5 + k2)).2.1 0) (Int32.toNatClampNeg x11) (Int32.toInt64 ((w12 2).1 8 (Int32.toNatClampNeg x10)))))) fun w13 => Option.bind (f_X0_passOne (w13 2)) fun z14 => nm (gset w13 2 z14.2) fun w15 => nm (x11 + (1 : Int32)) fun x16 => (f_X3_book_l61 k2 n) x10 x16 w15)))
def f_X3_book  (G : Nat → StT) (a1 : Int32) (a2 : Int32) : Option (Int32 × (Nat → StT)) := Option.bind (f_X3_isSheet a1) fun z1 => if z1 = 0 then (Option.bind (f_X3_finding G (0 : Int32)) fun z19 => some (z19.1, z19.2)) else (ck a1 4 (nm (Int32.toNatClampNeg a1) fun k2 => Option.bind (f_X1_isMissing (G (5 + k2))) fun z3 => if z3 = 0 then (Option.bind (f_X3_isThere G a2) fun z4 => if z4 = 0 then (Option.bind (f_X3_finding G (0 : Int32)) fun z17 => some (z17.1, z17.2)) else (Option.bind (f_X0_become (G 2, G 1)) fun z5 => nm (gset (gset G 2 z5.1) 1 z5.2) fun w6 => f_X3_book_l61 k2 200 a2 (0 : Int32) w6)) else (Option.bind (f_X3_finding G (5 : Int32)) fun z18 => some (z18.1, z18.2))))
set_option maxHeartbeats 4000000 in
set_option maxRecDepth 100000 in
theorem c_X3_book {g : GT} {l : Launch} {ad : Nat → Nat}   {G : Nat → StT} {a1 : Int32} {a2 : Int32} {r : Int32 × (Nat → StT)} (h : f_X3_book G a1 a2 = some r) : Ct g l yX3_book (wd yX3_book cX3_book 5 (some .int)) (rmh 6) [.ref (ad 0), .int a1, .int a2] (wc_ws g ad G) (wc_ws g ad r.2) (some (.int r.1)) := by
  refine Ct.of (lv := [(0, .ref (ad 0)), (1, .int a1), (2, .int a2)]) (by decide) (Nat.le_of_ble_eq_true rfl) rfl (fun K hl fx hf => ?_)
  subst hl
  rw [f_X3_book] at h
  have B61 : ∀ (k2 : Nat) (hk_k2 : k2 < 4)  (n : Nat) (x10 : Int32) (x11 : Int32) (w12 : Nat → StT), f_X3_book_l61 k2 n x10 x11 w12 = some r → WA g K 5 0 0 61 [(0, .ref (ad 0)), (2, .int x10), (3, .ref (adr ad (34 + 2 * k2) 0)), (4, .int x11)] [] (wc_ws g ad w12) := by
    intro k2 hk_k2  n
    induction n with
    | zero => intro x10 x11 w12 h; exact absurd h (by rw [f_X3_book_l61]; exact nofun)
    | succ n ih =>
      intro x10 x11 w12 h
      rw [f_X3_book_l61] at h
      refine wa_iload fx 3 dX3_book_61 rfl ?_
      refine wa_aload_n fx 2 dX3_book_63 rfl ?_
      refine wa_get (v := .int ((w12 (5 + k2)).2.2 1)) fx wm_X1 (36 + 2 * k2) (gs_o g ad w12 hk_k2) rfl 2 (by decide) q_35_12 rfl rfl dX3_book_64 ?_
      refine wa_icmp_ge fx 101 dX3_book_67 (by decide) h (fun h => ?_) (fun h => ?_)
      · refine wa_aload_n fx 2 dX3_book_101 rfl ?_
        refine wa_get (v := .int ((w12 (5 + k2)).2.2 1)) fx wm_X1 (36 + 2 * k2) (gs_o g ad w12 hk_k2) rfl 2 (by decide) q_35_12 rfl rfl dX3_book_102 ?_
        exact fn_i (wc_ws g ad) fx hf (sn1 h) (sn2 h) dX3_book_105
      · refine wa_aload_n fx 2 dX3_book_70 rfl ?_
        refine wa_get (v := .ref ((adr ad (34 + 2 * k2)) 1)) fx wm_X1 (36 + 2 * k2) (gs_o g ad w12 hk_k2) rfl 0 (by decide) q_35_13 rfl rfl dX3_book_71 ?_
        refine wa_iload fx 3 dX3_book_74 rfl ?_
        refine wa_aload_n fx 0 dX3_book_76 rfl ?_
        refine wa_get (v := .ref ((adr ad 11) 0)) fx wm_X3 0 rfl rfl 1 (by decide) q_1_17 rfl rfl dX3_book_77 ?_
        refine wa_get (v := .ref ((adr ad 11) 9)) fx wm_X0 14 rfl rfl 8 (by decide) q_8_4 rfl rfl dX3_book_80 ?_
        refine wa_iload_n fx 1 dX3_book_83 rfl ?_
        refine wa_iald (f := (w12 2).1 8) fx 23 rfl dX3_book_84 h (fun h => ?_)
        refine wa_i2l fx dX3_book_85 ?_
        refine wa_last (wc_ws g ad) (f := (w12 (5 + k2)).2.1 0) fx (37 + 2 * k2) (gs_n g ad w12 hk_k2) dX3_book_86 h (ss_n g ad w12 hk_k2 _) (fun w13 h => ?_)
        refine wa_aload_n fx 0 dX3_book_87 rfl ?_
        refine wa_get (v := .ref ((adr ad 11) 0)) fx wm_X3 0 rfl rfl 1 (by decide) q_1_17 rfl rfl dX3_book_88 ?_
        refine wa_V (b := (adr ad 11) 0) (rmc := (rmh 5)) (As := []) (st := []) (wc := (rm_ws g (adr ad 11) (w13 2))) (wr := (wr2 g ad w13)) (wcz := fun z14 => rm_ws g (adr ad 11) z14.2) (w2 := fun z14 => wc_ws g ad (gset w13 2 z14.2)) (o := fun z14 => some (.int z14.1)) (s2 := fun z14 => [.int z14.1]) (ci := 0) (q0 := 0) fx mm_X0_passOne q_20_8 dX3_book_91 h (fun _ hz => c_X0_passOne hz) rfl rfl (rm_ok (by decide) (by decide)) ⟨Nat.zero_le _, Nat.zero_le _⟩ rfl (sq2 g ad w13) (fun _ => sp2 g ad w13 _) rfl (Nat.le_of_ble_eq_true rfl) (fun _ => rfl) (fun z14 h => ?_)
        refine nm_w (wc_ws g ad) h (fun w15 h => ?_)
        refine wa_pop fx dX3_book_94 rfl ?_
        refine wa_iinc fx 3 (fun x16 => [(4, .int x16), (0, .ref (ad 0)), (2, .int x10), (3, .ref (adr ad (34 + 2 * k2) 0))]) dX3_book_95 rfl (by rfl) (by decide) (fun _ => rfl) h (fun x16 h => ?_)
        refine wa_goto fx 61 dX3_book_98 (by decide) ?_
        refine wa_sub [1, 2, 3, 0] rfl ?_
        exact ih x10 x16 w15 h
  refine wa_iload_n fx 1 dX3_book_0 rfl ?_
  refine wa_S (rmc := (rmh 2)) (As := [.int a1]) (st := []) (wc := (no_ws ())) (wr := (wc_ws g ad G)) (wcz := fun _ => (no_ws ())) (w2 := fun _ => (wc_ws g ad G)) (o := fun z1 => some (.int z1)) (s2 := fun z1 => [.int z1]) fx mm_X3_isSheet q_34_12 dX3_book_1 h (fun _ hz => c_X3_isSheet hz) (rm_ok (by decide) (by decide)) ⟨Nat.zero_le _, Nat.zero_le _⟩ rfl (List.Perm.of_eq (List.append_nil _).symm) (fun _ => (List.Perm.of_eq (List.append_nil _).symm)) rfl (Nat.le_of_ble_eq_true rfl) (fun _ => rfl) (fun z1 h => ?_)
  refine wa_if_ne fx 13 dX3_book_4 (by decide) h (fun h => ?_) (fun h => ?_)
  · refine wa_aload_n fx 0 dX3_book_7 rfl ?_
    refine wa_iconst fx (0 : Int32) dX3_book_8 (by decide) ?_
    refine wa_V (b := ad 0) (rmc := (rmh 1)) (As := [.int (0 : Int32)]) (st := []) (wc := (wc_ws g ad G)) (wr := ([] : va_W)) (wcz := fun z19 => wc_ws g ad z19.2) (w2 := fun z19 => wc_ws g ad z19.2) (o := fun z19 => some (.int z19.1)) (s2 := fun z19 => [.int z19.1]) (ci := 3) (q0 := 0) fx mm_X3_finding q_4_17 dX3_book_9 h (fun _ hz => c_X3_finding hz) rfl rfl (rm_ok (by decide) (by decide)) ⟨Nat.zero_le _, Nat.zero_le _⟩ rfl (List.Perm.refl _) (fun _ => List.Perm.refl _) rfl (Nat.le_of_ble_eq_true rfl) (fun _ => rfl) (fun z19 h => ?_)
    exact fn_i (wc_ws g ad) fx hf (sn1 h) (sn2 h) dX3_book_12
  · refine wa_aload_n fx 0 dX3_book_13 rfl ?_
    refine wa_get (v := .ref (ad 33)) fx wm_X3 0 rfl rfl 5 (by decide) q_2_1 rfl rfl dX3_book_14 ?_
    refine wa_iload_n fx 1 dX3_book_17 rfl ?_
    refine wa_aaldN ad fx dX3_book_18 h (fun k2 hk_k2 h => ?_)
    refine wa_astore_n fx [(3, .ref (adr ad (34 + 2 * k2) 0)), (0, .ref (ad 0)), (1, .int a1), (2, .int a2)] dX3_book_19 rfl (by decide) rfl ?_
    refine wa_aload_n fx 0 dX3_book_20 rfl ?_
    refine wa_V (b := adr ad (34 + 2 * k2) 0) (rmc := (rmh 1)) (As := []) (st := []) (wc := (sh_ws g (adr ad (34 + 2 * k2)) (G (5 + k2)))) (wr := (wrs g ad G k2)) (wcz := fun _ => (sh_ws g (adr ad (34 + 2 * k2)) (G (5 + k2)))) (w2 := fun _ => (wc_ws g ad G)) (o := fun z3 => some (.int z3)) (s2 := fun z3 => [.int z3]) (ci := 1) (q0 := 0) fx mm_X1_isMissing q_35_14 dX3_book_21 h (fun _ hz => c_X1_isMissing hz) rfl rfl (rm_ok (by decide) (by decide)) ⟨Nat.zero_le _, Nat.zero_le _⟩ rfl (sqs g ad G hk_k2) (fun _ => (sqs g ad G hk_k2)) rfl (Nat.le_of_ble_eq_true rfl) (fun _ => rfl) (fun z3 h => ?_)
    refine wa_if_eq fx 33 dX3_book_24 (by decide) h (fun h => ?_) (fun h => ?_)
    · refine wa_aload_n fx 1 dX3_book_33 rfl ?_
      refine wa_iload_n fx 3 dX3_book_34 rfl ?_
      refine wa_V (b := ad 0) (rmc := (rmh 2)) (As := [.int a2]) (st := []) (wc := (wc_ws g ad G)) (wr := ([] : va_W)) (wcz := fun _ => (wc_ws g ad G)) (w2 := fun _ => (wc_ws g ad G)) (o := fun z4 => some (.int z4)) (s2 := fun z4 => [.int z4]) (ci := 3) (q0 := 0) fx mm_X3_isThere q_8_5 dX3_book_35 h (fun _ hz => c_X3_isThere hz) rfl rfl (rm_ok (by decide) (by decide)) ⟨Nat.zero_le _, Nat.zero_le _⟩ rfl (List.Perm.refl _) (fun _ => (List.Perm.refl _)) rfl (Nat.le_of_ble_eq_true rfl) (fun _ => rfl) (fun z4 h => ?_)
      refine wa_if_ne fx 47 dX3_book_38 (by decide) h (fun h => ?_) (fun h => ?_)
      · refine wa_aload_n fx 1 dX3_book_41 rfl ?_
        refine wa_iconst fx (0 : Int32) dX3_book_42 (by decide) ?_
        refine wa_V (b := ad 0) (rmc := (rmh 1)) (As := [.int (0 : Int32)]) (st := []) (wc := (wc_ws g ad G)) (wr := ([] : va_W)) (wcz := fun z17 => wc_ws g ad z17.2) (w2 := fun z17 => wc_ws g ad z17.2) (o := fun z17 => some (.int z17.1)) (s2 := fun z17 => [.int z17.1]) (ci := 3) (q0 := 0) fx mm_X3_finding q_4_17 dX3_book_43 h (fun _ hz => c_X3_finding hz) rfl rfl (rm_ok (by decide) (by decide)) ⟨Nat.zero_le _, Nat.zero_le _⟩ rfl (List.Perm.refl _) (fun _ => List.Perm.refl _) rfl (Nat.le_of_ble_eq_true rfl) (fun _ => rfl) (fun z17 h => ?_)
        exact fn_i (wc_ws g ad) fx hf (sn1 h) (sn2 h) dX3_book_46
      · refine wa_aload_n fx 1 dX3_book_47 rfl ?_
        refine wa_get (v := .ref ((adr ad 11) 0)) fx wm_X3 0 rfl rfl 1 (by decide) q_1_17 rfl rfl dX3_book_48 ?_
        refine wa_aload_n fx 1 dX3_book_51 rfl ?_
        refine wa_get (v := .ref ((adr ad 1) 0)) fx wm_X3 0 rfl rfl 0 (by decide) q_1_16 rfl rfl dX3_book_52 ?_
        refine wa_V (b := (adr ad 11) 0) (rmc := (rmh 2)) (As := [.ref ((adr ad 1) 0)]) (st := []) (wc := (bb_ws g (adr ad 11) (adr ad 1) (G 2, G 1))) (wr := (wr21 g ad G)) (wcz := fun z5 => bb_ws g (adr ad 11) (adr ad 1) z5) (w2 := fun z5 => wc_ws g ad (gset (gset G 2 z5.1) 1 z5.2)) (o := fun _ => none) (s2 := fun z5 => []) (ci := 0) (q0 := 0) fx mm_X0_become q_18_20 dX3_book_55 h (fun _ hz => c_X0_become hz) rfl rfl (rm_ok (by decide) (by decide)) ⟨Nat.zero_le _, Nat.zero_le _⟩ rfl (sq21 g ad G) (fun _ => sp21 g ad G _) rfl (Nat.le_of_ble_eq_true rfl) (fun _ => rfl) (fun z5 h => ?_)
        refine nm_w (wc_ws g ad) h (fun w6 h => ?_)
        refine wa_iconst fx (0 : Int32) dX3_book_58 (by decide) ?_
        refine wa_istore fx [(4, .int (0 : Int32)), (3, .ref (adr ad (34 + 2 * k2) 0)), (0, .ref (ad 0)), (1, .int a1), (2, .int a2)] dX3_book_59 (by decide) rfl ?_
        refine wa_sub [2, 4, 1, 0] rfl ?_
        exact B61 k2 hk_k2 200 a2 (0 : Int32) w6 h
    · refine wa_aload_n fx 1 dX3_book_27 rfl ?_
      refine wa_iconst fx (5 : Int32) dX3_book_28 (by decide) ?_
      refine wa_V (b := ad 0) (rmc := (rmh 1)) (As := [.int (5 : Int32)]) (st := []) (wc := (wc_ws g ad G)) (wr := ([] : va_W)) (wcz := fun z18 => wc_ws g ad z18.2) (w2 := fun z18 => wc_ws g ad z18.2) (o := fun z18 => some (.int z18.1)) (s2 := fun z18 => [.int z18.1]) (ci := 3) (q0 := 0) fx mm_X3_finding q_4_17 dX3_book_29 h (fun _ hz => c_X3_finding hz) rfl rfl (rm_ok (by decide) (by decide)) ⟨Nat.zero_le _, Nat.zero_le _⟩ rfl (List.Perm.refl _) (fun _ => List.Perm.refl _) rfl (Nat.le_of_ble_eq_true rfl) (fun _ => rfl) (fun z18 h => ?_)
      exact fn_i (wc_ws g ad) fx hf (sn1 h) (sn2 h) dX3_book_32
