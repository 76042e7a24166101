abbrev lw_ws (g : GT) (ad bd : Nat → Nat) (p : (Nat → StT) × StT) : va_W := wc_ws g ad p.1 ++ mo_ws g bd p.2
section
variable {g : GT} {K : KT} {rm : Room} {cc : ByteArray} {nL n1 n2 pc : Nat} {rt : Option FieldType} {own : String} {lv : List (Nat × Value)} {st : List Value} {ws : va_W}
theorem wa_sld (fx : Fx g K rm cc nL rt own) {b L : Nat} {xs : Nat → Int32} (hX : va_X b L xs (ks K) (ks K).heap) (hbl : b < (ks K).heap.size) (hbA : ¬ kA K b) {i : Int32} (d : decode cc pc = .ok (.iaload, 1)) {ρ : Type} {A : Option ρ} {r : ρ} (h : ck i L A = some r) (k : A = some r → WA g K nL n1 n2 (pc + 1) lv (.int (xs i.toNatClampNeg) :: st) ws) : WA g K nL n1 n2 pc lv (.int i :: .ref b :: st) ws :=
  fun H locs ls hP hD hS hl => va_sld fx.1 fx.2.1 hX hbl hbA hS (of_ck h).1 d (k (of_ck h).2 H locs ls hP hD hS hl)
theorem wa_slenS (fx : Fx g K rm cc nL rt own) {b L : Nat} {xs : Nat → Int32} (hX : va_X b L xs (ks K) (ks K).heap) (hbl : b < (ks K).heap.size) (hbA : ¬ kA K b) (d : decode cc pc = .ok (.arraylength, 1)) (k : WA g K nL n1 n2 (pc + 1) lv (.int (Int32.ofNat L) :: st) ws) : WA g K nL n1 n2 pc lv (.ref b :: st) ws :=
  fun H locs ls hP hD hS hl => va_slen fx.1 fx.2.1 hX hbl hbA hS d (k H locs ls hP hD hS hl)
theorem fn_law {b : Nat} (fx : Fx g K room_1 code nL ret own) (hQ : kQ K = lw_Z (kb K) (ka K) (ks K)) (ha : ka K = #[Value.ref b]) (hsz : ∀ q, kA K q → (ks K).heap.size ≤ q) (h1 : n1 ≤ 600000) (h2 : n2 ≤ 7302250) (d : decode code pc = .ok (.ireturn, 1)) : WA g K nL n1 n2 pc lv [.int 1] ws := by
  intro H locs ls hP hD hS hl
  have hR : kR K = room_1 := fx.2.2.2.2.2.2.2.2.2.2
  rw [hQ, hR, ha]
  refine va_forget (fun q hq => hsz _ (hS.2.2 q hq)) ?_
  refine W.widen (k := 600000) (n := 7302250) h1 h2 ?_
  exact lw_ret fx.1 fx.2.1 fx.2.2.1 fx.2.2.2.2.2.2.1 d
end
def f_L_law_b1345 (k18 : (Int32) → ((Nat → StT) × StT) → Option (Int32)) (L : Nat) (xs : Nat → Int32) (x9 : Int32) (w10 : (Nat → StT) × StT) : Option (Int32) := nm (x9 + (6 : Int32)) fun x11 => k18 x11 w10
def f_L_law_l18 (L : Nat) (xs : Nat → Int32) : Nat → (Int32) → ((Nat → StT) × StT) → Option (Int32)
  | 0, _, _ => none
  | n + 1, x3, w4 => if ((Int32.ofNat L) - (6 : Int32)) < x3 then (some (1 : Int32)) else (ck x3 L (if ((xs (Int32.toNatClampNeg x3)) &&& (63 : Int32)) = (0 : Int32) then (ck (x3 + (1 : Int32)) L (ck (x3 + (2 : Int32)) L (ck (x3 + (3 : Int32)) L (Option.bind (f_X3_chair w4.1 (xs (Int32.toNatClampNeg (x3 + (1 : Int32)))) (xs (Int32.toNatClampNeg (x3 + (2 : Int32)))) (xs (Int32.toNatClampNeg (x3 + (3 : Int32))))) fun z5 => nm (z5.2, w4.2) fun w6 => ck (x3 + (1 : Int32)) L (ck (x3 + (2 : Int32)) L (ck (x3 + (3 : Int32)) L (Option.bind (f_X4_chair w6.2 (xs (Int32.toNatClampNeg (x3 + (1 : Int32)))) (xs (Int32.toNatClampNeg (x3 + (2 : Int32)))) (xs (Int32.toNatClampNeg (x3 + (3 : Int32))))) fun z7 => nm (w6.1, z7.2) fun w8 => if z5.1 = z7.1 then (f_L_law_b1345 (f_L_law_l18 L xs n) L xs x3 w8) else (some (0 : Int32))))))))) else (if ((xs (Int32.toNatClampNeg x3)) &&& (63 : Int32)) = (1 : Int32) then (ck (x3 + (1 : Int32)) L (ck (x3 + (2 : Int32)) L (Option.bind (f_X3_chairOf w4.1 (xs (Int32.toNatClampNeg (x3 + (1 : Int32)))) (xs (Int32.toNatClampNeg (x3 + (2 : Int32))))) fun z12 => nm (z12.2, w4.2) fun w13 => ck (x3 + (1 : Int32)) L (ck (x3 + (2 : Int32)) L (Option.bind (f_X4_chairOf w13.2 (xs (Int32.toNatClampNeg (x3 + (1 : Int32)))) (xs (Int32.toNatClampNeg (x3 + (2 : Int32))))) fun z14 => nm (w13.1, z14.2) fun w15 => if z12.1 = z14.1 then (f_L_law_b1345 (f_L_law_l18 L xs n) L xs x3 w15) else (some (0 : Int32))))))) else (if ((xs (Int32.toNatClampNeg x3)) &&& (63 : Int32)) = (2 : Int32) then (ck (x3 + (1 : Int32)) L (Option.bind (f_X3_person w4.1 (xs (Int32.toNatClampNeg (x3 + (1 : Int32))))) fun z16 => nm (z16.2, w4.2) fun w17 => ck (x3 + (1 : Int32)) L (Option.bind (f_X4_person w17.2 (xs (Int32.toNatClampNeg (x3 + (1 : Int32))))) fun z18 => nm (w17.1, z18.2) fun w19 => if z16.1 = z18.1 then (f_L_law_b1345 (f_L_law_l18 L xs n) L xs x3 w19) else (some (0 : Int32))))) else (if ((xs (Int32.toNatClampNeg x3)) &&& (63 : Int32)) = (3 : Int32) then (ck (x3 + (1 : Int32)) L (ck (x3 + (2 : Int32)) L (Option.bind (f_X3_of w4.1 (xs (Int32.toNatClampNeg (x3 + (1 : Int32)))) (xs (Int32.toNatClampNeg (x3 + (2 : Int32))))) fun z20 => nm (z20.2, w4.2) fun w21 => ck (x3 + (1 : Int32)) L (ck (x3 + (2 : Int32)) L (Option.bind (f_X4_of w21.2 (xs (Int32.toNatClampNeg (x3 + (1 : Int32)))) (xs (Int32.toNatClampNeg (x3 + (2 : Int32))))) fun z22 => nm (w21.1, z22.2) fun w23 => if z20.1 = z22.1 then (f_L_law_b1345 (f_L_law_l18 L xs n) L xs x3 w23) else (some (0 : Int32))))))) else (if ((xs (Int32.toNatClampNeg x3)) &&& (63 : Int32)) = (4 : Int32) then (ck (x3 + (1 : Int32)) L (ck (x3 + (2 : Int32)) L (ck (x3 + (3 : Int32)) L (Option.bind (f_X3_set w4.1 (xs (Int32.toNatClampNeg (x3 + (1 : Int32)))) (xs (Int32.toNatClampNeg (x3 + (2 : Int32)))) (xs (Int32.toNatClampNeg (x3 + (3 : Int32))))) fun z24 => nm (z24.2, w4.2) fun w25 => ck (x3 + (1 : Int32)) L (ck (x3 + (2 : Int32)) L (ck (x3 + (3 : Int32)) L (Option.bind (f_X4_set w25.2 (xs (Int32.toNatClampNeg (x3 + (1 : Int32)))) (xs (Int32.toNatClampNeg (x3 + (2 : Int32)))) (xs (Int32.toNatClampNeg (x3 + (3 : Int32))))) fun z26 => nm (w25.1, z26.2) fun w27 => if z24.1 = z26.1 then (f_L_law_b1345 (f_L_law_l18 L xs n) L xs x3 w27) else (some (0 : Int32))))))))) else (if ((xs (Int32.toNatClampNeg x3)) &&& (63 : Int32)) = (5 : Int32) then (ck (x3 + (1 : Int32)) L (ck (x3 + (2 : Int32)) L (Option.bind (f_X3_turn w4.1 (xs (Int32.toNatClampNeg (x3 + (1 : Int32)))) (xs (Int32.toNatClampNeg (x3 + (2 : Int32))))) fun z28 => nm (z28.2, w4.2) fun w29 => ck (x3 + (1 : Int32)) L (ck (x3 + (2 : Int32)) L (Option.bind (f_X4_turn w29.2 (xs (Int32.toNatClampNeg (x3 + (1 : Int32)))) (xs (Int32.toNatClampNeg (x3 + (2 : Int32))))) fun z30 => nm (w29.1, z30.2) fun w31 => if z28.1 = z30.1 then (f_L_law_b1345 (f_L_law_l18 L xs n) L xs x3 w31) else (some (0 : Int32))))))) else (if ((xs (Int32.toNatClampNeg x3)) &&& (63 : Int32)) = (6 : Int32) then (ck (x3 + (1 : Int32)) L (ck (x3 + (2 : Int32)) L (Option.bind (f_X3_as w4.1 (xs (Int32.toNatClampNeg (x3 + (1 : Int32)))) (xs (Int32.toNatClampNeg (x3 + (2 : Int32))))) fun z32 => nm (z32.2, w4.2) fun w33 => ck (x3 + (1 : Int32)) L (ck (x3 + (2 : Int32)) L (Option.bind (f_X4_as w33.2 (xs (Int32.toNatClampNeg (x3 + (1 : Int32)))) (xs (Int32.toNatClampNeg (x3 + (2 : Int32))))) fun z34 => nm (w33.1, z34.2) fun w35 => if z32.1 = z34.1 then (f_L_law_b1345 (f_L_law_l18 L xs n) L xs x3 w35) else (some (0 : Int32))))))) else (if ((xs (Int32.toNatClampNeg x3)) &&& (63 : Int32)) = (7 : Int32) then (ck (x3 + (1 : Int32)) L (ck (x3 + (2 : Int32)) L (ck (x3 + (3 : Int32)) L (Option.bind (f_X3_quarrel w4.1 (xs (Int32.toNatClampNeg (x3 + (1 : Int32)))) (xs (Int32.toNatClampNeg (x3 + (2 : Int32)))) (xs (Int32.toNatClampNeg (x3 + (3 : Int32))))) fun z36 => nm (z36.2, w4.2) fun w37 => ck (x3 + (1 : Int32)) L (ck (x3 + (2 : Int32)) L (ck (x3 + (3 : Int32)) L (Option.bind (f_X4_quarrel w37.2 (xs (Int32.toNatClampNeg (x3 + (1 : Int32)))) (xs (Int32.toNatClampNeg (x3 + (2 : Int32)))) (xs (Int32.toNatClampNeg (x3 + (3 : Int32))))) fun z38 => nm (w37.1, z38.2) fun w39 => if z36.1 = z38.1 then (f_L_law_b1345 (f_L_law_l18 L xs n) L xs x3 w39) else (some (0 : Int32))))))))) else (if ((xs (Int32.toNatClampNeg x3)) &&& (63 : Int32)) = (8 : Int32) then (ck (x3 + (1 : Int32)) L (ck (x3 + (2 : Int32)) L (Option.bind (f_X3_sit w4.1 (xs (Int32.toNatClampNeg (x3 + (1 : Int32)))) (xs (Int32.toNatClampNeg (x3 + (2 : Int32))))) fun z40 => nm (z40.2, w4.2) fun w41 => ck (x3 + (1 : Int32)) L (ck (x3 + (2 : Int32)) L (Option.bind (f_X4_sit w41.2 (xs (Int32.toNatClampNeg (x3 + (1 : Int32)))) (xs (Int32.toNatClampNeg (x3 + (2 : Int32))))) fun z42 => nm (w41.1, z42.2) fun w43 => if z40.1 = z42.1 then (f_L_law_b1345 (f_L_law_l18 L xs n) L xs x3 w43) else (some (0 : Int32))))))) else (if ((xs (Int32.toNatClampNeg x3)) &&& (63 : Int32)) = (9 : Int32) then (ck (x3 + (1 : Int32)) L (ck (x3 + (2 : Int32)) L (Option.bind (f_X3_change w4.1 (xs (Int32.toNatClampNeg (x3 + (1 : Int32)))) (xs (Int32.toNatClampNeg (x3 + (2 : Int32))))) fun z44 => nm (z44.2, w4.2) fun w45 => ck (x3 + (1 : Int32)) L (ck (x3 + (2 : Int32)) L (Option.bind (f_X4_change w45.2 (xs (Int32.toNatClampNeg (x3 + (1 : Int32)))) (xs (Int32.toNatClampNeg (x3 + (2 : Int32))))) fun z46 => nm (w45.1, z46.2) fun w47 => if z44.1 = z46.1 then (f_L_law_b1345 (f_L_law_l18 L xs n) L xs x3 w47) else (some (0 : Int32))))))) else (if ((xs (Int32.toNatClampNeg x3)) &&& (63 : Int32)) = (10 : Int32) then (ck (x3 + (1 : Int32)) L (ck (x3 + (2 : Int32)) L (Option.bind (f_X3_well w4.1 (xs (Int32.toNatClampNeg (x3 + (1 : Int32)))) (xs (Int32.toNatClampNeg (x3 + (2 : Int32))))) fun z48 => nm (z48.2, w4.2) fun w49 => ck (x3 + (1 : Int32)) L (ck (x3 + (2 : Int32)) L (Option.bind (f_X4_well w49.2 (xs (Int32.toNatClampNeg (x3 + (1 : Int32)))) (xs (Int32.toNatClampNeg (x3 + (2 : Int32))))) fun z50 => nm (w49.1, z50.2) fun w51 => if z48.1 = z50.1 then (f_L_law_b1345 (f_L_law_l18 L xs n) L xs x3 w51) else (some (0 : Int32))))))) else (if ((xs (Int32.toNatClampNeg x3)) &&& (63 : Int32)) = (11 : Int32) then (ck (x3 + (1 : Int32)) L (Option.bind (f_X3_hours w4.1 (xs (Int32.toNatClampNeg (x3 + (1 : Int32))))) fun z52 => nm (z52.2, w4.2) fun w53 => ck (x3 + (1 : Int32)) L (Option.bind (f_X4_hours w53.2 (xs (Int32.toNatClampNeg (x3 + (1 : Int32))))) fun z54 => nm (w53.1, z54.2) fun w55 => if z52.1 = z54.1 then (f_L_law_b1345 (f_L_law_l18 L xs n) L xs x3 w55) else (some (0 : Int32))))) else (if ((xs (Int32.toNatClampNeg x3)) &&& (63 : Int32)) = (12 : Int32) then (ck (x3 + (1 : Int32)) L (Option.bind (f_X3_now w4.1 (xs (Int32.toNatClampNeg (x3 + (1 : Int32))))) fun z56 => nm (z56.2, w4.2) fun w57 => ck (x3 + (1 : Int32)) L (Option.bind (f_X4_now w57.2 (xs (Int32.toNatClampNeg (x3 + (1 : Int32))))) fun z58 => nm (w57.1, z58.2) fun w59 => if z56.1 = z58.1 then (f_L_law_b1345 (f_L_law_l18 L xs n) L xs x3 w59) else (some (0 : Int32))))) else (if ((xs (Int32.toNatClampNeg x3)) &&& (63 : Int32)) = (13 : Int32) then (ck (x3 + (1 : Int32)) L (ck (x3 + (2 : Int32)) L (ck (x3 + (3 : Int32)) L (Option.bind (f_X3_on w4.1 (xs (Int32.toNatClampNeg (x3 + (1 : Int32)))) (xs (Int32.toNatClampNeg (x3 + (2 : Int32)))) (xs (Int32.toNatClampNeg (x3 + (3 : Int32))))) fun z60 => nm (z60.2, w4.2) fun w61 => ck (x3 + (1 : Int32)) L (ck (x3 + (2 : Int32)) L (ck (x3 + (3 : Int32)) L (Option.bind (f_X4_on w61.2 (xs (Int32.toNatClampNeg (x3 + (1 : Int32)))) (xs (Int32.toNatClampNeg (x3 + (2 : Int32)))) (xs (Int32.toNatClampNeg (x3 + (3 : Int32))))) fun z62 => nm (w61.1, z62.2) fun w63 => if z60.1 = z62.1 then (f_L_law_b1345 (f_L_law_l18 L xs n) L xs x3 w63) else (some (0 : Int32))))))))) else (if ((xs (Int32.toNatClampNeg x3)) &&& (63 : Int32)) = (14 : Int32) then (ck (x3 + (1 : Int32)) L (Option.bind (f_X3_peace w4.1 (xs (Int32.toNatClampNeg (x3 + (1 : Int32))))) fun z64 => nm (z64.2, w4.2) fun w65 => ck (x3 + (1 : Int32)) L (Option.bind (f_X4_peace w65.2 (xs (Int32.toNatClampNeg (x3 + (1 : Int32))))) fun z66 => nm (w65.1, z66.2) fun w67 => if z64.1 = z66.1 then (f_L_law_b1345 (f_L_law_l18 L xs n) L xs x3 w67) else (some (0 : Int32))))) else (if ((xs (Int32.toNatClampNeg x3)) &&& (63 : Int32)) = (15 : Int32) then (Option.bind (f_X3_settles w4.1) fun z68 => nm (z68.2, w4.2) fun w69 => Option.bind (f_X4_settles w69.2) fun z70 => nm (w69.1, z70.2) fun w71 => if z68.1 = z70.1 then (f_L_law_b1345 (f_L_law_l18 L xs n) L xs x3 w71) else (some (0 : Int32))) else (if ((xs (Int32.toNatClampNeg x3)) &&& (63 : Int32)) = (16 : Int32) then (ck (x3 + (1 : Int32)) L (ck (x3 + (2 : Int32)) L (Option.bind (f_X3_gets w4.1 (xs (Int32.toNatClampNeg (x3 + (1 : Int32)))) (xs (Int32.toNatClampNeg (x3 + (2 : Int32))))) fun z72 => nm (z72.2, w4.2) fun w73 => ck (x3 + (1 : Int32)) L (ck (x3 + (2 : Int32)) L (Option.bind (f_X4_gets w73.2 (xs (Int32.toNatClampNeg (x3 + (1 : Int32)))) (xs (Int32.toNatClampNeg (x3 + (2 : Int32))))) fun z74 => nm (w73.1, z74.2) fun w75 => if z72.1 = z74.1 then (f_L_law_b1345 (f_L_law_l18 L xs n) L xs x3 w75) else (some (0 : Int32))))))) else (if ((xs (Int32.toNatClampNeg x3)) &&& (63 : Int32)) = (17 : Int32) then (Option.bind (f_X3_best w4.1) fun z76 => nm (z76.2, w4.2) fun w77 => Option.bind (f_X4_best w77.2) fun z78 => nm (w77.1, z78.2) fun w79 => if z76.1 = z78.1 then (f_L_law_b1345 (f_L_law_l18 L xs n) L xs x3 w79) else (some (0 : Int32))) else (if ((xs (Int32.toNatClampNeg x3)) &&& (63 : Int32)) = (18 : Int32) then (ck (x3 + (1 : Int32)) L (Option.bind (f_X3_mend w4.1 (xs (Int32.toNatClampNeg (x3 + (1 : Int32))))) fun z80 => nm (z80.2, w4.2) fun w81 => ck (x3 + (1 : Int32)) L (Option.bind (f_X4_mend w81.2 (xs (Int32.toNatClampNeg (x3 + (1 : Int32))))) fun z82 => nm (w81.1, z82.2) fun w83 => if z80.1 = z82.1 then (f_L_law_b1345 (f_L_law_l18 L xs n) L xs x3 w83) else (some (0 : Int32))))) else (if ((xs (Int32.toNatClampNeg x3)) &&& (63 : Int32)) = (19 : Int32) then (ck (x3 + (1 : Int32)) L (ck (x3 + (2 : Int32)) L (Option.bind (f_X3_kind w4.1 (xs (Int32.toNatClampNeg (x3 + (1 : Int32)))) (xs (Int32.toNatClampNeg (x3 + (2 : Int32))))) fun z84 => nm (z84.2, w4.2) fun w85 => ck (x3 + (1 : Int32)) L (ck (x3 + (2 : Int32)) L (Option.bind (f_X4_kind w85.2 (xs (Int32.toNatClampNeg (x3 + (1 : Int32)))) (xs (Int32.toNatClampNeg (x3 + (2 : Int32))))) fun z86 => nm (w85.1, z86.2) fun w87 => if z84.1 = z86.1 then (f_L_law_b1345 (f_L_law_l18 L xs n) L xs x3 w87) else (some (0 : Int32))))))) else (if ((xs (Int32.toNatClampNeg x3)) &&& (63 : Int32)) = (20 : Int32) then (ck (x3 + (1 : Int32)) L (ck (x3 + (2 : Int32)) L (Option.bind (f_X3_claim w4.1 (xs (Int32.toNatClampNeg (x3 + (1 : Int32)))) (xs (Int32.toNatClampNeg (x3 + (2 : Int32))))) fun z88 => nm (z88.2, w4.2) fun w89 => ck (x3 + (1 : Int32)) L (ck (x3 + (2 : Int32)) L (Option.bind (f_X4_claim w89.2 (xs (Int32.toNatClampNeg (x3 + (1 : Int32)))) (xs (Int32.toNatClampNeg (x3 + (2 : Int32))))) fun z90 => nm (w89.1, z90.2) fun w91 => if z88.1 = z90.1 then (f_L_law_b1345 (f_L_law_l18 L xs n) L xs x3 w91) else (some (0 : Int32))))))) else (if ((xs (Int32.toNatClampNeg x3)) &&& (63 : Int32)) = (21 : Int32) then (ck (x3 + (1 : Int32)) L (ck (x3 + (2 : Int32)) L (ck (x3 + (3 : Int32)) L (Option.bind (f_X3_years w4.1 (xs (Int32.toNatClampNeg (x3 + (1 : Int32)))) (xs (Int32.toNatClampNeg (x3 + (2 : Int32)))) (xs (Int32.toNatClampNeg (x3 + (3 : Int32))))) fun z92 => nm (z92.2, w4.2) fun w93 => ck (x3 + (1 : Int32)) L (ck (x3 + (2 : Int32)) L (ck (x3 + (3 : Int32)) L (Option.bind (f_X4_years w93.2 (xs (Int32.toNatClampNeg (x3 + (1 : Int32)))) (xs (Int32.toNatClampNeg (x3 + (2 : Int32)))) (xs (Int32.toNatClampNeg (x3 + (3 : Int32))))) fun z94 => nm (w93.1, z94.2) fun w95 => if z92.1 = z94.1 then (f_L_law_b1345 (f_L_law_l18 L xs n) L xs x3 w95) else (some (0 : Int32))))))))) else (if ((xs (Int32.toNatClampNeg x3)) &&& (63 : Int32)) = (22 : Int32) then (ck (x3 + (1 : Int32)) L (Option.bind (f_X3_always w4.1 (xs (Int32.toNatClampNeg (x3 + (1 : Int32))))) fun z96 => nm (z96.2, w4.2) fun w97 => ck (x3 + (1 : Int32)) L (Option.bind (f_X4_always w97.2 (xs (Int32.toNatClampNeg (x3 + (1 : Int32))))) fun z98 => nm (w97.1, z98.2) fun w99 => if z96.1 = z98.1 then (f_L_law_b1345 (f_L_law_l18 L xs n) L xs x3 w99) else (some (0 : Int32))))) else (if ((xs (Int32.toNatClampNeg x3)) &&& (63 : Int32)) = (23 : Int32) then (ck (x3 + (1 : Int32)) L (Option.bind (f_X3_beside w4.1 (xs (Int32.toNatClampNeg (x3 + (1 : Int32))))) fun z100 => nm (z100.2, w4.2) fun w101 => ck (x3 + (1 : Int32)) L (Option.bind (f_X4_beside w101.2 (xs (Int32.toNatClampNeg (x3 + (1 : Int32))))) fun z102 => nm (w101.1, z102.2) fun w103 => if z100.1 = z102.1 then (f_L_law_b1345 (f_L_law_l18 L xs n) L xs x3 w103) else (some (0 : Int32))))) else (if ((xs (Int32.toNatClampNeg x3)) &&& (63 : Int32)) = (24 : Int32) then (ck (x3 + (1 : Int32)) L (ck (x3 + (2 : Int32)) L (Option.bind (f_X3_feed w4.1 (xs (Int32.toNatClampNeg (x3 + (1 : Int32)))) (xs (Int32.toNatClampNeg (x3 + (2 : Int32))))) fun z104 => nm (z104.2, w4.2) fun w105 => ck (x3 + (1 : Int32)) L (ck (x3 + (2 : Int32)) L (Option.bind (f_X4_feed w105.2 (xs (Int32.toNatClampNeg (x3 + (1 : Int32)))) (xs (Int32.toNatClampNeg (x3 + (2 : Int32))))) fun z106 => nm (w105.1, z106.2) fun w107 => if z104.1 = z106.1 then (f_L_law_b1345 (f_L_law_l18 L xs n) L xs x3 w107) else (some (0 : Int32))))))) else (if ((xs (Int32.toNatClampNeg x3)) &&& (63 : Int32)) = (25 : Int32) then (Option.bind (f_X3_wipe w4.1) fun z108 => nm (z108.2, w4.2) fun w109 => Option.bind (f_X4_wipe w109.2) fun z110 => nm (w109.1, z110.2) fun w111 => if z108.1 = z110.1 then (f_L_law_b1345 (f_L_law_l18 L xs n) L xs x3 w111) else (some (0 : Int32))) else (if ((xs (Int32.toNatClampNeg x3)) &&& (63 : Int32)) = (26 : Int32) then (Option.bind (f_X3_room w4.1) fun z112 => nm (z112.2, w4.2) fun w113 => Option.bind (f_X4_room w113.2) fun z114 => nm (w113.1, z114.2) fun w115 => if z112.1 = z114.1 then (f_L_law_b1345 (f_L_law_l18 L xs n) L xs x3 w115) else (some (0 : Int32))) else (if ((xs (Int32.toNatClampNeg x3)) &&& (63 : Int32)) = (27 : Int32) then (ck (x3 + (1 : Int32)) L (ck (x3 + (2 : Int32)) L (ck (x3 + (3 : Int32)) L (Option.bind (f_X3_sheet w4.1 (xs (Int32.toNatClampNeg (x3 + (1 : Int32)))) (xs (Int32.toNatClampNeg (x3 + (2 : Int32)))) (xs (Int32.toNatClampNeg (x3 + (3 : Int32))))) fun z116 => nm (z116.2, w4.2) fun w117 => ck (x3 + (1 : Int32)) L (ck (x3 + (2 : Int32)) L (ck (x3 + (3 : Int32)) L (Option.bind (f_X4_sheet w117.2 (xs (Int32.toNatClampNeg (x3 + (1 : Int32)))) (xs (Int32.toNatClampNeg (x3 + (2 : Int32)))) (xs (Int32.toNatClampNeg (x3 + (3 : Int32))))) fun z118 => nm (w117.1, z118.2) fun w119 => if z116.1 = z118.1 then (f_L_law_b1345 (f_L_law_l18 L xs n) L xs x3 w119) else (some (0 : Int32))))))))) else (if ((xs (Int32.toNatClampNeg x3)) &&& (63 : Int32)) = (28 : Int32) then (ck (x3 + (1 : Int32)) L (ck (x3 + (2 : Int32)) L (ck (x3 + (3 : Int32)) L (ck (x3 + (4 : Int32)) L (Option.bind (f_X3_write w4.1 (xs (Int32.toNatClampNeg (x3 + (1 : Int32)))) (xs (Int32.toNatClampNeg (x3 + (2 : Int32)))) (((Int32.toInt64 (xs (Int32.toNatClampNeg (x3 + (3 : Int32))))) <<< (Int32.toInt64 (32 : Int32) &&& 63)) ||| ((Int32.toInt64 (xs (Int32.toNatClampNeg (x3 + (4 : Int32))))) &&& (4294967295 : Int64)))) fun z120 => nm (z120.2, w4.2) fun w121 => ck (x3 + (1 : Int32)) L (ck (x3 + (2 : Int32)) L (ck (x3 + (3 : Int32)) L (ck (x3 + (4 : Int32)) L (Option.bind (f_X4_write w121.2 (xs (Int32.toNatClampNeg (x3 + (1 : Int32)))) (xs (Int32.toNatClampNeg (x3 + (2 : Int32)))) (((Int32.toInt64 (xs (Int32.toNatClampNeg (x3 + (3 : Int32))))) <<< (Int32.toInt64 (32 : Int32) &&& 63)) ||| ((Int32.toInt64 (xs (Int32.toNatClampNeg (x3 + (4 : Int32))))) &&& (4294967295 : Int64)))) fun z122 => nm (w121.1, z122.2) fun w123 => if (lg_cmp z120.1 z122.1) = 0 then (f_L_law_b1345 (f_L_law_l18 L xs n) L xs x3 w123) else (some (0 : Int32))))))))))) else (if ((xs (Int32.toNatClampNeg x3)) &&& (63 : Int32)) = (29 : Int32) then (ck (x3 + (1 : Int32)) L (ck (x3 + (2 : Int32)) L (ck (x3 + (3 : Int32)) L (ck (x3 + (4 : Int32)) L (ck (x3 + (5 : Int32)) L (Option.bind (f_X3_copy w4.1 (xs (Int32.toNatClampNeg (x3 + (1 : Int32)))) (xs (Int32.toNatClampNeg (x3 + (2 : Int32)))) (xs (Int32.toNatClampNeg (x3 + (3 : Int32)))) (xs (Int32.toNatClampNeg (x3 + (4 : Int32)))) (xs (Int32.toNatClampNeg (x3 + (5 : Int32))))) fun z124 => nm (z124.2, w4.2) fun w125 => ck (x3 + (1 : Int32)) L (ck (x3 + (2 : Int32)) L (ck (x3 + (3 : Int32)) L (ck (x3 + (4 : Int32)) L (ck (x3 + (5 : Int32)) L (Option.bind (f_X4_copy w125.2 (xs (Int32.toNatClampNeg (x3 + (1 : Int32)))) (xs (Int32.toNatClampNeg (x3 + (2 : Int32)))) (xs (Int32.toNatClampNeg (x3 + (3 : Int32)))) (xs (Int32.toNatClampNeg (x3 + (4 : Int32)))) (xs (Int32.toNatClampNeg (x3 + (5 : Int32))))) fun z126 => nm (w125.1, z126.2) fun w127 => if z124.1 = z126.1 then (f_L_law_b1345 (f_L_law_l18 L xs n) L xs x3 w127) else (some (0 : Int32))))))))))))) else (if ((xs (Int32.toNatClampNeg x3)) &&& (63 : Int32)) = (30 : Int32) then (ck (x3 + (1 : Int32)) L (Option.bind (f_X3_lays w4.1 (xs (Int32.toNatClampNeg (x3 + (1 : Int32))))) fun z128 => nm (z128.2, w4.2) fun w129 => ck (x3 + (1 : Int32)) L (Option.bind (f_X4_lays w129.2 (xs (Int32.toNatClampNeg (x3 + (1 : Int32))))) fun z130 => nm (w129.1, z130.2) fun w131 => if z128.1 = z130.1 then (f_L_law_b1345 (f_L_law_l18 L xs n) L xs x3 w131) else (some (0 : Int32))))) else (if ((xs (Int32.toNatClampNeg x3)) &&& (63 : Int32)) = (31 : Int32) then (ck (x3 + (1 : Int32)) L (ck (x3 + (2 : Int32)) L (Option.bind (f_X3_book w4.1 (xs (Int32.toNatClampNeg (x3 + (1 : Int32)))) (xs (Int32.toNatClampNeg (x3 + (2 : Int32))))) fun z132 => nm (z132.2, w4.2) fun w133 => ck (x3 + (1 : Int32)) L (ck (x3 + (2 : Int32)) L (Option.bind (f_X4_book w133.2 (xs (Int32.toNatClampNeg (x3 + (1 : Int32)))) (xs (Int32.toNatClampNeg (x3 + (2 : Int32))))) fun z134 => nm (w133.1, z134.2) fun w135 => if z132.1 = z134.1 then (f_L_law_b1345 (f_L_law_l18 L xs n) L xs x3 w135) else (some (0 : Int32))))))) else (if ((xs (Int32.toNatClampNeg x3)) &&& (63 : Int32)) = (32 : Int32) then (ck (x3 + (1 : Int32)) L (ck (x3 + (2 : Int32)) L (Option.bind (f_X3_read w4.1 (xs (Int32.toNatClampNeg (x3 + (1 : Int32)))) (xs (Int32.toNatClampNeg (x3 + (2 : Int32))))) fun z136 => nm (z136.2, w4.2) fun w137 => ck (x3 + (1 : Int32)) L (ck (x3 + (2 : Int32)) L (Option.bind (f_X4_read w137.2 (xs (Int32.toNatClampNeg (x3 + (1 : Int32)))) (xs (Int32.toNatClampNeg (x3 + (2 : Int32))))) fun z138 => nm (w137.1, z138.2) fun w139 => if z136.1 = z138.1 then (f_L_law_b1345 (f_L_law_l18 L xs n) L xs x3 w139) else (some (0 : Int32))))))) else (if ((xs (Int32.toNatClampNeg x3)) &&& (63 : Int32)) = (33 : Int32) then (Option.bind (f_X3_image w4.1) fun z140 => nm (z140.2, w4.2) fun w141 => Option.bind (f_X4_image w141.2) fun z142 => nm (w141.1, z142.2) fun w143 => if z140.1 = z142.1 then (f_L_law_b1345 (f_L_law_l18 L xs n) L xs x3 w143) else (some (0 : Int32))) else (if ((xs (Int32.toNatClampNeg x3)) &&& (63 : Int32)) = (34 : Int32) then (Option.bind (f_X3_undo w4.1) fun z144 => nm (z144.2, w4.2) fun w145 => Option.bind (f_X4_undo w145.2) fun z146 => nm (w145.1, z146.2) fun w147 => if z144.1 = z146.1 then (f_L_law_b1345 (f_L_law_l18 L xs n) L xs x3 w147) else (some (0 : Int32))) else (if ((xs (Int32.toNatClampNeg x3)) &&& (63 : Int32)) = (35 : Int32) then (Option.bind (f_X3_tear w4.1) fun z148 => nm (z148.2, w4.2) fun w149 => Option.bind (f_X4_tear w149.2) fun z150 => nm (w149.1, z150.2) fun w151 => if z148.1 = z150.1 then (f_L_law_b1345 (f_L_law_l18 L xs n) L xs x3 w151) else (some (0 : Int32))) else (if ((xs (Int32.toNatClampNeg x3)) &&& (63 : Int32)) = (36 : Int32) then (ck (x3 + (1 : Int32)) L (Option.bind (f_X3_count w4.1 (xs (Int32.toNatClampNeg (x3 + (1 : Int32))))) fun z152 => nm (z152.2, w4.2) fun w153 => ck (x3 + (1 : Int32)) L (Option.bind (f_X4_count w153.2 (xs (Int32.toNatClampNeg (x3 + (1 : Int32))))) fun z154 => nm (w153.1, z154.2) fun w155 => if z152.1 = z154.1 then (f_L_law_b1345 (f_L_law_l18 L xs n) L xs x3 w155) else (some (0 : Int32))))) else (if ((xs (Int32.toNatClampNeg x3)) &&& (63 : Int32)) = (37 : Int32) then (ck (x3 + (1 : Int32)) L (Option.bind (f_X3_status w4.1 (xs (Int32.toNatClampNeg (x3 + (1 : Int32))))) fun z156 => nm (z156.2, w4.2) fun w157 => ck (x3 + (1 : Int32)) L (Option.bind (f_X4_status w157.2 (xs (Int32.toNatClampNeg (x3 + (1 : Int32))))) fun z158 => nm (w157.1, z158.2) fun w159 => if z156.1 = z158.1 then (f_L_law_b1345 (f_L_law_l18 L xs n) L xs x3 w159) else (some (0 : Int32))))) else (f_L_law_b1345 (f_L_law_l18 L xs n) L xs x3 w4))))))))))))))))))))))))))))))))))))))))
set_option maxHeartbeats 40000000 in
set_option maxRecDepth 100000 in
theorem law_walk {g : GT} {K : KT} {b L : Nat} {xs : Nat → Int32} {ad bd : Nat → Nat} (fx : Fx g K room_1 code 4 ret RL) (hX : va_X b L xs (ks K) (ks K).heap) (hbl : b < (ks K).heap.size) (hbA : ¬ kA K b) (hQ : kQ K = lw_Z (kb K) (ka K) (ks K)) (ha : ka K = #[Value.ref b]) (hsz : ∀ q, kA K q → (ks K).heap.size ≤ q) (n : Nat) (i : Int32) (p : (Nat → StT) × StT) (h : f_L_law_l18 L xs n i p = some 1) : WA g K 4 56 1201 18 [(0, .ref (b)), (1, .ref (ad 0)), (2, .ref (bd 0)), (3, .int i)] [] (lw_ws g ad bd p) := by
  have B1345 : ∀ (k18 : (Int32) → ((Nat → StT) × StT) → Option (Int32)) (Hk18 : ∀ (y1 : Int32) (w2 : (Nat → StT) × StT), k18 y1 w2 = some 1 → WA g K 4 56 1201 18 [(0, .ref (b)), (1, .ref (ad 0)), (2, .ref (bd 0)), (3, .int y1)] [] (lw_ws g ad bd w2)) (x9 : Int32) (w10 : (Nat → StT) × StT), f_L_law_b1345 k18 L xs x9 w10 = some 1 → WA g K 4 56 1201 1345 [(0, .ref (b)), (1, .ref (ad 0)), (2, .ref (bd 0)), (3, .int x9)] [] (lw_ws g ad bd w10) := by
    intro  k18 Hk18 x9 w10 h
    rw [f_L_law_b1345] at h
    refine wa_iinc fx 3 (fun x11 => [(3, .int x11), (0, .ref (b)), (1, .ref (ad 0)), (2, .ref (bd 0))]) dL_law_1345 rfl (by rfl) (by decide) (fun _ => rfl) h (fun x11 h => ?_)
    refine wa_goto fx 18 dL_law_1348 (by decide) ?_
    refine wa_sub [1, 2, 3, 0] rfl ?_
    exact Hk18 x11 w10 h
  have B18 : ∀  (n : Nat) (x3 : Int32) (w4 : (Nat → StT) × StT), f_L_law_l18 L xs n x3 w4 = some 1 → WA g K 4 56 1201 18 [(0, .ref (b)), (1, .ref (ad 0)), (2, .ref (bd 0)), (3, .int x3)] [] (lw_ws g ad bd w4) := by
    intro   n
    induction n with
    | zero => intro x3 w4 h; exact absurd h (by rw [f_L_law_l18]; exact nofun)
    | succ n ih =>
      intro x3 w4 h
      rw [f_L_law_l18] at h
      refine wa_iload_n fx 3 dL_law_18 rfl ?_
      refine wa_aload_n fx 0 dL_law_19 rfl ?_
      refine wa_slenS fx hX hbl hbA dL_law_20 ?_
      refine wa_bipush fx (6 : Int32) dL_law_21 (by decide) ?_
      refine wa_isub fx dL_law_23 ?_
      refine wa_icmp_gt fx 1351 dL_law_24 (by decide) h (fun h => ?_) (fun h => ?_)
      · refine wa_iconst fx (1 : Int32) dL_law_1351 (by decide) ?_
        exact fn_law fx hQ ha hsz (Nat.le_of_ble_eq_true rfl) (Nat.le_of_ble_eq_true rfl) dL_law_1352
      · refine wa_aload_n fx 0 dL_law_27 rfl ?_
        refine wa_iload_n fx 3 dL_law_28 rfl ?_
        refine wa_sld fx hX hbl hbA dL_law_29 h (fun h => ?_)
        refine wa_bipush fx (63 : Int32) dL_law_30 (by decide) ?_
        refine wa_iand fx dL_law_32 ?_
        by_cases c0 : ((xs (Int32.toNatClampNeg x3)) &&& (63 : Int32)) = (0 : Int32)
        · have h := (if_pos c0).symm.trans h
          refine wa_tabI fx 200 (0 : Int) dL_law_33 (by rw [c0] <;> rfl) (by decide) (by decide) (by rfl) (by decide) ?_
          refine wa_aload_n fx 1 dL_law_200 rfl ?_
          refine wa_aload_n fx 0 dL_law_201 rfl ?_
          refine wa_iload_n fx 3 dL_law_202 rfl ?_
          refine wa_iconst fx (1 : Int32) dL_law_203 (by decide) ?_
          refine wa_iadd fx dL_law_204 ?_
          refine wa_sld fx hX hbl hbA dL_law_205 h (fun h => ?_)
          refine wa_aload_n fx 0 dL_law_206 rfl ?_
          refine wa_iload_n fx 3 dL_law_207 rfl ?_
          refine wa_iconst fx (2 : Int32) dL_law_208 (by decide) ?_
          refine wa_iadd fx dL_law_209 ?_
          refine wa_sld fx hX hbl hbA dL_law_210 h (fun h => ?_)
          refine wa_aload_n fx 0 dL_law_211 rfl ?_
          refine wa_iload_n fx 3 dL_law_212 rfl ?_
          refine wa_iconst fx (3 : Int32) dL_law_213 (by decide) ?_
          refine wa_iadd fx dL_law_214 ?_
          refine wa_sld fx hX hbl hbA dL_law_215 h (fun h => ?_)
          refine wa_V (b := ad 0) (rmc := rmh 3) (As := [.int (xs (Int32.toNatClampNeg (x3 + (1 : Int32)))), .int (xs (Int32.toNatClampNeg (x3 + (2 : Int32)))), .int (xs (Int32.toNatClampNeg (x3 + (3 : Int32))))]) (st := []) (wc := (wc_ws g ad w4.1)) (wr := (mo_ws g bd w4.2)) (wcz := fun z5 => wc_ws g ad z5.2) (w2 := fun z5 => lw_ws g ad bd (z5.2, w4.2)) (o := fun z5 => some (.int z5.1)) (s2 := fun z5 => [.int z5.1]) (ci := 3) (q0 := 0) fx mm_X3_chair q_4_5 dL_law_216 h (fun _ hz => c_X3_chair hz) rfl rfl ⟨rfl, rfl, Nat.le_of_ble_eq_true rfl, Nat.le_of_ble_eq_true rfl⟩ ⟨Nat.le_of_ble_eq_true rfl, Nat.le_of_ble_eq_true rfl⟩ rfl List.perm_append_comm (fun _ => List.perm_append_comm) rfl (Nat.le_of_ble_eq_true rfl) (fun _ => rfl) (fun z5 h => ?_)
          refine nm_w (lw_ws g ad bd) h (fun w6 h => ?_)
          refine wa_aload_n fx 2 dL_law_219 rfl ?_
          refine wa_aload_n fx 0 dL_law_220 rfl ?_
          refine wa_iload_n fx 3 dL_law_221 rfl ?_
          refine wa_iconst fx (1 : Int32) dL_law_222 (by decide) ?_
          refine wa_iadd fx dL_law_223 ?_
          refine wa_sld fx hX hbl hbA dL_law_224 h (fun h => ?_)
          refine wa_aload_n fx 0 dL_law_225 rfl ?_
          refine wa_iload_n fx 3 dL_law_226 rfl ?_
          refine wa_iconst fx (2 : Int32) dL_law_227 (by decide) ?_
          refine wa_iadd fx dL_law_228 ?_
          refine wa_sld fx hX hbl hbA dL_law_229 h (fun h => ?_)
          refine wa_aload_n fx 0 dL_law_230 rfl ?_
          refine wa_iload_n fx 3 dL_law_231 rfl ?_
          refine wa_iconst fx (3 : Int32) dL_law_232 (by decide) ?_
          refine wa_iadd fx dL_law_233 ?_
          refine wa_sld fx hX hbl hbA dL_law_234 h (fun h => ?_)
          refine wa_V (b := bd 0) (rmc := rmh 3) (As := [.int (xs (Int32.toNatClampNeg (x3 + (1 : Int32)))), .int (xs (Int32.toNatClampNeg (x3 + (2 : Int32)))), .int (xs (Int32.toNatClampNeg (x3 + (3 : Int32))))]) (st := [.int z5.1]) (wc := (mo_ws g bd w6.2)) (wr := (wc_ws g ad w6.1)) (wcz := fun z7 => mo_ws g bd z7.2) (w2 := fun z7 => lw_ws g ad bd (w6.1, z7.2)) (o := fun z7 => some (.int z7.1)) (s2 := fun z7 => [.int z7.1, .int z5.1]) (ci := 4) (q0 := 0) fx mm_X4_chair q_4_22 dL_law_235 h (fun _ hz => c_X4_chair hz) rfl rfl ⟨rfl, rfl, Nat.le_of_ble_eq_true rfl, Nat.le_of_ble_eq_true rfl⟩ ⟨Nat.le_of_ble_eq_true rfl, Nat.le_of_ble_eq_true rfl⟩ rfl (List.Perm.refl _) (fun _ => (List.Perm.refl _)) rfl (Nat.le_of_ble_eq_true rfl) (fun _ => rfl) (fun z7 h => ?_)
          refine nm_w (lw_ws g ad bd) h (fun w8 h => ?_)
          refine wa_icmp_eq fx 1345 dL_law_238 (by decide) h (fun h => ?_) (fun h => ?_)
          · refine wa_sub [0, 1, 2, 3] rfl ?_
            exact B1345 (f_L_law_l18 L xs n) ih x3 w8 h
          · refine wa_iconst fx (0 : Int32) dL_law_241 (by decide) ?_
            exact absurd h (by decide)
        · have h := (if_neg c0).symm.trans h
          by_cases c1 : ((xs (Int32.toNatClampNeg x3)) &&& (63 : Int32)) = (1 : Int32)
          · have h := (if_pos c1).symm.trans h
            refine wa_tabI fx 243 (1 : Int) dL_law_33 (by rw [c1] <;> rfl) (by decide) (by decide) (by rfl) (by decide) ?_
            refine wa_aload_n fx 1 dL_law_243 rfl ?_
            refine wa_aload_n fx 0 dL_law_244 rfl ?_
            refine wa_iload_n fx 3 dL_law_245 rfl ?_
            refine wa_iconst fx (1 : Int32) dL_law_246 (by decide) ?_
            refine wa_iadd fx dL_law_247 ?_
            refine wa_sld fx hX hbl hbA dL_law_248 h (fun h => ?_)
            refine wa_aload_n fx 0 dL_law_249 rfl ?_
            refine wa_iload_n fx 3 dL_law_250 rfl ?_
            refine wa_iconst fx (2 : Int32) dL_law_251 (by decide) ?_
            refine wa_iadd fx dL_law_252 ?_
            refine wa_sld fx hX hbl hbA dL_law_253 h (fun h => ?_)
            refine wa_V (b := ad 0) (rmc := rmh 3) (As := [.int (xs (Int32.toNatClampNeg (x3 + (1 : Int32)))), .int (xs (Int32.toNatClampNeg (x3 + (2 : Int32))))]) (st := []) (wc := (wc_ws g ad w4.1)) (wr := (mo_ws g bd w4.2)) (wcz := fun z12 => wc_ws g ad z12.2) (w2 := fun z12 => lw_ws g ad bd (z12.2, w4.2)) (o := fun z12 => some (.int z12.1)) (s2 := fun z12 => [.int z12.1]) (ci := 3) (q0 := 0) fx mm_X3_chairOf q_5_20 dL_law_254 h (fun _ hz => c_X3_chairOf hz) rfl rfl ⟨rfl, rfl, Nat.le_of_ble_eq_true rfl, Nat.le_of_ble_eq_true rfl⟩ ⟨Nat.le_of_ble_eq_true rfl, Nat.le_of_ble_eq_true rfl⟩ rfl List.perm_append_comm (fun _ => List.perm_append_comm) rfl (Nat.le_of_ble_eq_true rfl) (fun _ => rfl) (fun z12 h => ?_)
            refine nm_w (lw_ws g ad bd) h (fun w13 h => ?_)
            refine wa_aload_n fx 2 dL_law_257 rfl ?_
            refine wa_aload_n fx 0 dL_law_258 rfl ?_
            refine wa_iload_n fx 3 dL_law_259 rfl ?_
            refine wa_iconst fx (1 : Int32) dL_law_260 (by decide) ?_
            refine wa_iadd fx dL_law_261 ?_
            refine wa_sld fx hX hbl hbA dL_law_262 h (fun h => ?_)
            refine wa_aload_n fx 0 dL_law_263 rfl ?_
            refine wa_iload_n fx 3 dL_law_264 rfl ?_
            refine wa_iconst fx (2 : Int32) dL_law_265 (by decide) ?_
            refine wa_iadd fx dL_law_266 ?_
            refine wa_sld fx hX hbl hbA dL_law_267 h (fun h => ?_)
            refine wa_V (b := bd 0) (rmc := rmh 4) (As := [.int (xs (Int32.toNatClampNeg (x3 + (1 : Int32)))), .int (xs (Int32.toNatClampNeg (x3 + (2 : Int32))))]) (st := [.int z12.1]) (wc := (mo_ws g bd w13.2)) (wr := (wc_ws g ad w13.1)) (wcz := fun z14 => mo_ws g bd z14.2) (w2 := fun z14 => lw_ws g ad bd (w13.1, z14.2)) (o := fun z14 => some (.int z14.1)) (s2 := fun z14 => [.int z14.1, .int z12.1]) (ci := 4) (q0 := 0) fx mm_X4_chairOf q_6_1 dL_law_268 h (fun _ hz => c_X4_chairOf hz) rfl rfl ⟨rfl, rfl, Nat.le_of_ble_eq_true rfl, Nat.le_of_ble_eq_true rfl⟩ ⟨Nat.le_of_ble_eq_true rfl, Nat.le_of_ble_eq_true rfl⟩ rfl (List.Perm.refl _) (fun _ => (List.Perm.refl _)) rfl (Nat.le_of_ble_eq_true rfl) (fun _ => rfl) (fun z14 h => ?_)
            refine nm_w (lw_ws g ad bd) h (fun w15 h => ?_)
            refine wa_icmp_eq fx 1345 dL_law_271 (by decide) h (fun h => ?_) (fun h => ?_)
            · refine wa_sub [0, 1, 2, 3] rfl ?_
              exact B1345 (f_L_law_l18 L xs n) ih x3 w15 h
            · refine wa_iconst fx (0 : Int32) dL_law_274 (by decide) ?_
              exact absurd h (by decide)
          · have h := (if_neg c1).symm.trans h
            by_cases c2 : ((xs (Int32.toNatClampNeg x3)) &&& (63 : Int32)) = (2 : Int32)
            · have h := (if_pos c2).symm.trans h
              refine wa_tabI fx 276 (2 : Int) dL_law_33 (by rw [c2] <;> rfl) (by decide) (by decide) (by rfl) (by decide) ?_
              refine wa_aload_n fx 1 dL_law_276 rfl ?_
              refine wa_aload_n fx 0 dL_law_277 rfl ?_
              refine wa_iload_n fx 3 dL_law_278 rfl ?_
              refine wa_iconst fx (1 : Int32) dL_law_279 (by decide) ?_
              refine wa_iadd fx dL_law_280 ?_
              refine wa_sld fx hX hbl hbA dL_law_281 h (fun h => ?_)
              refine wa_V (b := ad 0) (rmc := rmh 3) (As := [.int (xs (Int32.toNatClampNeg (x3 + (1 : Int32))))]) (st := []) (wc := (wc_ws g ad w4.1)) (wr := (mo_ws g bd w4.2)) (wcz := fun z16 => wc_ws g ad z16.2) (w2 := fun z16 => lw_ws g ad bd (z16.2, w4.2)) (o := fun z16 => some (.int z16.1)) (s2 := fun z16 => [.int z16.1]) (ci := 3) (q0 := 0) fx mm_X3_person q_6_17 dL_law_282 h (fun _ hz => c_X3_person hz) rfl rfl ⟨rfl, rfl, Nat.le_of_ble_eq_true rfl, Nat.le_of_ble_eq_true rfl⟩ ⟨Nat.le_of_ble_eq_true rfl, Nat.le_of_ble_eq_true rfl⟩ rfl List.perm_append_comm (fun _ => List.perm_append_comm) rfl (Nat.le_of_ble_eq_true rfl) (fun _ => rfl) (fun z16 h => ?_)
              refine nm_w (lw_ws g ad bd) h (fun w17 h => ?_)
              refine wa_aload_n fx 2 dL_law_285 rfl ?_
              refine wa_aload_n fx 0 dL_law_286 rfl ?_
              refine wa_iload_n fx 3 dL_law_287 rfl ?_
              refine wa_iconst fx (1 : Int32) dL_law_288 (by decide) ?_
              refine wa_iadd fx dL_law_289 ?_
              refine wa_sld fx hX hbl hbA dL_law_290 h (fun h => ?_)
              refine wa_V (b := bd 0) (rmc := rmh 3) (As := [.int (xs (Int32.toNatClampNeg (x3 + (1 : Int32))))]) (st := [.int z16.1]) (wc := (mo_ws g bd w17.2)) (wr := (wc_ws g ad w17.1)) (wcz := fun z18 => mo_ws g bd z18.2) (w2 := fun z18 => lw_ws g ad bd (w17.1, z18.2)) (o := fun z18 => some (.int z18.1)) (s2 := fun z18 => [.int z18.1, .int z16.1]) (ci := 4) (q0 := 0) fx mm_X4_person q_7_6 dL_law_291 h (fun _ hz => c_X4_person hz) rfl rfl ⟨rfl, rfl, Nat.le_of_ble_eq_true rfl, Nat.le_of_ble_eq_true rfl⟩ ⟨Nat.le_of_ble_eq_true rfl, Nat.le_of_ble_eq_true rfl⟩ rfl (List.Perm.refl _) (fun _ => (List.Perm.refl _)) rfl (Nat.le_of_ble_eq_true rfl) (fun _ => rfl) (fun z18 h => ?_)
              refine nm_w (lw_ws g ad bd) h (fun w19 h => ?_)
              refine wa_icmp_eq fx 1345 dL_law_294 (by decide) h (fun h => ?_) (fun h => ?_)
              · refine wa_sub [0, 1, 2, 3] rfl ?_
                exact B1345 (f_L_law_l18 L xs n) ih x3 w19 h
              · refine wa_iconst fx (0 : Int32) dL_law_297 (by decide) ?_
                exact absurd h (by decide)
            · have h := (if_neg c2).symm.trans h
              by_cases c3 : ((xs (Int32.toNatClampNeg x3)) &&& (63 : Int32)) = (3 : Int32)
              · have h := (if_pos c3).symm.trans h
                refine wa_tabI fx 299 (3 : Int) dL_law_33 (by rw [c3] <;> rfl) (by decide) (by decide) (by rfl) (by decide) ?_
                refine wa_aload_n fx 1 dL_law_299 rfl ?_
                refine wa_aload_n fx 0 dL_law_300 rfl ?_
                refine wa_iload_n fx 3 dL_law_301 rfl ?_
                refine wa_iconst fx (1 : Int32) dL_law_302 (by decide) ?_
                refine wa_iadd fx dL_law_303 ?_
                refine wa_sld fx hX hbl hbA dL_law_304 h (fun h => ?_)
                refine wa_aload_n fx 0 dL_law_305 rfl ?_
                refine wa_iload_n fx 3 dL_law_306 rfl ?_
                refine wa_iconst fx (2 : Int32) dL_law_307 (by decide) ?_
                refine wa_iadd fx dL_law_308 ?_
                refine wa_sld fx hX hbl hbA dL_law_309 h (fun h => ?_)
                refine wa_V (b := ad 0) (rmc := rmh 3) (As := [.int (xs (Int32.toNatClampNeg (x3 + (1 : Int32)))), .int (xs (Int32.toNatClampNeg (x3 + (2 : Int32))))]) (st := []) (wc := (wc_ws g ad w4.1)) (wr := (mo_ws g bd w4.2)) (wcz := fun z20 => wc_ws g ad z20.2) (w2 := fun z20 => lw_ws g ad bd (z20.2, w4.2)) (o := fun z20 => some (.int z20.1)) (s2 := fun z20 => [.int z20.1]) (ci := 3) (q0 := 0) fx mm_X3_of q_7_19 dL_law_310 h (fun _ hz => c_X3_of hz) rfl rfl ⟨rfl, rfl, Nat.le_of_ble_eq_true rfl, Nat.le_of_ble_eq_true rfl⟩ ⟨Nat.le_of_ble_eq_true rfl, Nat.le_of_ble_eq_true rfl⟩ rfl List.perm_append_comm (fun _ => List.perm_append_comm) rfl (Nat.le_of_ble_eq_true rfl) (fun _ => rfl) (fun z20 h => ?_)
                refine nm_w (lw_ws g ad bd) h (fun w21 h => ?_)
                refine wa_aload_n fx 2 dL_law_313 rfl ?_
                refine wa_aload_n fx 0 dL_law_314 rfl ?_
                refine wa_iload_n fx 3 dL_law_315 rfl ?_
                refine wa_iconst fx (1 : Int32) dL_law_316 (by decide) ?_
                refine wa_iadd fx dL_law_317 ?_
                refine wa_sld fx hX hbl hbA dL_law_318 h (fun h => ?_)
                refine wa_aload_n fx 0 dL_law_319 rfl ?_
                refine wa_iload_n fx 3 dL_law_320 rfl ?_
                refine wa_iconst fx (2 : Int32) dL_law_321 (by decide) ?_
                refine wa_iadd fx dL_law_322 ?_
                refine wa_sld fx hX hbl hbA dL_law_323 h (fun h => ?_)
                refine wa_V (b := bd 0) (rmc := rmh 4) (As := [.int (xs (Int32.toNatClampNeg (x3 + (1 : Int32)))), .int (xs (Int32.toNatClampNeg (x3 + (2 : Int32))))]) (st := [.int z20.1]) (wc := (mo_ws g bd w21.2)) (wr := (wc_ws g ad w21.1)) (wcz := fun z22 => mo_ws g bd z22.2) (w2 := fun z22 => lw_ws g ad bd (w21.1, z22.2)) (o := fun z22 => some (.int z22.1)) (s2 := fun z22 => [.int z22.1, .int z20.1]) (ci := 4) (q0 := 0) fx mm_X4_of q_8_13 dL_law_324 h (fun _ hz => c_X4_of hz) rfl rfl ⟨rfl, rfl, Nat.le_of_ble_eq_true rfl, Nat.le_of_ble_eq_true rfl⟩ ⟨Nat.le_of_ble_eq_true rfl, Nat.le_of_ble_eq_true rfl⟩ rfl (List.Perm.refl _) (fun _ => (List.Perm.refl _)) rfl (Nat.le_of_ble_eq_true rfl) (fun _ => rfl) (fun z22 h => ?_)
                refine nm_w (lw_ws g ad bd) h (fun w23 h => ?_)
                refine wa_icmp_eq fx 1345 dL_law_327 (by decide) h (fun h => ?_) (fun h => ?_)
                · refine wa_sub [0, 1, 2, 3] rfl ?_
                  exact B1345 (f_L_law_l18 L xs n) ih x3 w23 h
                · refine wa_iconst fx (0 : Int32) dL_law_330 (by decide) ?_
                  exact absurd h (by decide)
              · have h := (if_neg c3).symm.trans h
                by_cases c4 : ((xs (Int32.toNatClampNeg x3)) &&& (63 : Int32)) = (4 : Int32)
                · have h := (if_pos c4).symm.trans h
                  refine wa_tabI fx 332 (4 : Int) dL_law_33 (by rw [c4] <;> rfl) (by decide) (by decide) (by rfl) (by decide) ?_
                  refine wa_aload_n fx 1 dL_law_332 rfl ?_
                  refine wa_aload_n fx 0 dL_law_333 rfl ?_
                  refine wa_iload_n fx 3 dL_law_334 rfl ?_
                  refine wa_iconst fx (1 : Int32) dL_law_335 (by decide) ?_
                  refine wa_iadd fx dL_law_336 ?_
                  refine wa_sld fx hX hbl hbA dL_law_337 h (fun h => ?_)
                  refine wa_aload_n fx 0 dL_law_338 rfl ?_
                  refine wa_iload_n fx 3 dL_law_339 rfl ?_
                  refine wa_iconst fx (2 : Int32) dL_law_340 (by decide) ?_
                  refine wa_iadd fx dL_law_341 ?_
                  refine wa_sld fx hX hbl hbA dL_law_342 h (fun h => ?_)
                  refine wa_aload_n fx 0 dL_law_343 rfl ?_
                  refine wa_iload_n fx 3 dL_law_344 rfl ?_
                  refine wa_iconst fx (3 : Int32) dL_law_345 (by decide) ?_
                  refine wa_iadd fx dL_law_346 ?_
                  refine wa_sld fx hX hbl hbA dL_law_347 h (fun h => ?_)
                  refine wa_V (b := ad 0) (rmc := rmh 3) (As := [.int (xs (Int32.toNatClampNeg (x3 + (1 : Int32)))), .int (xs (Int32.toNatClampNeg (x3 + (2 : Int32)))), .int (xs (Int32.toNatClampNeg (x3 + (3 : Int32))))]) (st := []) (wc := (wc_ws g ad w4.1)) (wr := (mo_ws g bd w4.2)) (wcz := fun z24 => wc_ws g ad z24.2) (w2 := fun z24 => lw_ws g ad bd (z24.2, w4.2)) (o := fun z24 => some (.int z24.1)) (s2 := fun z24 => [.int z24.1]) (ci := 3) (q0 := 0) fx mm_X3_set q_9_2 dL_law_348 h (fun _ hz => c_X3_set hz) rfl rfl ⟨rfl, rfl, Nat.le_of_ble_eq_true rfl, Nat.le_of_ble_eq_true rfl⟩ ⟨Nat.le_of_ble_eq_true rfl, Nat.le_of_ble_eq_true rfl⟩ rfl List.perm_append_comm (fun _ => List.perm_append_comm) rfl (Nat.le_of_ble_eq_true rfl) (fun _ => rfl) (fun z24 h => ?_)
                  refine nm_w (lw_ws g ad bd) h (fun w25 h => ?_)
                  refine wa_aload_n fx 2 dL_law_351 rfl ?_
                  refine wa_aload_n fx 0 dL_law_352 rfl ?_
                  refine wa_iload_n fx 3 dL_law_353 rfl ?_
                  refine wa_iconst fx (1 : Int32) dL_law_354 (by decide) ?_
                  refine wa_iadd fx dL_law_355 ?_
                  refine wa_sld fx hX hbl hbA dL_law_356 h (fun h => ?_)
                  refine wa_aload_n fx 0 dL_law_357 rfl ?_
                  refine wa_iload_n fx 3 dL_law_358 rfl ?_
                  refine wa_iconst fx (2 : Int32) dL_law_359 (by decide) ?_
                  refine wa_iadd fx dL_law_360 ?_
                  refine wa_sld fx hX hbl hbA dL_law_361 h (fun h => ?_)
                  refine wa_aload_n fx 0 dL_law_362 rfl ?_
                  refine wa_iload_n fx 3 dL_law_363 rfl ?_
                  refine wa_iconst fx (3 : Int32) dL_law_364 (by decide) ?_
                  refine wa_iadd fx dL_law_365 ?_
                  refine wa_sld fx hX hbl hbA dL_law_366 h (fun h => ?_)
                  refine wa_V (b := bd 0) (rmc := rmh 3) (As := [.int (xs (Int32.toNatClampNeg (x3 + (1 : Int32)))), .int (xs (Int32.toNatClampNeg (x3 + (2 : Int32)))), .int (xs (Int32.toNatClampNeg (x3 + (3 : Int32))))]) (st := [.int z24.1]) (wc := (mo_ws g bd w25.2)) (wr := (wc_ws g ad w25.1)) (wcz := fun z26 => mo_ws g bd z26.2) (w2 := fun z26 => lw_ws g ad bd (w25.1, z26.2)) (o := fun z26 => some (.int z26.1)) (s2 := fun z26 => [.int z26.1, .int z24.1]) (ci := 4) (q0 := 0) fx mm_X4_set q_9_10 dL_law_367 h (fun _ hz => c_X4_set hz) rfl rfl ⟨rfl, rfl, Nat.le_of_ble_eq_true rfl, Nat.le_of_ble_eq_true rfl⟩ ⟨Nat.le_of_ble_eq_true rfl, Nat.le_of_ble_eq_true rfl⟩ rfl (List.Perm.refl _) (fun _ => (List.Perm.refl _)) rfl (Nat.le_of_ble_eq_true rfl) (fun _ => rfl) (fun z26 h => ?_)
                  refine nm_w (lw_ws g ad bd) h (fun w27 h => ?_)
                  refine wa_icmp_eq fx 1345 dL_law_370 (by decide) h (fun h => ?_) (fun h => ?_)
                  · refine wa_sub [0, 1, 2, 3] rfl ?_
                    exact B1345 (f_L_law_l18 L xs n) ih x3 w27 h
                  · refine wa_iconst fx (0 : Int32) dL_law_373 (by decide) ?_
                    exact absurd h (by decide)
                · have h := (if_neg c4).symm.trans h
                  by_cases c5 : ((xs (Int32.toNatClampNeg x3)) &&& (63 : Int32)) = (5 : Int32)
                  · have h := (if_pos c5).symm.trans h
                    refine wa_tabI fx 375 (5 : Int) dL_law_33 (by rw [c5] <;> rfl) (by decide) (by decide) (by rfl) (by decide) ?_
                    refine wa_aload_n fx 1 dL_law_375 rfl ?_
                    refine wa_aload_n fx 0 dL_law_376 rfl ?_
                    refine wa_iload_n fx 3 dL_law_377 rfl ?_
                    refine wa_iconst fx (1 : Int32) dL_law_378 (by decide) ?_
                    refine wa_iadd fx dL_law_379 ?_
                    refine wa_sld fx hX hbl hbA dL_law_380 h (fun h => ?_)
                    refine wa_aload_n fx 0 dL_law_381 rfl ?_
                    refine wa_iload_n fx 3 dL_law_382 rfl ?_
                    refine wa_iconst fx (2 : Int32) dL_law_383 (by decide) ?_
                    refine wa_iadd fx dL_law_384 ?_
                    refine wa_sld fx hX hbl hbA dL_law_385 h (fun h => ?_)
                    refine wa_V (b := ad 0) (rmc := rmh 3) (As := [.int (xs (Int32.toNatClampNeg (x3 + (1 : Int32)))), .int (xs (Int32.toNatClampNeg (x3 + (2 : Int32))))]) (st := []) (wc := (wc_ws g ad w4.1)) (wr := (mo_ws g bd w4.2)) (wcz := fun z28 => wc_ws g ad z28.2) (w2 := fun z28 => lw_ws g ad bd (z28.2, w4.2)) (o := fun z28 => some (.int z28.1)) (s2 := fun z28 => [.int z28.1]) (ci := 3) (q0 := 0) fx mm_X3_turn q_9_20 dL_law_386 h (fun _ hz => c_X3_turn hz) rfl rfl ⟨rfl, rfl, Nat.le_of_ble_eq_true rfl, Nat.le_of_ble_eq_true rfl⟩ ⟨Nat.le_of_ble_eq_true rfl, Nat.le_of_ble_eq_true rfl⟩ rfl List.perm_append_comm (fun _ => List.perm_append_comm) rfl (Nat.le_of_ble_eq_true rfl) (fun _ => rfl) (fun z28 h => ?_)
                    refine nm_w (lw_ws g ad bd) h (fun w29 h => ?_)
                    refine wa_aload_n fx 2 dL_law_389 rfl ?_
                    refine wa_aload_n fx 0 dL_law_390 rfl ?_
                    refine wa_iload_n fx 3 dL_law_391 rfl ?_
                    refine wa_iconst fx (1 : Int32) dL_law_392 (by decide) ?_
                    refine wa_iadd fx dL_law_393 ?_
                    refine wa_sld fx hX hbl hbA dL_law_394 h (fun h => ?_)
                    refine wa_aload_n fx 0 dL_law_395 rfl ?_
                    refine wa_iload_n fx 3 dL_law_396 rfl ?_
                    refine wa_iconst fx (2 : Int32) dL_law_397 (by decide) ?_
                    refine wa_iadd fx dL_law_398 ?_
                    refine wa_sld fx hX hbl hbA dL_law_399 h (fun h => ?_)
                    refine wa_V (b := bd 0) (rmc := rmh 3) (As := [.int (xs (Int32.toNatClampNeg (x3 + (1 : Int32)))), .int (xs (Int32.toNatClampNeg (x3 + (2 : Int32))))]) (st := [.int z28.1]) (wc := (mo_ws g bd w29.2)) (wr := (wc_ws g ad w29.1)) (wcz := fun z30 => mo_ws g bd z30.2) (w2 := fun z30 => lw_ws g ad bd (w29.1, z30.2)) (o := fun z30 => some (.int z30.1)) (s2 := fun z30 => [.int z30.1, .int z28.1]) (ci := 4) (q0 := 0) fx mm_X4_turn q_10_0 dL_law_400 h (fun _ hz => c_X4_turn hz) rfl rfl ⟨rfl, rfl, Nat.le_of_ble_eq_true rfl, Nat.le_of_ble_eq_true rfl⟩ ⟨Nat.le_of_ble_eq_true rfl, Nat.le_of_ble_eq_true rfl⟩ rfl (List.Perm.refl _) (fun _ => (List.Perm.refl _)) rfl (Nat.le_of_ble_eq_true rfl) (fun _ => rfl) (fun z30 h => ?_)
                    refine nm_w (lw_ws g ad bd) h (fun w31 h => ?_)
                    refine wa_icmp_eq fx 1345 dL_law_403 (by decide) h (fun h => ?_) (fun h => ?_)
                    · refine wa_sub [0, 1, 2, 3] rfl ?_
                      exact B1345 (f_L_law_l18 L xs n) ih x3 w31 h
                    · refine wa_iconst fx (0 : Int32) dL_law_406 (by decide) ?_
                      exact absurd h (by decide)
                  · have h := (if_neg c5).symm.trans h
                    by_cases c6 : ((xs (Int32.toNatClampNeg x3)) &&& (63 : Int32)) = (6 : Int32)
                    · have h := (if_pos c6).symm.trans h
                      refine wa_tabI fx 408 (6 : Int) dL_law_33 (by rw [c6] <;> rfl) (by decide) (by decide) (by rfl) (by decide) ?_
                      refine wa_aload_n fx 1 dL_law_408 rfl ?_
                      refine wa_aload_n fx 0 dL_law_409 rfl ?_
                      refine wa_iload_n fx 3 dL_law_410 rfl ?_
                      refine wa_iconst fx (1 : Int32) dL_law_411 (by decide) ?_
                      refine wa_iadd fx dL_law_412 ?_
                      refine wa_sld fx hX hbl hbA dL_law_413 h (fun h => ?_)
                      refine wa_aload_n fx 0 dL_law_414 rfl ?_
                      refine wa_iload_n fx 3 dL_law_415 rfl ?_
                      refine wa_iconst fx (2 : Int32) dL_law_416 (by decide) ?_
                      refine wa_iadd fx dL_law_417 ?_
                      refine wa_sld fx hX hbl hbA dL_law_418 h (fun h => ?_)
                      refine wa_V (b := ad 0) (rmc := rmh 3) (As := [.int (xs (Int32.toNatClampNeg (x3 + (1 : Int32)))), .int (xs (Int32.toNatClampNeg (x3 + (2 : Int32))))]) (st := []) (wc := (wc_ws g ad w4.1)) (wr := (mo_ws g bd w4.2)) (wcz := fun z32 => wc_ws g ad z32.2) (w2 := fun z32 => lw_ws g ad bd (z32.2, w4.2)) (o := fun z32 => some (.int z32.1)) (s2 := fun z32 => [.int z32.1]) (ci := 3) (q0 := 0) fx mm_X3_as q_10_4 dL_law_419 h (fun _ hz => c_X3_as hz) rfl rfl ⟨rfl, rfl, Nat.le_of_ble_eq_true rfl, Nat.le_of_ble_eq_true rfl⟩ ⟨Nat.le_of_ble_eq_true rfl, Nat.le_of_ble_eq_true rfl⟩ rfl List.perm_append_comm (fun _ => List.perm_append_comm) rfl (Nat.le_of_ble_eq_true rfl) (fun _ => rfl) (fun z32 h => ?_)
                      refine nm_w (lw_ws g ad bd) h (fun w33 h => ?_)
                      refine wa_aload_n fx 2 dL_law_422 rfl ?_
                      refine wa_aload_n fx 0 dL_law_423 rfl ?_
                      refine wa_iload_n fx 3 dL_law_424 rfl ?_
                      refine wa_iconst fx (1 : Int32) dL_law_425 (by decide) ?_
                      refine wa_iadd fx dL_law_426 ?_
                      refine wa_sld fx hX hbl hbA dL_law_427 h (fun h => ?_)
                      refine wa_aload_n fx 0 dL_law_428 rfl ?_
                      refine wa_iload_n fx 3 dL_law_429 rfl ?_
                      refine wa_iconst fx (2 : Int32) dL_law_430 (by decide) ?_
                      refine wa_iadd fx dL_law_431 ?_
                      refine wa_sld fx hX hbl hbA dL_law_432 h (fun h => ?_)
                      refine wa_V (b := bd 0) (rmc := rmh 3) (As := [.int (xs (Int32.toNatClampNeg (x3 + (1 : Int32)))), .int (xs (Int32.toNatClampNeg (x3 + (2 : Int32))))]) (st := [.int z32.1]) (wc := (mo_ws g bd w33.2)) (wr := (wc_ws g ad w33.1)) (wcz := fun z34 => mo_ws g bd z34.2) (w2 := fun z34 => lw_ws g ad bd (w33.1, z34.2)) (o := fun z34 => some (.int z34.1)) (s2 := fun z34 => [.int z34.1, .int z32.1]) (ci := 4) (q0 := 0) fx mm_X4_as q_10_12 dL_law_433 h (fun _ hz => c_X4_as hz) rfl rfl ⟨rfl, rfl, Nat.le_of_ble_eq_true rfl, Nat.le_of_ble_eq_true rfl⟩ ⟨Nat.le_of_ble_eq_true rfl, Nat.le_of_ble_eq_true rfl⟩ rfl (List.Perm.refl _) (fun _ => (List.Perm.refl _)) rfl (Nat.le_of_ble_eq_true rfl) (fun _ => rfl) (fun z34 h => ?_)
                      refine nm_w (lw_ws g ad bd) h (fun w35 h => ?_)
                      refine wa_icmp_eq fx 1345 dL_law_436 (by decide) h (fun h => ?_) (fun h => ?_)
                      · refine wa_sub [0, 1, 2, 3] rfl ?_
                        exact B1345 (f_L_law_l18 L xs n) ih x3 w35 h
                      · refine wa_iconst fx (0 : Int32) dL_law_439 (by decide) ?_
                        exact absurd h (by decide)
                    · have h := (if_neg c6).symm.trans h
                      by_cases c7 : ((xs (Int32.toNatClampNeg x3)) &&& (63 : Int32)) = (7 : Int32)
                      · have h := (if_pos c7).symm.trans h
                        refine wa_tabI fx 441 (7 : Int) dL_law_33 (by rw [c7] <;> rfl) (by decide) (by decide) (by rfl) (by decide) ?_
                        refine wa_aload_n fx 1 dL_law_441 rfl ?_
                        refine wa_aload_n fx 0 dL_law_442 rfl ?_
                        refine wa_iload_n fx 3 dL_law_443 rfl ?_
                        refine wa_iconst fx (1 : Int32) dL_law_444 (by decide) ?_
                        refine wa_iadd fx dL_law_445 ?_
                        refine wa_sld fx hX hbl hbA dL_law_446 h (fun h => ?_)
                        refine wa_aload_n fx 0 dL_law_447 rfl ?_
                        refine wa_iload_n fx 3 dL_law_448 rfl ?_
                        refine wa_iconst fx (2 : Int32) dL_law_449 (by decide) ?_
                        refine wa_iadd fx dL_law_450 ?_
                        refine wa_sld fx hX hbl hbA dL_law_451 h (fun h => ?_)
                        refine wa_aload_n fx 0 dL_law_452 rfl ?_
                        refine wa_iload_n fx 3 dL_law_453 rfl ?_
                        refine wa_iconst fx (3 : Int32) dL_law_454 (by decide) ?_
                        refine wa_iadd fx dL_law_455 ?_
                        refine wa_sld fx hX hbl hbA dL_law_456 h (fun h => ?_)
                        refine wa_V (b := ad 0) (rmc := rmh 4) (As := [.int (xs (Int32.toNatClampNeg (x3 + (1 : Int32)))), .int (xs (Int32.toNatClampNeg (x3 + (2 : Int32)))), .int (xs (Int32.toNatClampNeg (x3 + (3 : Int32))))]) (st := []) (wc := (wc_ws g ad w4.1)) (wr := (mo_ws g bd w4.2)) (wcz := fun z36 => wc_ws g ad z36.2) (w2 := fun z36 => lw_ws g ad bd (z36.2, w4.2)) (o := fun z36 => some (.int z36.1)) (s2 := fun z36 => [.int z36.1]) (ci := 3) (q0 := 0) fx mm_X3_quarrel q_10_20 dL_law_457 h (fun _ hz => c_X3_quarrel hz) rfl rfl ⟨rfl, rfl, Nat.le_of_ble_eq_true rfl, Nat.le_of_ble_eq_true rfl⟩ ⟨Nat.le_of_ble_eq_true rfl, Nat.le_of_ble_eq_true rfl⟩ rfl List.perm_append_comm (fun _ => List.perm_append_comm) rfl (Nat.le_of_ble_eq_true rfl) (fun _ => rfl) (fun z36 h => ?_)
                        refine nm_w (lw_ws g ad bd) h (fun w37 h => ?_)
                        refine wa_aload_n fx 2 dL_law_460 rfl ?_
                        refine wa_aload_n fx 0 dL_law_461 rfl ?_
                        refine wa_iload_n fx 3 dL_law_462 rfl ?_
                        refine wa_iconst fx (1 : Int32) dL_law_463 (by decide) ?_
                        refine wa_iadd fx dL_law_464 ?_
                        refine wa_sld fx hX hbl hbA dL_law_465 h (fun h => ?_)
                        refine wa_aload_n fx 0 dL_law_466 rfl ?_
                        refine wa_iload_n fx 3 dL_law_467 rfl ?_
                        refine wa_iconst fx (2 : Int32) dL_law_468 (by decide) ?_
                        refine wa_iadd fx dL_law_469 ?_
                        refine wa_sld fx hX hbl hbA dL_law_470 h (fun h => ?_)
                        refine wa_aload_n fx 0 dL_law_471 rfl ?_
                        refine wa_iload_n fx 3 dL_law_472 rfl ?_
                        refine wa_iconst fx (3 : Int32) dL_law_473 (by decide) ?_
                        refine wa_iadd fx dL_law_474 ?_
                        refine wa_sld fx hX hbl hbA dL_law_475 h (fun h => ?_)
                        refine wa_V (b := bd 0) (rmc := rmh 4) (As := [.int (xs (Int32.toNatClampNeg (x3 + (1 : Int32)))), .int (xs (Int32.toNatClampNeg (x3 + (2 : Int32)))), .int (xs (Int32.toNatClampNeg (x3 + (3 : Int32))))]) (st := [.int z36.1]) (wc := (mo_ws g bd w37.2)) (wr := (wc_ws g ad w37.1)) (wcz := fun z38 => mo_ws g bd z38.2) (w2 := fun z38 => lw_ws g ad bd (w37.1, z38.2)) (o := fun z38 => some (.int z38.1)) (s2 := fun z38 => [.int z38.1, .int z36.1]) (ci := 4) (q0 := 0) fx mm_X4_quarrel q_11_12 dL_law_476 h (fun _ hz => c_X4_quarrel hz) rfl rfl ⟨rfl, rfl, Nat.le_of_ble_eq_true rfl, Nat.le_of_ble_eq_true rfl⟩ ⟨Nat.le_of_ble_eq_true rfl, Nat.le_of_ble_eq_true rfl⟩ rfl (List.Perm.refl _) (fun _ => (List.Perm.refl _)) rfl (Nat.le_of_ble_eq_true rfl) (fun _ => rfl) (fun z38 h => ?_)
                        refine nm_w (lw_ws g ad bd) h (fun w39 h => ?_)
                        refine wa_icmp_eq fx 1345 dL_law_479 (by decide) h (fun h => ?_) (fun h => ?_)
                        · refine wa_sub [0, 1, 2, 3] rfl ?_
                          exact B1345 (f_L_law_l18 L xs n) ih x3 w39 h
                        · refine wa_iconst fx (0 : Int32) dL_law_482 (by decide) ?_
                          exact absurd h (by decide)
                      · have h := (if_neg c7).symm.trans h
                        by_cases c8 : ((xs (Int32.toNatClampNeg x3)) &&& (63 : Int32)) = (8 : Int32)
                        · have h := (if_pos c8).symm.trans h
                          refine wa_tabI fx 484 (8 : Int) dL_law_33 (by rw [c8] <;> rfl) (by decide) (by decide) (by rfl) (by decide) ?_
                          refine wa_aload_n fx 1 dL_law_484 rfl ?_
                          refine wa_aload_n fx 0 dL_law_485 rfl ?_
                          refine wa_iload_n fx 3 dL_law_486 rfl ?_
                          refine wa_iconst fx (1 : Int32) dL_law_487 (by decide) ?_
                          refine wa_iadd fx dL_law_488 ?_
                          refine wa_sld fx hX hbl hbA dL_law_489 h (fun h => ?_)
                          refine wa_aload_n fx 0 dL_law_490 rfl ?_
                          refine wa_iload_n fx 3 dL_law_491 rfl ?_
                          refine wa_iconst fx (2 : Int32) dL_law_492 (by decide) ?_
                          refine wa_iadd fx dL_law_493 ?_
                          refine wa_sld fx hX hbl hbA dL_law_494 h (fun h => ?_)
                          refine wa_V (b := ad 0) (rmc := rmh 3) (As := [.int (xs (Int32.toNatClampNeg (x3 + (1 : Int32)))), .int (xs (Int32.toNatClampNeg (x3 + (2 : Int32))))]) (st := []) (wc := (wc_ws g ad w4.1)) (wr := (mo_ws g bd w4.2)) (wcz := fun z40 => wc_ws g ad z40.2) (w2 := fun z40 => lw_ws g ad bd (z40.2, w4.2)) (o := fun z40 => some (.int z40.1)) (s2 := fun z40 => [.int z40.1]) (ci := 3) (q0 := 0) fx mm_X3_sit q_12_4 dL_law_495 h (fun _ hz => c_X3_sit hz) rfl rfl ⟨rfl, rfl, Nat.le_of_ble_eq_true rfl, Nat.le_of_ble_eq_true rfl⟩ ⟨Nat.le_of_ble_eq_true rfl, Nat.le_of_ble_eq_true rfl⟩ rfl List.perm_append_comm (fun _ => List.perm_append_comm) rfl (Nat.le_of_ble_eq_true rfl) (fun _ => rfl) (fun z40 h => ?_)
                          refine nm_w (lw_ws g ad bd) h (fun w41 h => ?_)
                          refine wa_aload_n fx 2 dL_law_498 rfl ?_
                          refine wa_aload_n fx 0 dL_law_499 rfl ?_
                          refine wa_iload_n fx 3 dL_law_500 rfl ?_
                          refine wa_iconst fx (1 : Int32) dL_law_501 (by decide) ?_
                          refine wa_iadd fx dL_law_502 ?_
                          refine wa_sld fx hX hbl hbA dL_law_503 h (fun h => ?_)
                          refine wa_aload_n fx 0 dL_law_504 rfl ?_
                          refine wa_iload_n fx 3 dL_law_505 rfl ?_
                          refine wa_iconst fx (2 : Int32) dL_law_506 (by decide) ?_
                          refine wa_iadd fx dL_law_507 ?_
                          refine wa_sld fx hX hbl hbA dL_law_508 h (fun h => ?_)
                          refine wa_V (b := bd 0) (rmc := rmh 4) (As := [.int (xs (Int32.toNatClampNeg (x3 + (1 : Int32)))), .int (xs (Int32.toNatClampNeg (x3 + (2 : Int32))))]) (st := [.int z40.1]) (wc := (mo_ws g bd w41.2)) (wr := (wc_ws g ad w41.1)) (wcz := fun z42 => mo_ws g bd z42.2) (w2 := fun z42 => lw_ws g ad bd (w41.1, z42.2)) (o := fun z42 => some (.int z42.1)) (s2 := fun z42 => [.int z42.1, .int z40.1]) (ci := 4) (q0 := 0) fx mm_X4_sit q_12_12 dL_law_509 h (fun _ hz => c_X4_sit hz) rfl rfl ⟨rfl, rfl, Nat.le_of_ble_eq_true rfl, Nat.le_of_ble_eq_true rfl⟩ ⟨Nat.le_of_ble_eq_true rfl, Nat.le_of_ble_eq_true rfl⟩ rfl (List.Perm.refl _) (fun _ => (List.Perm.refl _)) rfl (Nat.le_of_ble_eq_true rfl) (fun _ => rfl) (fun z42 h => ?_)
                          refine nm_w (lw_ws g ad bd) h (fun w43 h => ?_)
                          refine wa_icmp_eq fx 1345 dL_law_512 (by decide) h (fun h => ?_) (fun h => ?_)
                          · refine wa_sub [0, 1, 2, 3] rfl ?_
                            exact B1345 (f_L_law_l18 L xs n) ih x3 w43 h
                          · refine wa_iconst fx (0 : Int32) dL_law_515 (by decide) ?_
                            exact absurd h (by decide)
                        · have h := (if_neg c8).symm.trans h
                          by_cases c9 : ((xs (Int32.toNatClampNeg x3)) &&& (63 : Int32)) = (9 : Int32)
                          · have h := (if_pos c9).symm.trans h
                            refine wa_tabI fx 517 (9 : Int) dL_law_33 (by rw [c9] <;> rfl) (by decide) (by decide) (by rfl) (by decide) ?_
                            refine wa_aload_n fx 1 dL_law_517 rfl ?_
                            refine wa_aload_n fx 0 dL_law_518 rfl ?_
                            refine wa_iload_n fx 3 dL_law_519 rfl ?_
                            refine wa_iconst fx (1 : Int32) dL_law_520 (by decide) ?_
                            refine wa_iadd fx dL_law_521 ?_
                            refine wa_sld fx hX hbl hbA dL_law_522 h (fun h => ?_)
                            refine wa_aload_n fx 0 dL_law_523 rfl ?_
                            refine wa_iload_n fx 3 dL_law_524 rfl ?_
                            refine wa_iconst fx (2 : Int32) dL_law_525 (by decide) ?_
                            refine wa_iadd fx dL_law_526 ?_
                            refine wa_sld fx hX hbl hbA dL_law_527 h (fun h => ?_)
                            refine wa_V (b := ad 0) (rmc := rmh 4) (As := [.int (xs (Int32.toNatClampNeg (x3 + (1 : Int32)))), .int (xs (Int32.toNatClampNeg (x3 + (2 : Int32))))]) (st := []) (wc := (wc_ws g ad w4.1)) (wr := (mo_ws g bd w4.2)) (wcz := fun z44 => wc_ws g ad z44.2) (w2 := fun z44 => lw_ws g ad bd (z44.2, w4.2)) (o := fun z44 => some (.int z44.1)) (s2 := fun z44 => [.int z44.1]) (ci := 3) (q0 := 0) fx mm_X3_change q_12_17 dL_law_528 h (fun _ hz => c_X3_change hz) rfl rfl ⟨rfl, rfl, Nat.le_of_ble_eq_true rfl, Nat.le_of_ble_eq_true rfl⟩ ⟨Nat.le_of_ble_eq_true rfl, Nat.le_of_ble_eq_true rfl⟩ rfl List.perm_append_comm (fun _ => List.perm_append_comm) rfl (Nat.le_of_ble_eq_true rfl) (fun _ => rfl) (fun z44 h => ?_)
                            refine nm_w (lw_ws g ad bd) h (fun w45 h => ?_)
                            refine wa_aload_n fx 2 dL_law_531 rfl ?_
                            refine wa_aload_n fx 0 dL_law_532 rfl ?_
                            refine wa_iload_n fx 3 dL_law_533 rfl ?_
                            refine wa_iconst fx (1 : Int32) dL_law_534 (by decide) ?_
                            refine wa_iadd fx dL_law_535 ?_
                            refine wa_sld fx hX hbl hbA dL_law_536 h (fun h => ?_)
                            refine wa_aload_n fx 0 dL_law_537 rfl ?_
                            refine wa_iload_n fx 3 dL_law_538 rfl ?_
                            refine wa_iconst fx (2 : Int32) dL_law_539 (by decide) ?_
                            refine wa_iadd fx dL_law_540 ?_
                            refine wa_sld fx hX hbl hbA dL_law_541 h (fun h => ?_)
                            refine wa_V (b := bd 0) (rmc := rmh 4) (As := [.int (xs (Int32.toNatClampNeg (x3 + (1 : Int32)))), .int (xs (Int32.toNatClampNeg (x3 + (2 : Int32))))]) (st := [.int z44.1]) (wc := (mo_ws g bd w45.2)) (wr := (wc_ws g ad w45.1)) (wcz := fun z46 => mo_ws g bd z46.2) (w2 := fun z46 => lw_ws g ad bd (w45.1, z46.2)) (o := fun z46 => some (.int z46.1)) (s2 := fun z46 => [.int z46.1, .int z44.1]) (ci := 4) (q0 := 0) fx mm_X4_change q_13_1 dL_law_542 h (fun _ hz => c_X4_change hz) rfl rfl ⟨rfl, rfl, Nat.le_of_ble_eq_true rfl, Nat.le_of_ble_eq_true rfl⟩ ⟨Nat.le_of_ble_eq_true rfl, Nat.le_of_ble_eq_true rfl⟩ rfl (List.Perm.refl _) (fun _ => (List.Perm.refl _)) rfl (Nat.le_of_ble_eq_true rfl) (fun _ => rfl) (fun z46 h => ?_)
                            refine nm_w (lw_ws g ad bd) h (fun w47 h => ?_)
                            refine wa_icmp_eq fx 1345 dL_law_545 (by decide) h (fun h => ?_) (fun h => ?_)
                            · refine wa_sub [0, 1, 2, 3] rfl ?_
                              exact B1345 (f_L_law_l18 L xs n) ih x3 w47 h
                            · refine wa_iconst fx (0 : Int32) dL_law_548 (by decide) ?_
                              exact absurd h (by decide)
                          · have h := (if_neg c9).symm.trans h
                            by_cases c10 : ((xs (Int32.toNatClampNeg x3)) &&& (63 : Int32)) = (10 : Int32)
                            · have h := (if_pos c10).symm.trans h
                              refine wa_tabI fx 550 (10 : Int) dL_law_33 (by rw [c10] <;> rfl) (by decide) (by decide) (by rfl) (by decide) ?_
                              refine wa_aload_n fx 1 dL_law_550 rfl ?_
                              refine wa_aload_n fx 0 dL_law_551 rfl ?_
                              refine wa_iload_n fx 3 dL_law_552 rfl ?_
                              refine wa_iconst fx (1 : Int32) dL_law_553 (by decide) ?_
                              refine wa_iadd fx dL_law_554 ?_
                              refine wa_sld fx hX hbl hbA dL_law_555 h (fun h => ?_)
                              refine wa_aload_n fx 0 dL_law_556 rfl ?_
                              refine wa_iload_n fx 3 dL_law_557 rfl ?_
                              refine wa_iconst fx (2 : Int32) dL_law_558 (by decide) ?_
                              refine wa_iadd fx dL_law_559 ?_
                              refine wa_sld fx hX hbl hbA dL_law_560 h (fun h => ?_)
                              refine wa_V (b := ad 0) (rmc := rmh 4) (As := [.int (xs (Int32.toNatClampNeg (x3 + (1 : Int32)))), .int (xs (Int32.toNatClampNeg (x3 + (2 : Int32))))]) (st := []) (wc := (wc_ws g ad w4.1)) (wr := (mo_ws g bd w4.2)) (wcz := fun z48 => wc_ws g ad z48.2) (w2 := fun z48 => lw_ws g ad bd (z48.2, w4.2)) (o := fun z48 => some (.int z48.1)) (s2 := fun z48 => [.int z48.1]) (ci := 3) (q0 := 0) fx mm_X3_well q_13_9 dL_law_561 h (fun _ hz => c_X3_well hz) rfl rfl ⟨rfl, rfl, Nat.le_of_ble_eq_true rfl, Nat.le_of_ble_eq_true rfl⟩ ⟨Nat.le_of_ble_eq_true rfl, Nat.le_of_ble_eq_true rfl⟩ rfl List.perm_append_comm (fun _ => List.perm_append_comm) rfl (Nat.le_of_ble_eq_true rfl) (fun _ => rfl) (fun z48 h => ?_)
                              refine nm_w (lw_ws g ad bd) h (fun w49 h => ?_)
                              refine wa_aload_n fx 2 dL_law_564 rfl ?_
                              refine wa_aload_n fx 0 dL_law_565 rfl ?_
                              refine wa_iload_n fx 3 dL_law_566 rfl ?_
                              refine wa_iconst fx (1 : Int32) dL_law_567 (by decide) ?_
                              refine wa_iadd fx dL_law_568 ?_
                              refine wa_sld fx hX hbl hbA dL_law_569 h (fun h => ?_)
                              refine wa_aload_n fx 0 dL_law_570 rfl ?_
                              refine wa_iload_n fx 3 dL_law_571 rfl ?_
                              refine wa_iconst fx (2 : Int32) dL_law_572 (by decide) ?_
                              refine wa_iadd fx dL_law_573 ?_
                              refine wa_sld fx hX hbl hbA dL_law_574 h (fun h => ?_)
                              refine wa_V (b := bd 0) (rmc := rmh 6) (As := [.int (xs (Int32.toNatClampNeg (x3 + (1 : Int32)))), .int (xs (Int32.toNatClampNeg (x3 + (2 : Int32))))]) (st := [.int z48.1]) (wc := (mo_ws g bd w49.2)) (wr := (wc_ws g ad w49.1)) (wcz := fun z50 => mo_ws g bd z50.2) (w2 := fun z50 => lw_ws g ad bd (w49.1, z50.2)) (o := fun z50 => some (.int z50.1)) (s2 := fun z50 => [.int z50.1, .int z48.1]) (ci := 4) (q0 := 0) fx mm_X4_well q_14_7 dL_law_575 h (fun _ hz => c_X4_well hz) rfl rfl ⟨rfl, rfl, Nat.le_of_ble_eq_true rfl, Nat.le_of_ble_eq_true rfl⟩ ⟨Nat.le_of_ble_eq_true rfl, Nat.le_of_ble_eq_true rfl⟩ rfl (List.Perm.refl _) (fun _ => (List.Perm.refl _)) rfl (Nat.le_of_ble_eq_true rfl) (fun _ => rfl) (fun z50 h => ?_)
                              refine nm_w (lw_ws g ad bd) h (fun w51 h => ?_)
                              refine wa_icmp_eq fx 1345 dL_law_578 (by decide) h (fun h => ?_) (fun h => ?_)
                              · refine wa_sub [0, 1, 2, 3] rfl ?_
                                exact B1345 (f_L_law_l18 L xs n) ih x3 w51 h
                              · refine wa_iconst fx (0 : Int32) dL_law_581 (by decide) ?_
                                exact absurd h (by decide)
                            · have h := (if_neg c10).symm.trans h
                              by_cases c11 : ((xs (Int32.toNatClampNeg x3)) &&& (63 : Int32)) = (11 : Int32)
                              · have h := (if_pos c11).symm.trans h
                                refine wa_tabI fx 583 (11 : Int) dL_law_33 (by rw [c11] <;> rfl) (by decide) (by decide) (by rfl) (by decide) ?_
                                refine wa_aload_n fx 1 dL_law_583 rfl ?_
                                refine wa_aload_n fx 0 dL_law_584 rfl ?_
                                refine wa_iload_n fx 3 dL_law_585 rfl ?_
                                refine wa_iconst fx (1 : Int32) dL_law_586 (by decide) ?_
                                refine wa_iadd fx dL_law_587 ?_
                                refine wa_sld fx hX hbl hbA dL_law_588 h (fun h => ?_)
                                refine wa_V (b := ad 0) (rmc := rmh 7) (As := [.int (xs (Int32.toNatClampNeg (x3 + (1 : Int32))))]) (st := []) (wc := (wc_ws g ad w4.1)) (wr := (mo_ws g bd w4.2)) (wcz := fun z52 => wc_ws g ad z52.2) (w2 := fun z52 => lw_ws g ad bd (z52.2, w4.2)) (o := fun z52 => some (.int z52.1)) (s2 := fun z52 => [.int z52.1]) (ci := 3) (q0 := 0) fx mm_X3_hours q_15_7 dL_law_589 h (fun _ hz => c_X3_hours hz) rfl rfl ⟨rfl, rfl, Nat.le_of_ble_eq_true rfl, Nat.le_of_ble_eq_true rfl⟩ ⟨Nat.le_of_ble_eq_true rfl, Nat.le_of_ble_eq_true rfl⟩ rfl List.perm_append_comm (fun _ => List.perm_append_comm) rfl (Nat.le_of_ble_eq_true rfl) (fun _ => rfl) (fun z52 h => ?_)
                                refine nm_w (lw_ws g ad bd) h (fun w53 h => ?_)
                                refine wa_aload_n fx 2 dL_law_592 rfl ?_
                                refine wa_aload_n fx 0 dL_law_593 rfl ?_
                                refine wa_iload_n fx 3 dL_law_594 rfl ?_
                                refine wa_iconst fx (1 : Int32) dL_law_595 (by decide) ?_
                                refine wa_iadd fx dL_law_596 ?_
                                refine wa_sld fx hX hbl hbA dL_law_597 h (fun h => ?_)
                                refine wa_V (b := bd 0) (rmc := rmh 10) (As := [.int (xs (Int32.toNatClampNeg (x3 + (1 : Int32))))]) (st := [.int z52.1]) (wc := (mo_ws g bd w53.2)) (wr := (wc_ws g ad w53.1)) (wcz := fun z54 => mo_ws g bd z54.2) (w2 := fun z54 => lw_ws g ad bd (w53.1, z54.2)) (o := fun z54 => some (.int z54.1)) (s2 := fun z54 => [.int z54.1, .int z52.1]) (ci := 4) (q0 := 0) fx mm_X4_hours q_16_9 dL_law_598 h (fun _ hz => c_X4_hours hz) rfl rfl ⟨rfl, rfl, Nat.le_of_ble_eq_true rfl, Nat.le_of_ble_eq_true rfl⟩ ⟨Nat.le_of_ble_eq_true rfl, Nat.le_of_ble_eq_true rfl⟩ rfl (List.Perm.refl _) (fun _ => (List.Perm.refl _)) rfl (Nat.le_of_ble_eq_true rfl) (fun _ => rfl) (fun z54 h => ?_)
                                refine nm_w (lw_ws g ad bd) h (fun w55 h => ?_)
                                refine wa_icmp_eq fx 1345 dL_law_601 (by decide) h (fun h => ?_) (fun h => ?_)
                                · refine wa_sub [0, 1, 2, 3] rfl ?_
                                  exact B1345 (f_L_law_l18 L xs n) ih x3 w55 h
                                · refine wa_iconst fx (0 : Int32) dL_law_604 (by decide) ?_
                                  exact absurd h (by decide)
                              · have h := (if_neg c11).symm.trans h
                                by_cases c12 : ((xs (Int32.toNatClampNeg x3)) &&& (63 : Int32)) = (12 : Int32)
                                · have h := (if_pos c12).symm.trans h
                                  refine wa_tabI fx 606 (12 : Int) dL_law_33 (by rw [c12] <;> rfl) (by decide) (by decide) (by rfl) (by decide) ?_
                                  refine wa_aload_n fx 1 dL_law_606 rfl ?_
                                  refine wa_aload_n fx 0 dL_law_607 rfl ?_
                                  refine wa_iload_n fx 3 dL_law_608 rfl ?_
                                  refine wa_iconst fx (1 : Int32) dL_law_609 (by decide) ?_
                                  refine wa_iadd fx dL_law_610 ?_
                                  refine wa_sld fx hX hbl hbA dL_law_611 h (fun h => ?_)
                                  refine wa_V (b := ad 0) (rmc := rmh 5) (As := [.int (xs (Int32.toNatClampNeg (x3 + (1 : Int32))))]) (st := []) (wc := (wc_ws g ad w4.1)) (wr := (mo_ws g bd w4.2)) (wcz := fun z56 => wc_ws g ad z56.2) (w2 := fun z56 => lw_ws g ad bd (z56.2, w4.2)) (o := fun z56 => some (.int z56.1)) (s2 := fun z56 => [.int z56.1]) (ci := 3) (q0 := 0) fx mm_X3_now q_17_7 dL_law_612 h (fun _ hz => c_X3_now hz) rfl rfl ⟨rfl, rfl, Nat.le_of_ble_eq_true rfl, Nat.le_of_ble_eq_true rfl⟩ ⟨Nat.le_of_ble_eq_true rfl, Nat.le_of_ble_eq_true rfl⟩ rfl List.perm_append_comm (fun _ => List.perm_append_comm) rfl (Nat.le_of_ble_eq_true rfl) (fun _ => rfl) (fun z56 h => ?_)
                                  refine nm_w (lw_ws g ad bd) h (fun w57 h => ?_)
                                  refine wa_aload_n fx 2 dL_law_615 rfl ?_
                                  refine wa_aload_n fx 0 dL_law_616 rfl ?_
                                  refine wa_iload_n fx 3 dL_law_617 rfl ?_
                                  refine wa_iconst fx (1 : Int32) dL_law_618 (by decide) ?_
                                  refine wa_iadd fx dL_law_619 ?_
                                  refine wa_sld fx hX hbl hbA dL_law_620 h (fun h => ?_)
                                  refine wa_V (b := bd 0) (rmc := rmh 7) (As := [.int (xs (Int32.toNatClampNeg (x3 + (1 : Int32))))]) (st := [.int z56.1]) (wc := (mo_ws g bd w57.2)) (wr := (wc_ws g ad w57.1)) (wcz := fun z58 => mo_ws g bd z58.2) (w2 := fun z58 => lw_ws g ad bd (w57.1, z58.2)) (o := fun z58 => some (.int z58.1)) (s2 := fun z58 => [.int z58.1, .int z56.1]) (ci := 4) (q0 := 0) fx mm_X4_now q_18_0 dL_law_621 h (fun _ hz => c_X4_now hz) rfl rfl ⟨rfl, rfl, Nat.le_of_ble_eq_true rfl, Nat.le_of_ble_eq_true rfl⟩ ⟨Nat.le_of_ble_eq_true rfl, Nat.le_of_ble_eq_true rfl⟩ rfl (List.Perm.refl _) (fun _ => (List.Perm.refl _)) rfl (Nat.le_of_ble_eq_true rfl) (fun _ => rfl) (fun z58 h => ?_)
                                  refine nm_w (lw_ws g ad bd) h (fun w59 h => ?_)
                                  refine wa_icmp_eq fx 1345 dL_law_624 (by decide) h (fun h => ?_) (fun h => ?_)
                                  · refine wa_sub [0, 1, 2, 3] rfl ?_
                                    exact B1345 (f_L_law_l18 L xs n) ih x3 w59 h
                                  · refine wa_iconst fx (0 : Int32) dL_law_627 (by decide) ?_
                                    exact absurd h (by decide)
                                · have h := (if_neg c12).symm.trans h
                                  by_cases c13 : ((xs (Int32.toNatClampNeg x3)) &&& (63 : Int32)) = (13 : Int32)
                                  · have h := (if_pos c13).symm.trans h
                                    refine wa_tabI fx 629 (13 : Int) dL_law_33 (by rw [c13] <;> rfl) (by decide) (by decide) (by rfl) (by decide) ?_
                                    refine wa_aload_n fx 1 dL_law_629 rfl ?_
                                    refine wa_aload_n fx 0 dL_law_630 rfl ?_
                                    refine wa_iload_n fx 3 dL_law_631 rfl ?_
                                    refine wa_iconst fx (1 : Int32) dL_law_632 (by decide) ?_
                                    refine wa_iadd fx dL_law_633 ?_
                                    refine wa_sld fx hX hbl hbA dL_law_634 h (fun h => ?_)
                                    refine wa_aload_n fx 0 dL_law_635 rfl ?_
                                    refine wa_iload_n fx 3 dL_law_636 rfl ?_
                                    refine wa_iconst fx (2 : Int32) dL_law_637 (by decide) ?_
                                    refine wa_iadd fx dL_law_638 ?_
                                    refine wa_sld fx hX hbl hbA dL_law_639 h (fun h => ?_)
                                    refine wa_aload_n fx 0 dL_law_640 rfl ?_
                                    refine wa_iload_n fx 3 dL_law_641 rfl ?_
                                    refine wa_iconst fx (3 : Int32) dL_law_642 (by decide) ?_
                                    refine wa_iadd fx dL_law_643 ?_
                                    refine wa_sld fx hX hbl hbA dL_law_644 h (fun h => ?_)
                                    refine wa_V (b := ad 0) (rmc := rmh 7) (As := [.int (xs (Int32.toNatClampNeg (x3 + (1 : Int32)))), .int (xs (Int32.toNatClampNeg (x3 + (2 : Int32)))), .int (xs (Int32.toNatClampNeg (x3 + (3 : Int32))))]) (st := []) (wc := (wc_ws g ad w4.1)) (wr := (mo_ws g bd w4.2)) (wcz := fun z60 => wc_ws g ad z60.2) (w2 := fun z60 => lw_ws g ad bd (z60.2, w4.2)) (o := fun z60 => some (.int z60.1)) (s2 := fun z60 => [.int z60.1]) (ci := 3) (q0 := 0) fx mm_X3_on q_18_16 dL_law_645 h (fun _ hz => c_X3_on hz) rfl rfl ⟨rfl, rfl, Nat.le_of_ble_eq_true rfl, Nat.le_of_ble_eq_true rfl⟩ ⟨Nat.le_of_ble_eq_true rfl, Nat.le_of_ble_eq_true rfl⟩ rfl List.perm_append_comm (fun _ => List.perm_append_comm) rfl (Nat.le_of_ble_eq_true rfl) (fun _ => rfl) (fun z60 h => ?_)
                                    refine nm_w (lw_ws g ad bd) h (fun w61 h => ?_)
                                    refine wa_aload_n fx 2 dL_law_648 rfl ?_
                                    refine wa_aload_n fx 0 dL_law_649 rfl ?_
                                    refine wa_iload_n fx 3 dL_law_650 rfl ?_
                                    refine wa_iconst fx (1 : Int32) dL_law_651 (by decide) ?_
                                    refine wa_iadd fx dL_law_652 ?_
                                    refine wa_sld fx hX hbl hbA dL_law_653 h (fun h => ?_)
                                    refine wa_aload_n fx 0 dL_law_654 rfl ?_
                                    refine wa_iload_n fx 3 dL_law_655 rfl ?_
                                    refine wa_iconst fx (2 : Int32) dL_law_656 (by decide) ?_
                                    refine wa_iadd fx dL_law_657 ?_
                                    refine wa_sld fx hX hbl hbA dL_law_658 h (fun h => ?_)
                                    refine wa_aload_n fx 0 dL_law_659 rfl ?_
                                    refine wa_iload_n fx 3 dL_law_660 rfl ?_
                                    refine wa_iconst fx (3 : Int32) dL_law_661 (by decide) ?_
                                    refine wa_iadd fx dL_law_662 ?_
                                    refine wa_sld fx hX hbl hbA dL_law_663 h (fun h => ?_)
                                    refine wa_V (b := bd 0) (rmc := rmh 10) (As := [.int (xs (Int32.toNatClampNeg (x3 + (1 : Int32)))), .int (xs (Int32.toNatClampNeg (x3 + (2 : Int32)))), .int (xs (Int32.toNatClampNeg (x3 + (3 : Int32))))]) (st := [.int z60.1]) (wc := (mo_ws g bd w61.2)) (wr := (wc_ws g ad w61.1)) (wcz := fun z62 => mo_ws g bd z62.2) (w2 := fun z62 => lw_ws g ad bd (w61.1, z62.2)) (o := fun z62 => some (.int z62.1)) (s2 := fun z62 => [.int z62.1, .int z60.1]) (ci := 4) (q0 := 0) fx mm_X4_on q_19_4 dL_law_664 h (fun _ hz => c_X4_on hz) rfl rfl ⟨rfl, rfl, Nat.le_of_ble_eq_true rfl, Nat.le_of_ble_eq_true rfl⟩ ⟨Nat.le_of_ble_eq_true rfl, Nat.le_of_ble_eq_true rfl⟩ rfl (List.Perm.refl _) (fun _ => (List.Perm.refl _)) rfl (Nat.le_of_ble_eq_true rfl) (fun _ => rfl) (fun z62 h => ?_)
                                    refine nm_w (lw_ws g ad bd) h (fun w63 h => ?_)
                                    refine wa_icmp_eq fx 1345 dL_law_667 (by decide) h (fun h => ?_) (fun h => ?_)
                                    · refine wa_sub [0, 1, 2, 3] rfl ?_
                                      exact B1345 (f_L_law_l18 L xs n) ih x3 w63 h
                                    · refine wa_iconst fx (0 : Int32) dL_law_670 (by decide) ?_
                                      exact absurd h (by decide)
                                  · have h := (if_neg c13).symm.trans h
                                    by_cases c14 : ((xs (Int32.toNatClampNeg x3)) &&& (63 : Int32)) = (14 : Int32)
                                    · have h := (if_pos c14).symm.trans h
                                      refine wa_tabI fx 672 (14 : Int) dL_law_33 (by rw [c14] <;> rfl) (by decide) (by decide) (by rfl) (by decide) ?_
                                      refine wa_aload_n fx 1 dL_law_672 rfl ?_
                                      refine wa_aload_n fx 0 dL_law_673 rfl ?_
                                      refine wa_iload_n fx 3 dL_law_674 rfl ?_
                                      refine wa_iconst fx (1 : Int32) dL_law_675 (by decide) ?_
                                      refine wa_iadd fx dL_law_676 ?_
                                      refine wa_sld fx hX hbl hbA dL_law_677 h (fun h => ?_)
                                      refine wa_V (b := ad 0) (rmc := rmh 7) (As := [.int (xs (Int32.toNatClampNeg (x3 + (1 : Int32))))]) (st := []) (wc := (wc_ws g ad w4.1)) (wr := (mo_ws g bd w4.2)) (wcz := fun z64 => wc_ws g ad z64.2) (w2 := fun z64 => lw_ws g ad bd (z64.2, w4.2)) (o := fun z64 => some (.int z64.1)) (s2 := fun z64 => [.int z64.1]) (ci := 3) (q0 := 0) fx mm_X3_peace q_19_16 dL_law_678 h (fun _ hz => c_X3_peace hz) rfl rfl ⟨rfl, rfl, Nat.le_of_ble_eq_true rfl, Nat.le_of_ble_eq_true rfl⟩ ⟨Nat.le_of_ble_eq_true rfl, Nat.le_of_ble_eq_true rfl⟩ rfl List.perm_append_comm (fun _ => List.perm_append_comm) rfl (Nat.le_of_ble_eq_true rfl) (fun _ => rfl) (fun z64 h => ?_)
                                      refine nm_w (lw_ws g ad bd) h (fun w65 h => ?_)
                                      refine wa_aload_n fx 2 dL_law_681 rfl ?_
                                      refine wa_aload_n fx 0 dL_law_682 rfl ?_
                                      refine wa_iload_n fx 3 dL_law_683 rfl ?_
                                      refine wa_iconst fx (1 : Int32) dL_law_684 (by decide) ?_
                                      refine wa_iadd fx dL_law_685 ?_
                                      refine wa_sld fx hX hbl hbA dL_law_686 h (fun h => ?_)
                                      refine wa_V (b := bd 0) (rmc := rmh 11) (As := [.int (xs (Int32.toNatClampNeg (x3 + (1 : Int32))))]) (st := [.int z64.1]) (wc := (mo_ws g bd w65.2)) (wr := (wc_ws g ad w65.1)) (wcz := fun z66 => mo_ws g bd z66.2) (w2 := fun z66 => lw_ws g ad bd (w65.1, z66.2)) (o := fun z66 => some (.int z66.1)) (s2 := fun z66 => [.int z66.1, .int z64.1]) (ci := 4) (q0 := 0) fx mm_X4_peace q_19_20 dL_law_687 h (fun _ hz => c_X4_peace hz) rfl rfl ⟨rfl, rfl, Nat.le_of_ble_eq_true rfl, Nat.le_of_ble_eq_true rfl⟩ ⟨Nat.le_of_ble_eq_true rfl, Nat.le_of_ble_eq_true rfl⟩ rfl (List.Perm.refl _) (fun _ => (List.Perm.refl _)) rfl (Nat.le_of_ble_eq_true rfl) (fun _ => rfl) (fun z66 h => ?_)
                                      refine nm_w (lw_ws g ad bd) h (fun w67 h => ?_)
                                      refine wa_icmp_eq fx 1345 dL_law_690 (by decide) h (fun h => ?_) (fun h => ?_)
                                      · refine wa_sub [0, 1, 2, 3] rfl ?_
                                        exact B1345 (f_L_law_l18 L xs n) ih x3 w67 h
                                      · refine wa_iconst fx (0 : Int32) dL_law_693 (by decide) ?_
                                        exact absurd h (by decide)
                                    · have h := (if_neg c14).symm.trans h
                                      by_cases c15 : ((xs (Int32.toNatClampNeg x3)) &&& (63 : Int32)) = (15 : Int32)
                                      · have h := (if_pos c15).symm.trans h
                                        refine wa_tabI fx 695 (15 : Int) dL_law_33 (by rw [c15] <;> rfl) (by decide) (by decide) (by rfl) (by decide) ?_
                                        refine wa_aload_n fx 1 dL_law_695 rfl ?_
                                        refine wa_V (b := ad 0) (rmc := rmh 6) (As := []) (st := []) (wc := (wc_ws g ad w4.1)) (wr := (mo_ws g bd w4.2)) (wcz := fun z68 => wc_ws g ad z68.2) (w2 := fun z68 => lw_ws g ad bd (z68.2, w4.2)) (o := fun z68 => some (.int z68.1)) (s2 := fun z68 => [.int z68.1]) (ci := 3) (q0 := 0) fx mm_X3_settles q_20_4 dL_law_696 h (fun _ hz => c_X3_settles hz) rfl rfl ⟨rfl, rfl, Nat.le_of_ble_eq_true rfl, Nat.le_of_ble_eq_true rfl⟩ ⟨Nat.le_of_ble_eq_true rfl, Nat.le_of_ble_eq_true rfl⟩ rfl List.perm_append_comm (fun _ => List.perm_append_comm) rfl (Nat.le_of_ble_eq_true rfl) (fun _ => rfl) (fun z68 h => ?_)
                                        refine nm_w (lw_ws g ad bd) h (fun w69 h => ?_)
                                        refine wa_aload_n fx 2 dL_law_699 rfl ?_
                                        refine wa_V (b := bd 0) (rmc := rmh 9) (As := []) (st := [.int z68.1]) (wc := (mo_ws g bd w69.2)) (wr := (wc_ws g ad w69.1)) (wcz := fun z70 => mo_ws g bd z70.2) (w2 := fun z70 => lw_ws g ad bd (w69.1, z70.2)) (o := fun z70 => some (.int z70.1)) (s2 := fun z70 => [.int z70.1, .int z68.1]) (ci := 4) (q0 := 0) fx mm_X4_settles q_20_9 dL_law_700 h (fun _ hz => c_X4_settles hz) rfl rfl ⟨rfl, rfl, Nat.le_of_ble_eq_true rfl, Nat.le_of_ble_eq_true rfl⟩ ⟨Nat.le_of_ble_eq_true rfl, Nat.le_of_ble_eq_true rfl⟩ rfl (List.Perm.refl _) (fun _ => (List.Perm.refl _)) rfl (Nat.le_of_ble_eq_true rfl) (fun _ => rfl) (fun z70 h => ?_)
                                        refine nm_w (lw_ws g ad bd) h (fun w71 h => ?_)
                                        refine wa_icmp_eq fx 1345 dL_law_703 (by decide) h (fun h => ?_) (fun h => ?_)
                                        · refine wa_sub [0, 1, 2, 3] rfl ?_
                                          exact B1345 (f_L_law_l18 L xs n) ih x3 w71 h
                                        · refine wa_iconst fx (0 : Int32) dL_law_706 (by decide) ?_
                                          exact absurd h (by decide)
                                      · have h := (if_neg c15).symm.trans h
                                        by_cases c16 : ((xs (Int32.toNatClampNeg x3)) &&& (63 : Int32)) = (16 : Int32)
                                        · have h := (if_pos c16).symm.trans h
                                          refine wa_tabI fx 708 (16 : Int) dL_law_33 (by rw [c16] <;> rfl) (by decide) (by decide) (by rfl) (by decide) ?_
                                          refine wa_aload_n fx 1 dL_law_708 rfl ?_
                                          refine wa_aload_n fx 0 dL_law_709 rfl ?_
                                          refine wa_iload_n fx 3 dL_law_710 rfl ?_
                                          refine wa_iconst fx (1 : Int32) dL_law_711 (by decide) ?_
                                          refine wa_iadd fx dL_law_712 ?_
                                          refine wa_sld fx hX hbl hbA dL_law_713 h (fun h => ?_)
                                          refine wa_aload_n fx 0 dL_law_714 rfl ?_
                                          refine wa_iload_n fx 3 dL_law_715 rfl ?_
                                          refine wa_iconst fx (2 : Int32) dL_law_716 (by decide) ?_
                                          refine wa_iadd fx dL_law_717 ?_
                                          refine wa_sld fx hX hbl hbA dL_law_718 h (fun h => ?_)
                                          refine wa_V (b := ad 0) (rmc := rmh 6) (As := [.int (xs (Int32.toNatClampNeg (x3 + (1 : Int32)))), .int (xs (Int32.toNatClampNeg (x3 + (2 : Int32))))]) (st := []) (wc := (wc_ws g ad w4.1)) (wr := (mo_ws g bd w4.2)) (wcz := fun z72 => wc_ws g ad z72.2) (w2 := fun z72 => lw_ws g ad bd (z72.2, w4.2)) (o := fun z72 => some (.int z72.1)) (s2 := fun z72 => [.int z72.1]) (ci := 3) (q0 := 0) fx mm_X3_gets q_20_14 dL_law_719 h (fun _ hz => c_X3_gets hz) rfl rfl ⟨rfl, rfl, Nat.le_of_ble_eq_true rfl, Nat.le_of_ble_eq_true rfl⟩ ⟨Nat.le_of_ble_eq_true rfl, Nat.le_of_ble_eq_true rfl⟩ rfl List.perm_append_comm (fun _ => List.perm_append_comm) rfl (Nat.le_of_ble_eq_true rfl) (fun _ => rfl) (fun z72 h => ?_)
                                          refine nm_w (lw_ws g ad bd) h (fun w73 h => ?_)
                                          refine wa_aload_n fx 2 dL_law_722 rfl ?_
                                          refine wa_aload_n fx 0 dL_law_723 rfl ?_
                                          refine wa_iload_n fx 3 dL_law_724 rfl ?_
                                          refine wa_iconst fx (1 : Int32) dL_law_725 (by decide) ?_
                                          refine wa_iadd fx dL_law_726 ?_
                                          refine wa_sld fx hX hbl hbA dL_law_727 h (fun h => ?_)
                                          refine wa_aload_n fx 0 dL_law_728 rfl ?_
                                          refine wa_iload_n fx 3 dL_law_729 rfl ?_
                                          refine wa_iconst fx (2 : Int32) dL_law_730 (by decide) ?_
                                          refine wa_iadd fx dL_law_731 ?_
                                          refine wa_sld fx hX hbl hbA dL_law_732 h (fun h => ?_)
                                          refine wa_V (b := bd 0) (rmc := rmh 9) (As := [.int (xs (Int32.toNatClampNeg (x3 + (1 : Int32)))), .int (xs (Int32.toNatClampNeg (x3 + (2 : Int32))))]) (st := [.int z72.1]) (wc := (mo_ws g bd w73.2)) (wr := (wc_ws g ad w73.1)) (wcz := fun z74 => mo_ws g bd z74.2) (w2 := fun z74 => lw_ws g ad bd (w73.1, z74.2)) (o := fun z74 => some (.int z74.1)) (s2 := fun z74 => [.int z74.1, .int z72.1]) (ci := 4) (q0 := 0) fx mm_X4_gets q_20_18 dL_law_733 h (fun _ hz => c_X4_gets hz) rfl rfl ⟨rfl, rfl, Nat.le_of_ble_eq_true rfl, Nat.le_of_ble_eq_true rfl⟩ ⟨Nat.le_of_ble_eq_true rfl, Nat.le_of_ble_eq_true rfl⟩ rfl (List.Perm.refl _) (fun _ => (List.Perm.refl _)) rfl (Nat.le_of_ble_eq_true rfl) (fun _ => rfl) (fun z74 h => ?_)
                                          refine nm_w (lw_ws g ad bd) h (fun w75 h => ?_)
                                          refine wa_icmp_eq fx 1345 dL_law_736 (by decide) h (fun h => ?_) (fun h => ?_)
                                          · refine wa_sub [0, 1, 2, 3] rfl ?_
                                            exact B1345 (f_L_law_l18 L xs n) ih x3 w75 h
                                          · refine wa_iconst fx (0 : Int32) dL_law_739 (by decide) ?_
                                            exact absurd h (by decide)
                                        · have h := (if_neg c16).symm.trans h
                                          by_cases c17 : ((xs (Int32.toNatClampNeg x3)) &&& (63 : Int32)) = (17 : Int32)
                                          · have h := (if_pos c17).symm.trans h
                                            refine wa_tabI fx 741 (17 : Int) dL_law_33 (by rw [c17] <;> rfl) (by decide) (by decide) (by rfl) (by decide) ?_
                                            refine wa_aload_n fx 1 dL_law_741 rfl ?_
                                            refine wa_V (b := ad 0) (rmc := rmh 14) (As := []) (st := []) (wc := (wc_ws g ad w4.1)) (wr := (mo_ws g bd w4.2)) (wcz := fun z76 => wc_ws g ad z76.2) (w2 := fun z76 => lw_ws g ad bd (z76.2, w4.2)) (o := fun z76 => some (.int z76.1)) (s2 := fun z76 => [.int z76.1]) (ci := 3) (q0 := 0) fx mm_X3_best q_20_22 dL_law_742 h (fun _ hz => c_X3_best hz) rfl rfl ⟨rfl, rfl, Nat.le_of_ble_eq_true rfl, Nat.le_of_ble_eq_true rfl⟩ ⟨Nat.le_of_ble_eq_true rfl, Nat.le_of_ble_eq_true rfl⟩ rfl List.perm_append_comm (fun _ => List.perm_append_comm) rfl (Nat.le_of_ble_eq_true rfl) (fun _ => rfl) (fun z76 h => ?_)
                                            refine nm_w (lw_ws g ad bd) h (fun w77 h => ?_)
                                            refine wa_aload_n fx 2 dL_law_745 rfl ?_
                                            refine wa_V (b := bd 0) (rmc := rmh 18) (As := []) (st := [.int z76.1]) (wc := (mo_ws g bd w77.2)) (wr := (wc_ws g ad w77.1)) (wcz := fun z78 => mo_ws g bd z78.2) (w2 := fun z78 => lw_ws g ad bd (w77.1, z78.2)) (o := fun z78 => some (.int z78.1)) (s2 := fun z78 => [.int z78.1, .int z76.1]) (ci := 4) (q0 := 0) fx mm_X4_best q_21_9 dL_law_746 h (fun _ hz => c_X4_best hz) rfl rfl ⟨rfl, rfl, Nat.le_of_ble_eq_true rfl, Nat.le_of_ble_eq_true rfl⟩ ⟨Nat.le_of_ble_eq_true rfl, Nat.le_of_ble_eq_true rfl⟩ rfl (List.Perm.refl _) (fun _ => (List.Perm.refl _)) rfl (Nat.le_of_ble_eq_true rfl) (fun _ => rfl) (fun z78 h => ?_)
                                            refine nm_w (lw_ws g ad bd) h (fun w79 h => ?_)
                                            refine wa_icmp_eq fx 1345 dL_law_749 (by decide) h (fun h => ?_) (fun h => ?_)
                                            · refine wa_sub [0, 1, 2, 3] rfl ?_
                                              exact B1345 (f_L_law_l18 L xs n) ih x3 w79 h
                                            · refine wa_iconst fx (0 : Int32) dL_law_752 (by decide) ?_
                                              exact absurd h (by decide)
                                          · have h := (if_neg c17).symm.trans h
                                            by_cases c18 : ((xs (Int32.toNatClampNeg x3)) &&& (63 : Int32)) = (18 : Int32)
                                            · have h := (if_pos c18).symm.trans h
                                              refine wa_tabI fx 754 (18 : Int) dL_law_33 (by rw [c18] <;> rfl) (by decide) (by decide) (by rfl) (by decide) ?_
                                              refine wa_aload_n fx 1 dL_law_754 rfl ?_
                                              refine wa_aload_n fx 0 dL_law_755 rfl ?_
                                              refine wa_iload_n fx 3 dL_law_756 rfl ?_
                                              refine wa_iconst fx (1 : Int32) dL_law_757 (by decide) ?_
                                              refine wa_iadd fx dL_law_758 ?_
                                              refine wa_sld fx hX hbl hbA dL_law_759 h (fun h => ?_)
                                              refine wa_V (b := ad 0) (rmc := rmh 7) (As := [.int (xs (Int32.toNatClampNeg (x3 + (1 : Int32))))]) (st := []) (wc := (wc_ws g ad w4.1)) (wr := (mo_ws g bd w4.2)) (wcz := fun z80 => wc_ws g ad z80.2) (w2 := fun z80 => lw_ws g ad bd (z80.2, w4.2)) (o := fun z80 => some (.int z80.1)) (s2 := fun z80 => [.int z80.1]) (ci := 3) (q0 := 0) fx mm_X3_mend q_21_23 dL_law_760 h (fun _ hz => c_X3_mend hz) rfl rfl ⟨rfl, rfl, Nat.le_of_ble_eq_true rfl, Nat.le_of_ble_eq_true rfl⟩ ⟨Nat.le_of_ble_eq_true rfl, Nat.le_of_ble_eq_true rfl⟩ rfl List.perm_append_comm (fun _ => List.perm_append_comm) rfl (Nat.le_of_ble_eq_true rfl) (fun _ => rfl) (fun z80 h => ?_)
                                              refine nm_w (lw_ws g ad bd) h (fun w81 h => ?_)
                                              refine wa_aload_n fx 2 dL_law_763 rfl ?_
                                              refine wa_aload_n fx 0 dL_law_764 rfl ?_
                                              refine wa_iload_n fx 3 dL_law_765 rfl ?_
                                              refine wa_iconst fx (1 : Int32) dL_law_766 (by decide) ?_
                                              refine wa_iadd fx dL_law_767 ?_
                                              refine wa_sld fx hX hbl hbA dL_law_768 h (fun h => ?_)
                                              refine wa_V (b := bd 0) (rmc := rmh 11) (As := [.int (xs (Int32.toNatClampNeg (x3 + (1 : Int32))))]) (st := [.int z80.1]) (wc := (mo_ws g bd w81.2)) (wr := (wc_ws g ad w81.1)) (wcz := fun z82 => mo_ws g bd z82.2) (w2 := fun z82 => lw_ws g ad bd (w81.1, z82.2)) (o := fun z82 => some (.int z82.1)) (s2 := fun z82 => [.int z82.1, .int z80.1]) (ci := 4) (q0 := 0) fx mm_X4_mend q_22_3 dL_law_769 h (fun _ hz => c_X4_mend hz) rfl rfl ⟨rfl, rfl, Nat.le_of_ble_eq_true rfl, Nat.le_of_ble_eq_true rfl⟩ ⟨Nat.le_of_ble_eq_true rfl, Nat.le_of_ble_eq_true rfl⟩ rfl (List.Perm.refl _) (fun _ => (List.Perm.refl _)) rfl (Nat.le_of_ble_eq_true rfl) (fun _ => rfl) (fun z82 h => ?_)
                                              refine nm_w (lw_ws g ad bd) h (fun w83 h => ?_)
                                              refine wa_icmp_eq fx 1345 dL_law_772 (by decide) h (fun h => ?_) (fun h => ?_)
                                              · refine wa_sub [0, 1, 2, 3] rfl ?_
                                                exact B1345 (f_L_law_l18 L xs n) ih x3 w83 h
                                              · refine wa_iconst fx (0 : Int32) dL_law_775 (by decide) ?_
                                                exact absurd h (by decide)
                                            · have h := (if_neg c18).symm.trans h
                                              by_cases c19 : ((xs (Int32.toNatClampNeg x3)) &&& (63 : Int32)) = (19 : Int32)
                                              · have h := (if_pos c19).symm.trans h
                                                refine wa_tabI fx 777 (19 : Int) dL_law_33 (by rw [c19] <;> rfl) (by decide) (by decide) (by rfl) (by decide) ?_
                                                refine wa_aload_n fx 1 dL_law_777 rfl ?_
                                                refine wa_aload_n fx 0 dL_law_778 rfl ?_
                                                refine wa_iload_n fx 3 dL_law_779 rfl ?_
                                                refine wa_iconst fx (1 : Int32) dL_law_780 (by decide) ?_
                                                refine wa_iadd fx dL_law_781 ?_
                                                refine wa_sld fx hX hbl hbA dL_law_782 h (fun h => ?_)
                                                refine wa_aload_n fx 0 dL_law_783 rfl ?_
                                                refine wa_iload_n fx 3 dL_law_784 rfl ?_
                                                refine wa_iconst fx (2 : Int32) dL_law_785 (by decide) ?_
                                                refine wa_iadd fx dL_law_786 ?_
                                                refine wa_sld fx hX hbl hbA dL_law_787 h (fun h => ?_)
                                                refine wa_V (b := ad 0) (rmc := rmh 7) (As := [.int (xs (Int32.toNatClampNeg (x3 + (1 : Int32)))), .int (xs (Int32.toNatClampNeg (x3 + (2 : Int32))))]) (st := []) (wc := (wc_ws g ad w4.1)) (wr := (mo_ws g bd w4.2)) (wcz := fun z84 => wc_ws g ad z84.2) (w2 := fun z84 => lw_ws g ad bd (z84.2, w4.2)) (o := fun z84 => some (.int z84.1)) (s2 := fun z84 => [.int z84.1]) (ci := 3) (q0 := 0) fx mm_X3_kind q_22_11 dL_law_788 h (fun _ hz => c_X3_kind hz) rfl rfl ⟨rfl, rfl, Nat.le_of_ble_eq_true rfl, Nat.le_of_ble_eq_true rfl⟩ ⟨Nat.le_of_ble_eq_true rfl, Nat.le_of_ble_eq_true rfl⟩ rfl List.perm_append_comm (fun _ => List.perm_append_comm) rfl (Nat.le_of_ble_eq_true rfl) (fun _ => rfl) (fun z84 h => ?_)
                                                refine nm_w (lw_ws g ad bd) h (fun w85 h => ?_)
                                                refine wa_aload_n fx 2 dL_law_791 rfl ?_
                                                refine wa_aload_n fx 0 dL_law_792 rfl ?_
                                                refine wa_iload_n fx 3 dL_law_793 rfl ?_
                                                refine wa_iconst fx (1 : Int32) dL_law_794 (by decide) ?_
                                                refine wa_iadd fx dL_law_795 ?_
                                                refine wa_sld fx hX hbl hbA dL_law_796 h (fun h => ?_)
                                                refine wa_aload_n fx 0 dL_law_797 rfl ?_
                                                refine wa_iload_n fx 3 dL_law_798 rfl ?_
                                                refine wa_iconst fx (2 : Int32) dL_law_799 (by decide) ?_
                                                refine wa_iadd fx dL_law_800 ?_
                                                refine wa_sld fx hX hbl hbA dL_law_801 h (fun h => ?_)
                                                refine wa_V (b := bd 0) (rmc := rmh 12) (As := [.int (xs (Int32.toNatClampNeg (x3 + (1 : Int32)))), .int (xs (Int32.toNatClampNeg (x3 + (2 : Int32))))]) (st := [.int z84.1]) (wc := (mo_ws g bd w85.2)) (wr := (wc_ws g ad w85.1)) (wcz := fun z86 => mo_ws g bd z86.2) (w2 := fun z86 => lw_ws g ad bd (w85.1, z86.2)) (o := fun z86 => some (.int z86.1)) (s2 := fun z86 => [.int z86.1, .int z84.1]) (ci := 4) (q0 := 0) fx mm_X4_kind q_22_19 dL_law_802 h (fun _ hz => c_X4_kind hz) rfl rfl ⟨rfl, rfl, Nat.le_of_ble_eq_true rfl, Nat.le_of_ble_eq_true rfl⟩ ⟨Nat.le_of_ble_eq_true rfl, Nat.le_of_ble_eq_true rfl⟩ rfl (List.Perm.refl _) (fun _ => (List.Perm.refl _)) rfl (Nat.le_of_ble_eq_true rfl) (fun _ => rfl) (fun z86 h => ?_)
                                                refine nm_w (lw_ws g ad bd) h (fun w87 h => ?_)
                                                refine wa_icmp_eq fx 1345 dL_law_805 (by decide) h (fun h => ?_) (fun h => ?_)
                                                · refine wa_sub [0, 1, 2, 3] rfl ?_
                                                  exact B1345 (f_L_law_l18 L xs n) ih x3 w87 h
                                                · refine wa_iconst fx (0 : Int32) dL_law_808 (by decide) ?_
                                                  exact absurd h (by decide)
                                              · have h := (if_neg c19).symm.trans h
                                                by_cases c20 : ((xs (Int32.toNatClampNeg x3)) &&& (63 : Int32)) = (20 : Int32)
                                                · have h := (if_pos c20).symm.trans h
                                                  refine wa_tabI fx 810 (20 : Int) dL_law_33 (by rw [c20] <;> rfl) (by decide) (by decide) (by rfl) (by decide) ?_
                                                  refine wa_aload_n fx 1 dL_law_810 rfl ?_
                                                  refine wa_aload_n fx 0 dL_law_811 rfl ?_
                                                  refine wa_iload_n fx 3 dL_law_812 rfl ?_
                                                  refine wa_iconst fx (1 : Int32) dL_law_813 (by decide) ?_
                                                  refine wa_iadd fx dL_law_814 ?_
                                                  refine wa_sld fx hX hbl hbA dL_law_815 h (fun h => ?_)
                                                  refine wa_aload_n fx 0 dL_law_816 rfl ?_
                                                  refine wa_iload_n fx 3 dL_law_817 rfl ?_
                                                  refine wa_iconst fx (2 : Int32) dL_law_818 (by decide) ?_
                                                  refine wa_iadd fx dL_law_819 ?_
                                                  refine wa_sld fx hX hbl hbA dL_law_820 h (fun h => ?_)
                                                  refine wa_V (b := ad 0) (rmc := rmh 7) (As := [.int (xs (Int32.toNatClampNeg (x3 + (1 : Int32)))), .int (xs (Int32.toNatClampNeg (x3 + (2 : Int32))))]) (st := []) (wc := (wc_ws g ad w4.1)) (wr := (mo_ws g bd w4.2)) (wcz := fun z88 => wc_ws g ad z88.2) (w2 := fun z88 => lw_ws g ad bd (z88.2, w4.2)) (o := fun z88 => some (.int z88.1)) (s2 := fun z88 => [.int z88.1]) (ci := 3) (q0 := 0) fx mm_X3_claim q_23_7 dL_law_821 h (fun _ hz => c_X3_claim hz) rfl rfl ⟨rfl, rfl, Nat.le_of_ble_eq_true rfl, Nat.le_of_ble_eq_true rfl⟩ ⟨Nat.le_of_ble_eq_true rfl, Nat.le_of_ble_eq_true rfl⟩ rfl List.perm_append_comm (fun _ => List.perm_append_comm) rfl (Nat.le_of_ble_eq_true rfl) (fun _ => rfl) (fun z88 h => ?_)
                                                  refine nm_w (lw_ws g ad bd) h (fun w89 h => ?_)
                                                  refine wa_aload_n fx 2 dL_law_824 rfl ?_
                                                  refine wa_aload_n fx 0 dL_law_825 rfl ?_
                                                  refine wa_iload_n fx 3 dL_law_826 rfl ?_
                                                  refine wa_iconst fx (1 : Int32) dL_law_827 (by decide) ?_
                                                  refine wa_iadd fx dL_law_828 ?_
                                                  refine wa_sld fx hX hbl hbA dL_law_829 h (fun h => ?_)
                                                  refine wa_aload_n fx 0 dL_law_830 rfl ?_
                                                  refine wa_iload_n fx 3 dL_law_831 rfl ?_
                                                  refine wa_iconst fx (2 : Int32) dL_law_832 (by decide) ?_
                                                  refine wa_iadd fx dL_law_833 ?_
                                                  refine wa_sld fx hX hbl hbA dL_law_834 h (fun h => ?_)
                                                  refine wa_V (b := bd 0) (rmc := rmh 12) (As := [.int (xs (Int32.toNatClampNeg (x3 + (1 : Int32)))), .int (xs (Int32.toNatClampNeg (x3 + (2 : Int32))))]) (st := [.int z88.1]) (wc := (mo_ws g bd w89.2)) (wr := (wc_ws g ad w89.1)) (wcz := fun z90 => mo_ws g bd z90.2) (w2 := fun z90 => lw_ws g ad bd (w89.1, z90.2)) (o := fun z90 => some (.int z90.1)) (s2 := fun z90 => [.int z90.1, .int z88.1]) (ci := 4) (q0 := 0) fx mm_X4_claim q_23_11 dL_law_835 h (fun _ hz => c_X4_claim hz) rfl rfl ⟨rfl, rfl, Nat.le_of_ble_eq_true rfl, Nat.le_of_ble_eq_true rfl⟩ ⟨Nat.le_of_ble_eq_true rfl, Nat.le_of_ble_eq_true rfl⟩ rfl (List.Perm.refl _) (fun _ => (List.Perm.refl _)) rfl (Nat.le_of_ble_eq_true rfl) (fun _ => rfl) (fun z90 h => ?_)
                                                  refine nm_w (lw_ws g ad bd) h (fun w91 h => ?_)
                                                  refine wa_icmp_eq fx 1345 dL_law_838 (by decide) h (fun h => ?_) (fun h => ?_)
                                                  · refine wa_sub [0, 1, 2, 3] rfl ?_
                                                    exact B1345 (f_L_law_l18 L xs n) ih x3 w91 h
                                                  · refine wa_iconst fx (0 : Int32) dL_law_841 (by decide) ?_
                                                    exact absurd h (by decide)
                                                · have h := (if_neg c20).symm.trans h
                                                  by_cases c21 : ((xs (Int32.toNatClampNeg x3)) &&& (63 : Int32)) = (21 : Int32)
                                                  · have h := (if_pos c21).symm.trans h
                                                    refine wa_tabI fx 843 (21 : Int) dL_law_33 (by rw [c21] <;> rfl) (by decide) (by decide) (by rfl) (by decide) ?_
                                                    refine wa_aload_n fx 1 dL_law_843 rfl ?_
                                                    refine wa_aload_n fx 0 dL_law_844 rfl ?_
                                                    refine wa_iload_n fx 3 dL_law_845 rfl ?_
                                                    refine wa_iconst fx (1 : Int32) dL_law_846 (by decide) ?_
                                                    refine wa_iadd fx dL_law_847 ?_
                                                    refine wa_sld fx hX hbl hbA dL_law_848 h (fun h => ?_)
                                                    refine wa_aload_n fx 0 dL_law_849 rfl ?_
                                                    refine wa_iload_n fx 3 dL_law_850 rfl ?_
                                                    refine wa_iconst fx (2 : Int32) dL_law_851 (by decide) ?_
                                                    refine wa_iadd fx dL_law_852 ?_
                                                    refine wa_sld fx hX hbl hbA dL_law_853 h (fun h => ?_)
                                                    refine wa_aload_n fx 0 dL_law_854 rfl ?_
                                                    refine wa_iload_n fx 3 dL_law_855 rfl ?_
                                                    refine wa_iconst fx (3 : Int32) dL_law_856 (by decide) ?_
                                                    refine wa_iadd fx dL_law_857 ?_
                                                    refine wa_sld fx hX hbl hbA dL_law_858 h (fun h => ?_)
                                                    refine wa_V (b := ad 0) (rmc := rmh 7) (As := [.int (xs (Int32.toNatClampNeg (x3 + (1 : Int32)))), .int (xs (Int32.toNatClampNeg (x3 + (2 : Int32)))), .int (xs (Int32.toNatClampNeg (x3 + (3 : Int32))))]) (st := []) (wc := (wc_ws g ad w4.1)) (wr := (mo_ws g bd w4.2)) (wcz := fun z92 => wc_ws g ad z92.2) (w2 := fun z92 => lw_ws g ad bd (z92.2, w4.2)) (o := fun z92 => some (.int z92.1)) (s2 := fun z92 => [.int z92.1]) (ci := 3) (q0 := 0) fx mm_X3_years q_23_15 dL_law_859 h (fun _ hz => c_X3_years hz) rfl rfl ⟨rfl, rfl, Nat.le_of_ble_eq_true rfl, Nat.le_of_ble_eq_true rfl⟩ ⟨Nat.le_of_ble_eq_true rfl, Nat.le_of_ble_eq_true rfl⟩ rfl List.perm_append_comm (fun _ => List.perm_append_comm) rfl (Nat.le_of_ble_eq_true rfl) (fun _ => rfl) (fun z92 h => ?_)
                                                    refine nm_w (lw_ws g ad bd) h (fun w93 h => ?_)
                                                    refine wa_aload_n fx 2 dL_law_862 rfl ?_
                                                    refine wa_aload_n fx 0 dL_law_863 rfl ?_
                                                    refine wa_iload_n fx 3 dL_law_864 rfl ?_
                                                    refine wa_iconst fx (1 : Int32) dL_law_865 (by decide) ?_
                                                    refine wa_iadd fx dL_law_866 ?_
                                                    refine wa_sld fx hX hbl hbA dL_law_867 h (fun h => ?_)
                                                    refine wa_aload_n fx 0 dL_law_868 rfl ?_
                                                    refine wa_iload_n fx 3 dL_law_869 rfl ?_
                                                    refine wa_iconst fx (2 : Int32) dL_law_870 (by decide) ?_
                                                    refine wa_iadd fx dL_law_871 ?_
                                                    refine wa_sld fx hX hbl hbA dL_law_872 h (fun h => ?_)
                                                    refine wa_aload_n fx 0 dL_law_873 rfl ?_
                                                    refine wa_iload_n fx 3 dL_law_874 rfl ?_
                                                    refine wa_iconst fx (3 : Int32) dL_law_875 (by decide) ?_
                                                    refine wa_iadd fx dL_law_876 ?_
                                                    refine wa_sld fx hX hbl hbA dL_law_877 h (fun h => ?_)
                                                    refine wa_V (b := bd 0) (rmc := rmh 10) (As := [.int (xs (Int32.toNatClampNeg (x3 + (1 : Int32)))), .int (xs (Int32.toNatClampNeg (x3 + (2 : Int32)))), .int (xs (Int32.toNatClampNeg (x3 + (3 : Int32))))]) (st := [.int z92.1]) (wc := (mo_ws g bd w93.2)) (wr := (wc_ws g ad w93.1)) (wcz := fun z94 => mo_ws g bd z94.2) (w2 := fun z94 => lw_ws g ad bd (w93.1, z94.2)) (o := fun z94 => some (.int z94.1)) (s2 := fun z94 => [.int z94.1, .int z92.1]) (ci := 4) (q0 := 0) fx mm_X4_years q_23_19 dL_law_878 h (fun _ hz => c_X4_years hz) rfl rfl ⟨rfl, rfl, Nat.le_of_ble_eq_true rfl, Nat.le_of_ble_eq_true rfl⟩ ⟨Nat.le_of_ble_eq_true rfl, Nat.le_of_ble_eq_true rfl⟩ rfl (List.Perm.refl _) (fun _ => (List.Perm.refl _)) rfl (Nat.le_of_ble_eq_true rfl) (fun _ => rfl) (fun z94 h => ?_)
                                                    refine nm_w (lw_ws g ad bd) h (fun w95 h => ?_)
                                                    refine wa_icmp_eq fx 1345 dL_law_881 (by decide) h (fun h => ?_) (fun h => ?_)
                                                    · refine wa_sub [0, 1, 2, 3] rfl ?_
                                                      exact B1345 (f_L_law_l18 L xs n) ih x3 w95 h
                                                    · refine wa_iconst fx (0 : Int32) dL_law_884 (by decide) ?_
                                                      exact absurd h (by decide)
                                                  · have h := (if_neg c21).symm.trans h
                                                    by_cases c22 : ((xs (Int32.toNatClampNeg x3)) &&& (63 : Int32)) = (22 : Int32)
                                                    · have h := (if_pos c22).symm.trans h
                                                      refine wa_tabI fx 886 (22 : Int) dL_law_33 (by rw [c22] <;> rfl) (by decide) (by decide) (by rfl) (by decide) ?_
                                                      refine wa_aload_n fx 1 dL_law_886 rfl ?_
                                                      refine wa_aload_n fx 0 dL_law_887 rfl ?_
                                                      refine wa_iload_n fx 3 dL_law_888 rfl ?_
                                                      refine wa_iconst fx (1 : Int32) dL_law_889 (by decide) ?_
                                                      refine wa_iadd fx dL_law_890 ?_
                                                      refine wa_sld fx hX hbl hbA dL_law_891 h (fun h => ?_)
                                                      refine wa_V (b := ad 0) (rmc := rmh 7) (As := [.int (xs (Int32.toNatClampNeg (x3 + (1 : Int32))))]) (st := []) (wc := (wc_ws g ad w4.1)) (wr := (mo_ws g bd w4.2)) (wcz := fun z96 => wc_ws g ad z96.2) (w2 := fun z96 => lw_ws g ad bd (z96.2, w4.2)) (o := fun z96 => some (.int z96.1)) (s2 := fun z96 => [.int z96.1]) (ci := 3) (q0 := 0) fx mm_X3_always q_23_23 dL_law_892 h (fun _ hz => c_X3_always hz) rfl rfl ⟨rfl, rfl, Nat.le_of_ble_eq_true rfl, Nat.le_of_ble_eq_true rfl⟩ ⟨Nat.le_of_ble_eq_true rfl, Nat.le_of_ble_eq_true rfl⟩ rfl List.perm_append_comm (fun _ => List.perm_append_comm) rfl (Nat.le_of_ble_eq_true rfl) (fun _ => rfl) (fun z96 h => ?_)
                                                      refine nm_w (lw_ws g ad bd) h (fun w97 h => ?_)
                                                      refine wa_aload_n fx 2 dL_law_895 rfl ?_
                                                      refine wa_aload_n fx 0 dL_law_896 rfl ?_
                                                      refine wa_iload_n fx 3 dL_law_897 rfl ?_
                                                      refine wa_iconst fx (1 : Int32) dL_law_898 (by decide) ?_
                                                      refine wa_iadd fx dL_law_899 ?_
                                                      refine wa_sld fx hX hbl hbA dL_law_900 h (fun h => ?_)
                                                      refine wa_V (b := bd 0) (rmc := rmh 10) (As := [.int (xs (Int32.toNatClampNeg (x3 + (1 : Int32))))]) (st := [.int z96.1]) (wc := (mo_ws g bd w97.2)) (wr := (wc_ws g ad w97.1)) (wcz := fun z98 => mo_ws g bd z98.2) (w2 := fun z98 => lw_ws g ad bd (w97.1, z98.2)) (o := fun z98 => some (.int z98.1)) (s2 := fun z98 => [.int z98.1, .int z96.1]) (ci := 4) (q0 := 0) fx mm_X4_always q_24_3 dL_law_901 h (fun _ hz => c_X4_always hz) rfl rfl ⟨rfl, rfl, Nat.le_of_ble_eq_true rfl, Nat.le_of_ble_eq_true rfl⟩ ⟨Nat.le_of_ble_eq_true rfl, Nat.le_of_ble_eq_true rfl⟩ rfl (List.Perm.refl _) (fun _ => (List.Perm.refl _)) rfl (Nat.le_of_ble_eq_true rfl) (fun _ => rfl) (fun z98 h => ?_)
                                                      refine nm_w (lw_ws g ad bd) h (fun w99 h => ?_)
                                                      refine wa_icmp_eq fx 1345 dL_law_904 (by decide) h (fun h => ?_) (fun h => ?_)
                                                      · refine wa_sub [0, 1, 2, 3] rfl ?_
                                                        exact B1345 (f_L_law_l18 L xs n) ih x3 w99 h
                                                      · refine wa_iconst fx (0 : Int32) dL_law_907 (by decide) ?_
                                                        exact absurd h (by decide)
                                                    · have h := (if_neg c22).symm.trans h
                                                      by_cases c23 : ((xs (Int32.toNatClampNeg x3)) &&& (63 : Int32)) = (23 : Int32)
                                                      · have h := (if_pos c23).symm.trans h
                                                        refine wa_tabI fx 909 (23 : Int) dL_law_33 (by rw [c23] <;> rfl) (by decide) (by decide) (by rfl) (by decide) ?_
                                                        refine wa_aload_n fx 1 dL_law_909 rfl ?_
                                                        refine wa_aload_n fx 0 dL_law_910 rfl ?_
                                                        refine wa_iload_n fx 3 dL_law_911 rfl ?_
                                                        refine wa_iconst fx (1 : Int32) dL_law_912 (by decide) ?_
                                                        refine wa_iadd fx dL_law_913 ?_
                                                        refine wa_sld fx hX hbl hbA dL_law_914 h (fun h => ?_)
                                                        refine wa_V (b := ad 0) (rmc := rmh 4) (As := [.int (xs (Int32.toNatClampNeg (x3 + (1 : Int32))))]) (st := []) (wc := (wc_ws g ad w4.1)) (wr := (mo_ws g bd w4.2)) (wcz := fun z100 => wc_ws g ad z100.2) (w2 := fun z100 => lw_ws g ad bd (z100.2, w4.2)) (o := fun z100 => some (.int z100.1)) (s2 := fun z100 => [.int z100.1]) (ci := 3) (q0 := 0) fx mm_X3_beside q_24_7 dL_law_915 h (fun _ hz => c_X3_beside hz) rfl rfl ⟨rfl, rfl, Nat.le_of_ble_eq_true rfl, Nat.le_of_ble_eq_true rfl⟩ ⟨Nat.le_of_ble_eq_true rfl, Nat.le_of_ble_eq_true rfl⟩ rfl List.perm_append_comm (fun _ => List.perm_append_comm) rfl (Nat.le_of_ble_eq_true rfl) (fun _ => rfl) (fun z100 h => ?_)
                                                        refine nm_w (lw_ws g ad bd) h (fun w101 h => ?_)
                                                        refine wa_aload_n fx 2 dL_law_918 rfl ?_
                                                        refine wa_aload_n fx 0 dL_law_919 rfl ?_
                                                        refine wa_iload_n fx 3 dL_law_920 rfl ?_
                                                        refine wa_iconst fx (1 : Int32) dL_law_921 (by decide) ?_
                                                        refine wa_iadd fx dL_law_922 ?_
                                                        refine wa_sld fx hX hbl hbA dL_law_923 h (fun h => ?_)
                                                        refine wa_V (b := bd 0) (rmc := rmh 6) (As := [.int (xs (Int32.toNatClampNeg (x3 + (1 : Int32))))]) (st := [.int z100.1]) (wc := (mo_ws g bd w101.2)) (wr := (wc_ws g ad w101.1)) (wcz := fun z102 => mo_ws g bd z102.2) (w2 := fun z102 => lw_ws g ad bd (w101.1, z102.2)) (o := fun z102 => some (.int z102.1)) (s2 := fun z102 => [.int z102.1, .int z100.1]) (ci := 4) (q0 := 0) fx mm_X4_beside q_24_15 dL_law_924 h (fun _ hz => c_X4_beside hz) rfl rfl ⟨rfl, rfl, Nat.le_of_ble_eq_true rfl, Nat.le_of_ble_eq_true rfl⟩ ⟨Nat.le_of_ble_eq_true rfl, Nat.le_of_ble_eq_true rfl⟩ rfl (List.Perm.refl _) (fun _ => (List.Perm.refl _)) rfl (Nat.le_of_ble_eq_true rfl) (fun _ => rfl) (fun z102 h => ?_)
                                                        refine nm_w (lw_ws g ad bd) h (fun w103 h => ?_)
                                                        refine wa_icmp_eq fx 1345 dL_law_927 (by decide) h (fun h => ?_) (fun h => ?_)
                                                        · refine wa_sub [0, 1, 2, 3] rfl ?_
                                                          exact B1345 (f_L_law_l18 L xs n) ih x3 w103 h
                                                        · refine wa_iconst fx (0 : Int32) dL_law_930 (by decide) ?_
                                                          exact absurd h (by decide)
                                                      · have h := (if_neg c23).symm.trans h
                                                        by_cases c24 : ((xs (Int32.toNatClampNeg x3)) &&& (63 : Int32)) = (24 : Int32)
                                                        · have h := (if_pos c24).symm.trans h
                                                          refine wa_tabI fx 932 (24 : Int) dL_law_33 (by rw [c24] <;> rfl) (by decide) (by decide) (by rfl) (by decide) ?_
                                                          refine wa_aload_n fx 1 dL_law_932 rfl ?_
                                                          refine wa_aload_n fx 0 dL_law_933 rfl ?_
                                                          refine wa_iload_n fx 3 dL_law_934 rfl ?_
                                                          refine wa_iconst fx (1 : Int32) dL_law_935 (by decide) ?_
                                                          refine wa_iadd fx dL_law_936 ?_
                                                          refine wa_sld fx hX hbl hbA dL_law_937 h (fun h => ?_)
                                                          refine wa_aload_n fx 0 dL_law_938 rfl ?_
                                                          refine wa_iload_n fx 3 dL_law_939 rfl ?_
                                                          refine wa_iconst fx (2 : Int32) dL_law_940 (by decide) ?_
                                                          refine wa_iadd fx dL_law_941 ?_
                                                          refine wa_sld fx hX hbl hbA dL_law_942 h (fun h => ?_)
                                                          refine wa_V (b := ad 0) (rmc := rmh 2) (As := [.int (xs (Int32.toNatClampNeg (x3 + (1 : Int32)))), .int (xs (Int32.toNatClampNeg (x3 + (2 : Int32))))]) (st := []) (wc := (wc_ws g ad w4.1)) (wr := (mo_ws g bd w4.2)) (wcz := fun z104 => wc_ws g ad z104.2) (w2 := fun z104 => lw_ws g ad bd (z104.2, w4.2)) (o := fun z104 => some (.int z104.1)) (s2 := fun z104 => [.int z104.1]) (ci := 3) (q0 := 0) fx mm_X3_feed q_24_19 dL_law_943 h (fun _ hz => c_X3_feed hz) rfl rfl ⟨rfl, rfl, Nat.le_of_ble_eq_true rfl, Nat.le_of_ble_eq_true rfl⟩ ⟨Nat.le_of_ble_eq_true rfl, Nat.le_of_ble_eq_true rfl⟩ rfl List.perm_append_comm (fun _ => List.perm_append_comm) rfl (Nat.le_of_ble_eq_true rfl) (fun _ => rfl) (fun z104 h => ?_)
                                                          refine nm_w (lw_ws g ad bd) h (fun w105 h => ?_)
                                                          refine wa_aload_n fx 2 dL_law_946 rfl ?_
                                                          refine wa_aload_n fx 0 dL_law_947 rfl ?_
                                                          refine wa_iload_n fx 3 dL_law_948 rfl ?_
                                                          refine wa_iconst fx (1 : Int32) dL_law_949 (by decide) ?_
                                                          refine wa_iadd fx dL_law_950 ?_
                                                          refine wa_sld fx hX hbl hbA dL_law_951 h (fun h => ?_)
                                                          refine wa_aload_n fx 0 dL_law_952 rfl ?_
                                                          refine wa_iload_n fx 3 dL_law_953 rfl ?_
                                                          refine wa_iconst fx (2 : Int32) dL_law_954 (by decide) ?_
                                                          refine wa_iadd fx dL_law_955 ?_
                                                          refine wa_sld fx hX hbl hbA dL_law_956 h (fun h => ?_)
                                                          refine wa_V (b := bd 0) (rmc := rmh 2) (As := [.int (xs (Int32.toNatClampNeg (x3 + (1 : Int32)))), .int (xs (Int32.toNatClampNeg (x3 + (2 : Int32))))]) (st := [.int z104.1]) (wc := (mo_ws g bd w105.2)) (wr := (wc_ws g ad w105.1)) (wcz := fun z106 => mo_ws g bd z106.2) (w2 := fun z106 => lw_ws g ad bd (w105.1, z106.2)) (o := fun z106 => some (.int z106.1)) (s2 := fun z106 => [.int z106.1, .int z104.1]) (ci := 4) (q0 := 0) fx mm_X4_feed q_25_5 dL_law_957 h (fun _ hz => c_X4_feed hz) rfl rfl ⟨rfl, rfl, Nat.le_of_ble_eq_true rfl, Nat.le_of_ble_eq_true rfl⟩ ⟨Nat.le_of_ble_eq_true rfl, Nat.le_of_ble_eq_true rfl⟩ rfl (List.Perm.refl _) (fun _ => (List.Perm.refl _)) rfl (Nat.le_of_ble_eq_true rfl) (fun _ => rfl) (fun z106 h => ?_)
                                                          refine nm_w (lw_ws g ad bd) h (fun w107 h => ?_)
                                                          refine wa_icmp_eq fx 1345 dL_law_960 (by decide) h (fun h => ?_) (fun h => ?_)
                                                          · refine wa_sub [0, 1, 2, 3] rfl ?_
                                                            exact B1345 (f_L_law_l18 L xs n) ih x3 w107 h
                                                          · refine wa_iconst fx (0 : Int32) dL_law_963 (by decide) ?_
                                                            exact absurd h (by decide)
                                                        · have h := (if_neg c24).symm.trans h
                                                          by_cases c25 : ((xs (Int32.toNatClampNeg x3)) &&& (63 : Int32)) = (25 : Int32)
                                                          · have h := (if_pos c25).symm.trans h
                                                            refine wa_tabI fx 965 (25 : Int) dL_law_33 (by rw [c25] <;> rfl) (by decide) (by decide) (by rfl) (by decide) ?_
                                                            refine wa_aload_n fx 1 dL_law_965 rfl ?_
                                                            refine wa_V (b := ad 0) (rmc := rmh 1) (As := []) (st := []) (wc := (wc_ws g ad w4.1)) (wr := (mo_ws g bd w4.2)) (wcz := fun z108 => wc_ws g ad z108.2) (w2 := fun z108 => lw_ws g ad bd (z108.2, w4.2)) (o := fun z108 => some (.int z108.1)) (s2 := fun z108 => [.int z108.1]) (ci := 3) (q0 := 0) fx mm_X3_wipe q_25_11 dL_law_966 h (fun _ hz => c_X3_wipe hz) rfl rfl ⟨rfl, rfl, Nat.le_of_ble_eq_true rfl, Nat.le_of_ble_eq_true rfl⟩ ⟨Nat.le_of_ble_eq_true rfl, Nat.le_of_ble_eq_true rfl⟩ rfl List.perm_append_comm (fun _ => List.perm_append_comm) rfl (Nat.le_of_ble_eq_true rfl) (fun _ => rfl) (fun z108 h => ?_)
                                                            refine nm_w (lw_ws g ad bd) h (fun w109 h => ?_)
                                                            refine wa_aload_n fx 2 dL_law_969 rfl ?_
                                                            refine wa_V (b := bd 0) (rmc := rmh 1) (As := []) (st := [.int z108.1]) (wc := (mo_ws g bd w109.2)) (wr := (wc_ws g ad w109.1)) (wcz := fun z110 => mo_ws g bd z110.2) (w2 := fun z110 => lw_ws g ad bd (w109.1, z110.2)) (o := fun z110 => some (.int z110.1)) (s2 := fun z110 => [.int z110.1, .int z108.1]) (ci := 4) (q0 := 0) fx mm_X4_wipe q_25_15 dL_law_970 h (fun _ hz => c_X4_wipe hz) rfl rfl ⟨rfl, rfl, Nat.le_of_ble_eq_true rfl, Nat.le_of_ble_eq_true rfl⟩ ⟨Nat.le_of_ble_eq_true rfl, Nat.le_of_ble_eq_true rfl⟩ rfl (List.Perm.refl _) (fun _ => (List.Perm.refl _)) rfl (Nat.le_of_ble_eq_true rfl) (fun _ => rfl) (fun z110 h => ?_)
                                                            refine nm_w (lw_ws g ad bd) h (fun w111 h => ?_)
                                                            refine wa_icmp_eq fx 1345 dL_law_973 (by decide) h (fun h => ?_) (fun h => ?_)
                                                            · refine wa_sub [0, 1, 2, 3] rfl ?_
                                                              exact B1345 (f_L_law_l18 L xs n) ih x3 w111 h
                                                            · refine wa_iconst fx (0 : Int32) dL_law_976 (by decide) ?_
                                                              exact absurd h (by decide)
                                                          · have h := (if_neg c25).symm.trans h
                                                            by_cases c26 : ((xs (Int32.toNatClampNeg x3)) &&& (63 : Int32)) = (26 : Int32)
                                                            · have h := (if_pos c26).symm.trans h
                                                              refine wa_tabI fx 978 (26 : Int) dL_law_33 (by rw [c26] <;> rfl) (by decide) (by decide) (by rfl) (by decide) ?_
                                                              refine wa_aload_n fx 1 dL_law_978 rfl ?_
                                                              refine wa_V (b := ad 0) (rmc := rmh 11) (As := []) (st := []) (wc := (wc_ws g ad w4.1)) (wr := (mo_ws g bd w4.2)) (wcz := fun z112 => wc_ws g ad z112.2) (w2 := fun z112 => lw_ws g ad bd (z112.2, w4.2)) (o := fun z112 => some (.int z112.1)) (s2 := fun z112 => [.int z112.1]) (ci := 3) (q0 := 0) fx mm_X3_room q_25_19 dL_law_979 h (fun _ hz => c_X3_room hz) rfl rfl ⟨rfl, rfl, Nat.le_of_ble_eq_true rfl, Nat.le_of_ble_eq_true rfl⟩ ⟨Nat.le_of_ble_eq_true rfl, Nat.le_of_ble_eq_true rfl⟩ rfl List.perm_append_comm (fun _ => List.perm_append_comm) rfl (Nat.le_of_ble_eq_true rfl) (fun _ => rfl) (fun z112 h => ?_)
                                                              refine nm_w (lw_ws g ad bd) h (fun w113 h => ?_)
                                                              refine wa_aload_n fx 2 dL_law_982 rfl ?_
                                                              refine wa_V (b := bd 0) (rmc := rmh 9) (As := []) (st := [.int z112.1]) (wc := (mo_ws g bd w113.2)) (wr := (wc_ws g ad w113.1)) (wcz := fun z114 => mo_ws g bd z114.2) (w2 := fun z114 => lw_ws g ad bd (w113.1, z114.2)) (o := fun z114 => some (.int z114.1)) (s2 := fun z114 => [.int z114.1, .int z112.1]) (ci := 4) (q0 := 0) fx mm_X4_room q_30_18 dL_law_983 h (fun _ hz => c_X4_room hz) rfl rfl ⟨rfl, rfl, Nat.le_of_ble_eq_true rfl, Nat.le_of_ble_eq_true rfl⟩ ⟨Nat.le_of_ble_eq_true rfl, Nat.le_of_ble_eq_true rfl⟩ rfl (List.Perm.refl _) (fun _ => (List.Perm.refl _)) rfl (Nat.le_of_ble_eq_true rfl) (fun _ => rfl) (fun z114 h => ?_)
                                                              refine nm_w (lw_ws g ad bd) h (fun w115 h => ?_)
                                                              refine wa_icmp_eq fx 1345 dL_law_986 (by decide) h (fun h => ?_) (fun h => ?_)
                                                              · refine wa_sub [0, 1, 2, 3] rfl ?_
                                                                exact B1345 (f_L_law_l18 L xs n) ih x3 w115 h
                                                              · refine wa_iconst fx (0 : Int32) dL_law_989 (by decide) ?_
                                                                exact absurd h (by decide)
                                                            · have h := (if_neg c26).symm.trans h
                                                              by_cases c27 : ((xs (Int32.toNatClampNeg x3)) &&& (63 : Int32)) = (27 : Int32)
                                                              · have h := (if_pos c27).symm.trans h
                                                                refine wa_tabI fx 991 (27 : Int) dL_law_33 (by rw [c27] <;> rfl) (by decide) (by decide) (by rfl) (by decide) ?_
                                                                refine wa_aload_n fx 1 dL_law_991 rfl ?_
                                                                refine wa_aload_n fx 0 dL_law_992 rfl ?_
                                                                refine wa_iload_n fx 3 dL_law_993 rfl ?_
                                                                refine wa_iconst fx (1 : Int32) dL_law_994 (by decide) ?_
                                                                refine wa_iadd fx dL_law_995 ?_
                                                                refine wa_sld fx hX hbl hbA dL_law_996 h (fun h => ?_)
                                                                refine wa_aload_n fx 0 dL_law_997 rfl ?_
                                                                refine wa_iload_n fx 3 dL_law_998 rfl ?_
                                                                refine wa_iconst fx (2 : Int32) dL_law_999 (by decide) ?_
                                                                refine wa_iadd fx dL_law_1000 ?_
                                                                refine wa_sld fx hX hbl hbA dL_law_1001 h (fun h => ?_)
                                                                refine wa_aload_n fx 0 dL_law_1002 rfl ?_
                                                                refine wa_iload_n fx 3 dL_law_1003 rfl ?_
                                                                refine wa_iconst fx (3 : Int32) dL_law_1004 (by decide) ?_
                                                                refine wa_iadd fx dL_law_1005 ?_
                                                                refine wa_sld fx hX hbl hbA dL_law_1006 h (fun h => ?_)
                                                                refine wa_V (b := ad 0) (rmc := rmh 3) (As := [.int (xs (Int32.toNatClampNeg (x3 + (1 : Int32)))), .int (xs (Int32.toNatClampNeg (x3 + (2 : Int32)))), .int (xs (Int32.toNatClampNeg (x3 + (3 : Int32))))]) (st := []) (wc := (wc_ws g ad w4.1)) (wr := (mo_ws g bd w4.2)) (wcz := fun z116 => wc_ws g ad z116.2) (w2 := fun z116 => lw_ws g ad bd (z116.2, w4.2)) (o := fun z116 => some (.int z116.1)) (s2 := fun z116 => [.int z116.1]) (ci := 3) (q0 := 0) fx mm_X3_sheet q_34_8 dL_law_1007 h (fun _ hz => c_X3_sheet hz) rfl rfl ⟨rfl, rfl, Nat.le_of_ble_eq_true rfl, Nat.le_of_ble_eq_true rfl⟩ ⟨Nat.le_of_ble_eq_true rfl, Nat.le_of_ble_eq_true rfl⟩ rfl List.perm_append_comm (fun _ => List.perm_append_comm) rfl (Nat.le_of_ble_eq_true rfl) (fun _ => rfl) (fun z116 h => ?_)
                                                                refine nm_w (lw_ws g ad bd) h (fun w117 h => ?_)
                                                                refine wa_aload_n fx 2 dL_law_1010 rfl ?_
                                                                refine wa_aload_n fx 0 dL_law_1011 rfl ?_
                                                                refine wa_iload_n fx 3 dL_law_1012 rfl ?_
                                                                refine wa_iconst fx (1 : Int32) dL_law_1013 (by decide) ?_
                                                                refine wa_iadd fx dL_law_1014 ?_
                                                                refine wa_sld fx hX hbl hbA dL_law_1015 h (fun h => ?_)
                                                                refine wa_aload_n fx 0 dL_law_1016 rfl ?_
                                                                refine wa_iload_n fx 3 dL_law_1017 rfl ?_
                                                                refine wa_iconst fx (2 : Int32) dL_law_1018 (by decide) ?_
                                                                refine wa_iadd fx dL_law_1019 ?_
                                                                refine wa_sld fx hX hbl hbA dL_law_1020 h (fun h => ?_)
                                                                refine wa_aload_n fx 0 dL_law_1021 rfl ?_
                                                                refine wa_iload_n fx 3 dL_law_1022 rfl ?_
                                                                refine wa_iconst fx (3 : Int32) dL_law_1023 (by decide) ?_
                                                                refine wa_iadd fx dL_law_1024 ?_
                                                                refine wa_sld fx hX hbl hbA dL_law_1025 h (fun h => ?_)
                                                                refine wa_V (b := bd 0) (rmc := rmh 3) (As := [.int (xs (Int32.toNatClampNeg (x3 + (1 : Int32)))), .int (xs (Int32.toNatClampNeg (x3 + (2 : Int32)))), .int (xs (Int32.toNatClampNeg (x3 + (3 : Int32))))]) (st := [.int z116.1]) (wc := (mo_ws g bd w117.2)) (wr := (wc_ws g ad w117.1)) (wcz := fun z118 => mo_ws g bd z118.2) (w2 := fun z118 => lw_ws g ad bd (w117.1, z118.2)) (o := fun z118 => some (.int z118.1)) (s2 := fun z118 => [.int z118.1, .int z116.1]) (ci := 4) (q0 := 0) fx mm_X4_sheet q_35_0 dL_law_1026 h (fun _ hz => c_X4_sheet hz) rfl rfl ⟨rfl, rfl, Nat.le_of_ble_eq_true rfl, Nat.le_of_ble_eq_true rfl⟩ ⟨Nat.le_of_ble_eq_true rfl, Nat.le_of_ble_eq_true rfl⟩ rfl (List.Perm.refl _) (fun _ => (List.Perm.refl _)) rfl (Nat.le_of_ble_eq_true rfl) (fun _ => rfl) (fun z118 h => ?_)
                                                                refine nm_w (lw_ws g ad bd) h (fun w119 h => ?_)
                                                                refine wa_icmp_eq fx 1345 dL_law_1029 (by decide) h (fun h => ?_) (fun h => ?_)
                                                                · refine wa_sub [0, 1, 2, 3] rfl ?_
                                                                  exact B1345 (f_L_law_l18 L xs n) ih x3 w119 h
                                                                · refine wa_iconst fx (0 : Int32) dL_law_1032 (by decide) ?_
                                                                  exact absurd h (by decide)
                                                              · have h := (if_neg c27).symm.trans h
                                                                by_cases c28 : ((xs (Int32.toNatClampNeg x3)) &&& (63 : Int32)) = (28 : Int32)
                                                                · have h := (if_pos c28).symm.trans h
                                                                  refine wa_tabI fx 1034 (28 : Int) dL_law_33 (by rw [c28] <;> rfl) (by decide) (by decide) (by rfl) (by decide) ?_
                                                                  refine wa_aload_n fx 1 dL_law_1034 rfl ?_
                                                                  refine wa_aload_n fx 0 dL_law_1035 rfl ?_
                                                                  refine wa_iload_n fx 3 dL_law_1036 rfl ?_
                                                                  refine wa_iconst fx (1 : Int32) dL_law_1037 (by decide) ?_
                                                                  refine wa_iadd fx dL_law_1038 ?_
                                                                  refine wa_sld fx hX hbl hbA dL_law_1039 h (fun h => ?_)
                                                                  refine wa_aload_n fx 0 dL_law_1040 rfl ?_
                                                                  refine wa_iload_n fx 3 dL_law_1041 rfl ?_
                                                                  refine wa_iconst fx (2 : Int32) dL_law_1042 (by decide) ?_
                                                                  refine wa_iadd fx dL_law_1043 ?_
                                                                  refine wa_sld fx hX hbl hbA dL_law_1044 h (fun h => ?_)
                                                                  refine wa_aload_n fx 0 dL_law_1045 rfl ?_
                                                                  refine wa_iload_n fx 3 dL_law_1046 rfl ?_
                                                                  refine wa_iconst fx (3 : Int32) dL_law_1047 (by decide) ?_
                                                                  refine wa_iadd fx dL_law_1048 ?_
                                                                  refine wa_sld fx hX hbl hbA dL_law_1049 h (fun h => ?_)
                                                                  refine wa_i2l fx dL_law_1050 ?_
                                                                  refine wa_bipush fx (32 : Int32) dL_law_1051 (by decide) ?_
                                                                  refine wa_lshl fx dL_law_1053 ?_
                                                                  refine wa_aload_n fx 0 dL_law_1054 rfl ?_
                                                                  refine wa_iload_n fx 3 dL_law_1055 rfl ?_
                                                                  refine wa_iconst fx (4 : Int32) dL_law_1056 (by decide) ?_
                                                                  refine wa_iadd fx dL_law_1057 ?_
                                                                  refine wa_sld fx hX hbl hbA dL_law_1058 h (fun h => ?_)
                                                                  refine wa_i2l fx dL_law_1059 ?_
                                                                  refine wa_ldc2 fx q_1_6 dL_law_1060 ?_
                                                                  refine wa_land fx dL_law_1063 ?_
                                                                  refine wa_lor fx dL_law_1064 ?_
                                                                  refine wa_V (b := ad 0) (rmc := rmh 3) (As := [.int (xs (Int32.toNatClampNeg (x3 + (1 : Int32)))), .int (xs (Int32.toNatClampNeg (x3 + (2 : Int32)))), .long (((Int32.toInt64 (xs (Int32.toNatClampNeg (x3 + (3 : Int32))))) <<< (Int32.toInt64 (32 : Int32) &&& 63)) ||| ((Int32.toInt64 (xs (Int32.toNatClampNeg (x3 + (4 : Int32))))) &&& (4294967295 : Int64)))]) (st := []) (wc := (wc_ws g ad w4.1)) (wr := (mo_ws g bd w4.2)) (wcz := fun z120 => wc_ws g ad z120.2) (w2 := fun z120 => lw_ws g ad bd (z120.2, w4.2)) (o := fun z120 => some (.long z120.1)) (s2 := fun z120 => [.long z120.1]) (ci := 3) (q0 := 0) fx mm_X3_write q_35_8 dL_law_1065 h (fun _ hz => c_X3_write hz) rfl rfl ⟨rfl, rfl, Nat.le_of_ble_eq_true rfl, Nat.le_of_ble_eq_true rfl⟩ ⟨Nat.le_of_ble_eq_true rfl, Nat.le_of_ble_eq_true rfl⟩ rfl List.perm_append_comm (fun _ => List.perm_append_comm) rfl (Nat.le_of_ble_eq_true rfl) (fun _ => rfl) (fun z120 h => ?_)
                                                                  refine nm_w (lw_ws g ad bd) h (fun w121 h => ?_)
                                                                  refine wa_aload_n fx 2 dL_law_1068 rfl ?_
                                                                  refine wa_aload_n fx 0 dL_law_1069 rfl ?_
                                                                  refine wa_iload_n fx 3 dL_law_1070 rfl ?_
                                                                  refine wa_iconst fx (1 : Int32) dL_law_1071 (by decide) ?_
                                                                  refine wa_iadd fx dL_law_1072 ?_
                                                                  refine wa_sld fx hX hbl hbA dL_law_1073 h (fun h => ?_)
                                                                  refine wa_aload_n fx 0 dL_law_1074 rfl ?_
                                                                  refine wa_iload_n fx 3 dL_law_1075 rfl ?_
                                                                  refine wa_iconst fx (2 : Int32) dL_law_1076 (by decide) ?_
                                                                  refine wa_iadd fx dL_law_1077 ?_
                                                                  refine wa_sld fx hX hbl hbA dL_law_1078 h (fun h => ?_)
                                                                  refine wa_aload_n fx 0 dL_law_1079 rfl ?_
                                                                  refine wa_iload_n fx 3 dL_law_1080 rfl ?_
                                                                  refine wa_iconst fx (3 : Int32) dL_law_1081 (by decide) ?_
                                                                  refine wa_iadd fx dL_law_1082 ?_
                                                                  refine wa_sld fx hX hbl hbA dL_law_1083 h (fun h => ?_)
                                                                  refine wa_i2l fx dL_law_1084 ?_
                                                                  refine wa_bipush fx (32 : Int32) dL_law_1085 (by decide) ?_
                                                                  refine wa_lshl fx dL_law_1087 ?_
                                                                  refine wa_aload_n fx 0 dL_law_1088 rfl ?_
                                                                  refine wa_iload_n fx 3 dL_law_1089 rfl ?_
                                                                  refine wa_iconst fx (4 : Int32) dL_law_1090 (by decide) ?_
                                                                  refine wa_iadd fx dL_law_1091 ?_
                                                                  refine wa_sld fx hX hbl hbA dL_law_1092 h (fun h => ?_)
                                                                  refine wa_i2l fx dL_law_1093 ?_
                                                                  refine wa_ldc2 fx q_1_6 dL_law_1094 ?_
                                                                  refine wa_land fx dL_law_1097 ?_
                                                                  refine wa_lor fx dL_law_1098 ?_
                                                                  refine wa_V (b := bd 0) (rmc := rmh 4) (As := [.int (xs (Int32.toNatClampNeg (x3 + (1 : Int32)))), .int (xs (Int32.toNatClampNeg (x3 + (2 : Int32)))), .long (((Int32.toInt64 (xs (Int32.toNatClampNeg (x3 + (3 : Int32))))) <<< (Int32.toInt64 (32 : Int32) &&& 63)) ||| ((Int32.toInt64 (xs (Int32.toNatClampNeg (x3 + (4 : Int32))))) &&& (4294967295 : Int64)))]) (st := [.long z120.1]) (wc := (mo_ws g bd w121.2)) (wr := (wc_ws g ad w121.1)) (wcz := fun z122 => mo_ws g bd z122.2) (w2 := fun z122 => lw_ws g ad bd (w121.1, z122.2)) (o := fun z122 => some (.long z122.1)) (s2 := fun z122 => [.long z122.1, .long z120.1]) (ci := 4) (q0 := 0) fx mm_X4_write q_35_22 dL_law_1099 h (fun _ hz => c_X4_write hz) rfl rfl ⟨rfl, rfl, Nat.le_of_ble_eq_true rfl, Nat.le_of_ble_eq_true rfl⟩ ⟨Nat.le_of_ble_eq_true rfl, Nat.le_of_ble_eq_true rfl⟩ rfl (List.Perm.refl _) (fun _ => (List.Perm.refl _)) rfl (Nat.le_of_ble_eq_true rfl) (fun _ => rfl) (fun z122 h => ?_)
                                                                  refine nm_w (lw_ws g ad bd) h (fun w123 h => ?_)
                                                                  refine wa_lcmp fx dL_law_1102 ?_
                                                                  refine wa_if_eq fx 1345 dL_law_1103 (by decide) h (fun h => ?_) (fun h => ?_)
                                                                  · refine wa_sub [0, 1, 2, 3] rfl ?_
                                                                    exact B1345 (f_L_law_l18 L xs n) ih x3 w123 h
                                                                  · refine wa_iconst fx (0 : Int32) dL_law_1106 (by decide) ?_
                                                                    exact absurd h (by decide)
                                                                · have h := (if_neg c28).symm.trans h
                                                                  by_cases c29 : ((xs (Int32.toNatClampNeg x3)) &&& (63 : Int32)) = (29 : Int32)
                                                                  · have h := (if_pos c29).symm.trans h
                                                                    refine wa_tabI fx 1108 (29 : Int) dL_law_33 (by rw [c29] <;> rfl) (by decide) (by decide) (by rfl) (by decide) ?_
                                                                    refine wa_aload_n fx 1 dL_law_1108 rfl ?_
                                                                    refine wa_aload_n fx 0 dL_law_1109 rfl ?_
                                                                    refine wa_iload_n fx 3 dL_law_1110 rfl ?_
                                                                    refine wa_iconst fx (1 : Int32) dL_law_1111 (by decide) ?_
                                                                    refine wa_iadd fx dL_law_1112 ?_
                                                                    refine wa_sld fx hX hbl hbA dL_law_1113 h (fun h => ?_)
                                                                    refine wa_aload_n fx 0 dL_law_1114 rfl ?_
                                                                    refine wa_iload_n fx 3 dL_law_1115 rfl ?_
                                                                    refine wa_iconst fx (2 : Int32) dL_law_1116 (by decide) ?_
                                                                    refine wa_iadd fx dL_law_1117 ?_
                                                                    refine wa_sld fx hX hbl hbA dL_law_1118 h (fun h => ?_)
                                                                    refine wa_aload_n fx 0 dL_law_1119 rfl ?_
                                                                    refine wa_iload_n fx 3 dL_law_1120 rfl ?_
                                                                    refine wa_iconst fx (3 : Int32) dL_law_1121 (by decide) ?_
                                                                    refine wa_iadd fx dL_law_1122 ?_
                                                                    refine wa_sld fx hX hbl hbA dL_law_1123 h (fun h => ?_)
                                                                    refine wa_aload_n fx 0 dL_law_1124 rfl ?_
                                                                    refine wa_iload_n fx 3 dL_law_1125 rfl ?_
                                                                    refine wa_iconst fx (4 : Int32) dL_law_1126 (by decide) ?_
                                                                    refine wa_iadd fx dL_law_1127 ?_
                                                                    refine wa_sld fx hX hbl hbA dL_law_1128 h (fun h => ?_)
                                                                    refine wa_aload_n fx 0 dL_law_1129 rfl ?_
                                                                    refine wa_iload_n fx 3 dL_law_1130 rfl ?_
                                                                    refine wa_iconst fx (5 : Int32) dL_law_1131 (by decide) ?_
                                                                    refine wa_iadd fx dL_law_1132 ?_
                                                                    refine wa_sld fx hX hbl hbA dL_law_1133 h (fun h => ?_)
                                                                    refine wa_V (b := ad 0) (rmc := rmh 3) (As := [.int (xs (Int32.toNatClampNeg (x3 + (1 : Int32)))), .int (xs (Int32.toNatClampNeg (x3 + (2 : Int32)))), .int (xs (Int32.toNatClampNeg (x3 + (3 : Int32)))), .int (xs (Int32.toNatClampNeg (x3 + (4 : Int32)))), .int (xs (Int32.toNatClampNeg (x3 + (5 : Int32))))]) (st := []) (wc := (wc_ws g ad w4.1)) (wr := (mo_ws g bd w4.2)) (wcz := fun z124 => wc_ws g ad z124.2) (w2 := fun z124 => lw_ws g ad bd (z124.2, w4.2)) (o := fun z124 => some (.int z124.1)) (s2 := fun z124 => [.int z124.1]) (ci := 3) (q0 := 0) fx mm_X3_copy q_36_10 dL_law_1134 h (fun _ hz => c_X3_copy hz) rfl rfl ⟨rfl, rfl, Nat.le_of_ble_eq_true rfl, Nat.le_of_ble_eq_true rfl⟩ ⟨Nat.le_of_ble_eq_true rfl, Nat.le_of_ble_eq_true rfl⟩ rfl List.perm_append_comm (fun _ => List.perm_append_comm) rfl (Nat.le_of_ble_eq_true rfl) (fun _ => rfl) (fun z124 h => ?_)
                                                                    refine nm_w (lw_ws g ad bd) h (fun w125 h => ?_)
                                                                    refine wa_aload_n fx 2 dL_law_1137 rfl ?_
                                                                    refine wa_aload_n fx 0 dL_law_1138 rfl ?_
                                                                    refine wa_iload_n fx 3 dL_law_1139 rfl ?_
                                                                    refine wa_iconst fx (1 : Int32) dL_law_1140 (by decide) ?_
                                                                    refine wa_iadd fx dL_law_1141 ?_
                                                                    refine wa_sld fx hX hbl hbA dL_law_1142 h (fun h => ?_)
                                                                    refine wa_aload_n fx 0 dL_law_1143 rfl ?_
                                                                    refine wa_iload_n fx 3 dL_law_1144 rfl ?_
                                                                    refine wa_iconst fx (2 : Int32) dL_law_1145 (by decide) ?_
                                                                    refine wa_iadd fx dL_law_1146 ?_
                                                                    refine wa_sld fx hX hbl hbA dL_law_1147 h (fun h => ?_)
                                                                    refine wa_aload_n fx 0 dL_law_1148 rfl ?_
                                                                    refine wa_iload_n fx 3 dL_law_1149 rfl ?_
                                                                    refine wa_iconst fx (3 : Int32) dL_law_1150 (by decide) ?_
                                                                    refine wa_iadd fx dL_law_1151 ?_
                                                                    refine wa_sld fx hX hbl hbA dL_law_1152 h (fun h => ?_)
                                                                    refine wa_aload_n fx 0 dL_law_1153 rfl ?_
                                                                    refine wa_iload_n fx 3 dL_law_1154 rfl ?_
                                                                    refine wa_iconst fx (4 : Int32) dL_law_1155 (by decide) ?_
                                                                    refine wa_iadd fx dL_law_1156 ?_
                                                                    refine wa_sld fx hX hbl hbA dL_law_1157 h (fun h => ?_)
                                                                    refine wa_aload_n fx 0 dL_law_1158 rfl ?_
                                                                    refine wa_iload_n fx 3 dL_law_1159 rfl ?_
                                                                    refine wa_iconst fx (5 : Int32) dL_law_1160 (by decide) ?_
                                                                    refine wa_iadd fx dL_law_1161 ?_
                                                                    refine wa_sld fx hX hbl hbA dL_law_1162 h (fun h => ?_)
                                                                    refine wa_V (b := bd 0) (rmc := rmh 3) (As := [.int (xs (Int32.toNatClampNeg (x3 + (1 : Int32)))), .int (xs (Int32.toNatClampNeg (x3 + (2 : Int32)))), .int (xs (Int32.toNatClampNeg (x3 + (3 : Int32)))), .int (xs (Int32.toNatClampNeg (x3 + (4 : Int32)))), .int (xs (Int32.toNatClampNeg (x3 + (5 : Int32))))]) (st := [.int z124.1]) (wc := (mo_ws g bd w125.2)) (wr := (wc_ws g ad w125.1)) (wcz := fun z126 => mo_ws g bd z126.2) (w2 := fun z126 => lw_ws g ad bd (w125.1, z126.2)) (o := fun z126 => some (.int z126.1)) (s2 := fun z126 => [.int z126.1, .int z124.1]) (ci := 4) (q0 := 0) fx mm_X4_copy q_36_20 dL_law_1163 h (fun _ hz => c_X4_copy hz) rfl rfl ⟨rfl, rfl, Nat.le_of_ble_eq_true rfl, Nat.le_of_ble_eq_true rfl⟩ ⟨Nat.le_of_ble_eq_true rfl, Nat.le_of_ble_eq_true rfl⟩ rfl (List.Perm.refl _) (fun _ => (List.Perm.refl _)) rfl (Nat.le_of_ble_eq_true rfl) (fun _ => rfl) (fun z126 h => ?_)
                                                                    refine nm_w (lw_ws g ad bd) h (fun w127 h => ?_)
                                                                    refine wa_icmp_eq fx 1345 dL_law_1166 (by decide) h (fun h => ?_) (fun h => ?_)
                                                                    · refine wa_sub [0, 1, 2, 3] rfl ?_
                                                                      exact B1345 (f_L_law_l18 L xs n) ih x3 w127 h
                                                                    · refine wa_iconst fx (0 : Int32) dL_law_1169 (by decide) ?_
                                                                      exact absurd h (by decide)
                                                                  · have h := (if_neg c29).symm.trans h
                                                                    by_cases c30 : ((xs (Int32.toNatClampNeg x3)) &&& (63 : Int32)) = (30 : Int32)
                                                                    · have h := (if_pos c30).symm.trans h
                                                                      refine wa_tabI fx 1171 (30 : Int) dL_law_33 (by rw [c30] <;> rfl) (by decide) (by decide) (by rfl) (by decide) ?_
                                                                      refine wa_aload_n fx 1 dL_law_1171 rfl ?_
                                                                      refine wa_aload_n fx 0 dL_law_1172 rfl ?_
                                                                      refine wa_iload_n fx 3 dL_law_1173 rfl ?_
                                                                      refine wa_iconst fx (1 : Int32) dL_law_1174 (by decide) ?_
                                                                      refine wa_iadd fx dL_law_1175 ?_
                                                                      refine wa_sld fx hX hbl hbA dL_law_1176 h (fun h => ?_)
                                                                      refine wa_V (b := ad 0) (rmc := rmh 3) (As := [.int (xs (Int32.toNatClampNeg (x3 + (1 : Int32))))]) (st := []) (wc := (wc_ws g ad w4.1)) (wr := (mo_ws g bd w4.2)) (wcz := fun z128 => wc_ws g ad z128.2) (w2 := fun z128 => lw_ws g ad bd (z128.2, w4.2)) (o := fun z128 => some (.int z128.1)) (s2 := fun z128 => [.int z128.1]) (ci := 3) (q0 := 0) fx mm_X3_lays q_37_0 dL_law_1177 h (fun _ hz => c_X3_lays hz) rfl rfl ⟨rfl, rfl, Nat.le_of_ble_eq_true rfl, Nat.le_of_ble_eq_true rfl⟩ ⟨Nat.le_of_ble_eq_true rfl, Nat.le_of_ble_eq_true rfl⟩ rfl List.perm_append_comm (fun _ => List.perm_append_comm) rfl (Nat.le_of_ble_eq_true rfl) (fun _ => rfl) (fun z128 h => ?_)
                                                                      refine nm_w (lw_ws g ad bd) h (fun w129 h => ?_)
                                                                      refine wa_aload_n fx 2 dL_law_1180 rfl ?_
                                                                      refine wa_aload_n fx 0 dL_law_1181 rfl ?_
                                                                      refine wa_iload_n fx 3 dL_law_1182 rfl ?_
                                                                      refine wa_iconst fx (1 : Int32) dL_law_1183 (by decide) ?_
                                                                      refine wa_iadd fx dL_law_1184 ?_
                                                                      refine wa_sld fx hX hbl hbA dL_law_1185 h (fun h => ?_)
                                                                      refine wa_V (b := bd 0) (rmc := rmh 4) (As := [.int (xs (Int32.toNatClampNeg (x3 + (1 : Int32))))]) (st := [.int z128.1]) (wc := (mo_ws g bd w129.2)) (wr := (wc_ws g ad w129.1)) (wcz := fun z130 => mo_ws g bd z130.2) (w2 := fun z130 => lw_ws g ad bd (w129.1, z130.2)) (o := fun z130 => some (.int z130.1)) (s2 := fun z130 => [.int z130.1, .int z128.1]) (ci := 4) (q0 := 0) fx mm_X4_lays q_37_5 dL_law_1186 h (fun _ hz => c_X4_lays hz) rfl rfl ⟨rfl, rfl, Nat.le_of_ble_eq_true rfl, Nat.le_of_ble_eq_true rfl⟩ ⟨Nat.le_of_ble_eq_true rfl, Nat.le_of_ble_eq_true rfl⟩ rfl (List.Perm.refl _) (fun _ => (List.Perm.refl _)) rfl (Nat.le_of_ble_eq_true rfl) (fun _ => rfl) (fun z130 h => ?_)
                                                                      refine nm_w (lw_ws g ad bd) h (fun w131 h => ?_)
                                                                      refine wa_icmp_eq fx 1345 dL_law_1189 (by decide) h (fun h => ?_) (fun h => ?_)
                                                                      · refine wa_sub [0, 1, 2, 3] rfl ?_
                                                                        exact B1345 (f_L_law_l18 L xs n) ih x3 w131 h
                                                                      · refine wa_iconst fx (0 : Int32) dL_law_1192 (by decide) ?_
                                                                        exact absurd h (by decide)
                                                                    · have h := (if_neg c30).symm.trans h
                                                                      by_cases c31 : ((xs (Int32.toNatClampNeg x3)) &&& (63 : Int32)) = (31 : Int32)
                                                                      · have h := (if_pos c31).symm.trans h
                                                                        refine wa_tabI fx 1194 (31 : Int) dL_law_33 (by rw [c31] <;> rfl) (by decide) (by decide) (by rfl) (by decide) ?_
                                                                        refine wa_aload_n fx 1 dL_law_1194 rfl ?_
                                                                        refine wa_aload_n fx 0 dL_law_1195 rfl ?_
                                                                        refine wa_iload_n fx 3 dL_law_1196 rfl ?_
                                                                        refine wa_iconst fx (1 : Int32) dL_law_1197 (by decide) ?_
                                                                        refine wa_iadd fx dL_law_1198 ?_
                                                                        refine wa_sld fx hX hbl hbA dL_law_1199 h (fun h => ?_)
                                                                        refine wa_aload_n fx 0 dL_law_1200 rfl ?_
                                                                        refine wa_iload_n fx 3 dL_law_1201 rfl ?_
                                                                        refine wa_iconst fx (2 : Int32) dL_law_1202 (by decide) ?_
                                                                        refine wa_iadd fx dL_law_1203 ?_
                                                                        refine wa_sld fx hX hbl hbA dL_law_1204 h (fun h => ?_)
                                                                        refine wa_V (b := ad 0) (rmc := rmh 6) (As := [.int (xs (Int32.toNatClampNeg (x3 + (1 : Int32)))), .int (xs (Int32.toNatClampNeg (x3 + (2 : Int32))))]) (st := []) (wc := (wc_ws g ad w4.1)) (wr := (mo_ws g bd w4.2)) (wcz := fun z132 => wc_ws g ad z132.2) (w2 := fun z132 => lw_ws g ad bd (z132.2, w4.2)) (o := fun z132 => some (.int z132.1)) (s2 := fun z132 => [.int z132.1]) (ci := 3) (q0 := 0) fx mm_X3_book q_37_9 dL_law_1205 h (fun _ hz => c_X3_book hz) rfl rfl ⟨rfl, rfl, Nat.le_of_ble_eq_true rfl, Nat.le_of_ble_eq_true rfl⟩ ⟨Nat.le_of_ble_eq_true rfl, Nat.le_of_ble_eq_true rfl⟩ rfl List.perm_append_comm (fun _ => List.perm_append_comm) rfl (Nat.le_of_ble_eq_true rfl) (fun _ => rfl) (fun z132 h => ?_)
                                                                        refine nm_w (lw_ws g ad bd) h (fun w133 h => ?_)
                                                                        refine wa_aload_n fx 2 dL_law_1208 rfl ?_
                                                                        refine wa_aload_n fx 0 dL_law_1209 rfl ?_
                                                                        refine wa_iload_n fx 3 dL_law_1210 rfl ?_
                                                                        refine wa_iconst fx (1 : Int32) dL_law_1211 (by decide) ?_
                                                                        refine wa_iadd fx dL_law_1212 ?_
                                                                        refine wa_sld fx hX hbl hbA dL_law_1213 h (fun h => ?_)
                                                                        refine wa_aload_n fx 0 dL_law_1214 rfl ?_
                                                                        refine wa_iload_n fx 3 dL_law_1215 rfl ?_
                                                                        refine wa_iconst fx (2 : Int32) dL_law_1216 (by decide) ?_
                                                                        refine wa_iadd fx dL_law_1217 ?_
                                                                        refine wa_sld fx hX hbl hbA dL_law_1218 h (fun h => ?_)
                                                                        refine wa_V (b := bd 0) (rmc := rmh 9) (As := [.int (xs (Int32.toNatClampNeg (x3 + (1 : Int32)))), .int (xs (Int32.toNatClampNeg (x3 + (2 : Int32))))]) (st := [.int z132.1]) (wc := (mo_ws g bd w133.2)) (wr := (wc_ws g ad w133.1)) (wcz := fun z134 => mo_ws g bd z134.2) (w2 := fun z134 => lw_ws g ad bd (w133.1, z134.2)) (o := fun z134 => some (.int z134.1)) (s2 := fun z134 => [.int z134.1, .int z132.1]) (ci := 4) (q0 := 0) fx mm_X4_book q_37_13 dL_law_1219 h (fun _ hz => c_X4_book hz) rfl rfl ⟨rfl, rfl, Nat.le_of_ble_eq_true rfl, Nat.le_of_ble_eq_true rfl⟩ ⟨Nat.le_of_ble_eq_true rfl, Nat.le_of_ble_eq_true rfl⟩ rfl (List.Perm.refl _) (fun _ => (List.Perm.refl _)) rfl (Nat.le_of_ble_eq_true rfl) (fun _ => rfl) (fun z134 h => ?_)
                                                                        refine nm_w (lw_ws g ad bd) h (fun w135 h => ?_)
                                                                        refine wa_icmp_eq fx 1345 dL_law_1222 (by decide) h (fun h => ?_) (fun h => ?_)
                                                                        · refine wa_sub [0, 1, 2, 3] rfl ?_
                                                                          exact B1345 (f_L_law_l18 L xs n) ih x3 w135 h
                                                                        · refine wa_iconst fx (0 : Int32) dL_law_1225 (by decide) ?_
                                                                          exact absurd h (by decide)
                                                                      · have h := (if_neg c31).symm.trans h
                                                                        by_cases c32 : ((xs (Int32.toNatClampNeg x3)) &&& (63 : Int32)) = (32 : Int32)
                                                                        · have h := (if_pos c32).symm.trans h
                                                                          refine wa_tabI fx 1227 (32 : Int) dL_law_33 (by rw [c32] <;> rfl) (by decide) (by decide) (by rfl) (by decide) ?_
                                                                          refine wa_aload_n fx 1 dL_law_1227 rfl ?_
                                                                          refine wa_aload_n fx 0 dL_law_1228 rfl ?_
                                                                          refine wa_iload_n fx 3 dL_law_1229 rfl ?_
                                                                          refine wa_iconst fx (1 : Int32) dL_law_1230 (by decide) ?_
                                                                          refine wa_iadd fx dL_law_1231 ?_
                                                                          refine wa_sld fx hX hbl hbA dL_law_1232 h (fun h => ?_)
                                                                          refine wa_aload_n fx 0 dL_law_1233 rfl ?_
                                                                          refine wa_iload_n fx 3 dL_law_1234 rfl ?_
                                                                          refine wa_iconst fx (2 : Int32) dL_law_1235 (by decide) ?_
                                                                          refine wa_iadd fx dL_law_1236 ?_
                                                                          refine wa_sld fx hX hbl hbA dL_law_1237 h (fun h => ?_)
                                                                          refine wa_V (b := ad 0) (rmc := rmh 7) (As := [.int (xs (Int32.toNatClampNeg (x3 + (1 : Int32)))), .int (xs (Int32.toNatClampNeg (x3 + (2 : Int32))))]) (st := []) (wc := (wc_ws g ad w4.1)) (wr := (mo_ws g bd w4.2)) (wcz := fun z136 => wc_ws g ad z136.2) (w2 := fun z136 => lw_ws g ad bd (z136.2, w4.2)) (o := fun z136 => some (.int z136.1)) (s2 := fun z136 => [.int z136.1]) (ci := 3) (q0 := 0) fx mm_X3_read q_37_21 dL_law_1238 h (fun _ hz => c_X3_read hz) rfl rfl ⟨rfl, rfl, Nat.le_of_ble_eq_true rfl, Nat.le_of_ble_eq_true rfl⟩ ⟨Nat.le_of_ble_eq_true rfl, Nat.le_of_ble_eq_true rfl⟩ rfl List.perm_append_comm (fun _ => List.perm_append_comm) rfl (Nat.le_of_ble_eq_true rfl) (fun _ => rfl) (fun z136 h => ?_)
                                                                          refine nm_w (lw_ws g ad bd) h (fun w137 h => ?_)
                                                                          refine wa_aload_n fx 2 dL_law_1241 rfl ?_
                                                                          refine wa_aload_n fx 0 dL_law_1242 rfl ?_
                                                                          refine wa_iload_n fx 3 dL_law_1243 rfl ?_
                                                                          refine wa_iconst fx (1 : Int32) dL_law_1244 (by decide) ?_
                                                                          refine wa_iadd fx dL_law_1245 ?_
                                                                          refine wa_sld fx hX hbl hbA dL_law_1246 h (fun h => ?_)
                                                                          refine wa_aload_n fx 0 dL_law_1247 rfl ?_
                                                                          refine wa_iload_n fx 3 dL_law_1248 rfl ?_
                                                                          refine wa_iconst fx (2 : Int32) dL_law_1249 (by decide) ?_
                                                                          refine wa_iadd fx dL_law_1250 ?_
                                                                          refine wa_sld fx hX hbl hbA dL_law_1251 h (fun h => ?_)
                                                                          refine wa_V (b := bd 0) (rmc := rmh 10) (As := [.int (xs (Int32.toNatClampNeg (x3 + (1 : Int32)))), .int (xs (Int32.toNatClampNeg (x3 + (2 : Int32))))]) (st := [.int z136.1]) (wc := (mo_ws g bd w137.2)) (wr := (wc_ws g ad w137.1)) (wcz := fun z138 => mo_ws g bd z138.2) (w2 := fun z138 => lw_ws g ad bd (w137.1, z138.2)) (o := fun z138 => some (.int z138.1)) (s2 := fun z138 => [.int z138.1, .int z136.1]) (ci := 4) (q0 := 0) fx mm_X4_read q_38_5 dL_law_1252 h (fun _ hz => c_X4_read hz) rfl rfl ⟨rfl, rfl, Nat.le_of_ble_eq_true rfl, Nat.le_of_ble_eq_true rfl⟩ ⟨Nat.le_of_ble_eq_true rfl, Nat.le_of_ble_eq_true rfl⟩ rfl (List.Perm.refl _) (fun _ => (List.Perm.refl _)) rfl (Nat.le_of_ble_eq_true rfl) (fun _ => rfl) (fun z138 h => ?_)
                                                                          refine nm_w (lw_ws g ad bd) h (fun w139 h => ?_)
                                                                          refine wa_icmp_eq fx 1345 dL_law_1255 (by decide) h (fun h => ?_) (fun h => ?_)
                                                                          · refine wa_sub [0, 1, 2, 3] rfl ?_
                                                                            exact B1345 (f_L_law_l18 L xs n) ih x3 w139 h
                                                                          · refine wa_iconst fx (0 : Int32) dL_law_1258 (by decide) ?_
                                                                            exact absurd h (by decide)
                                                                        · have h := (if_neg c32).symm.trans h
                                                                          by_cases c33 : ((xs (Int32.toNatClampNeg x3)) &&& (63 : Int32)) = (33 : Int32)
                                                                          · have h := (if_pos c33).symm.trans h
                                                                            refine wa_tabI fx 1260 (33 : Int) dL_law_33 (by rw [c33] <;> rfl) (by decide) (by decide) (by rfl) (by decide) ?_
                                                                            refine wa_aload_n fx 1 dL_law_1260 rfl ?_
                                                                            refine wa_V (b := ad 0) (rmc := rmh 3) (As := []) (st := []) (wc := (wc_ws g ad w4.1)) (wr := (mo_ws g bd w4.2)) (wcz := fun z140 => wc_ws g ad z140.2) (w2 := fun z140 => lw_ws g ad bd (z140.2, w4.2)) (o := fun z140 => some (.int z140.1)) (s2 := fun z140 => [.int z140.1]) (ci := 3) (q0 := 0) fx mm_X3_image q_38_13 dL_law_1261 h (fun _ hz => c_X3_image hz) rfl rfl ⟨rfl, rfl, Nat.le_of_ble_eq_true rfl, Nat.le_of_ble_eq_true rfl⟩ ⟨Nat.le_of_ble_eq_true rfl, Nat.le_of_ble_eq_true rfl⟩ rfl List.perm_append_comm (fun _ => List.perm_append_comm) rfl (Nat.le_of_ble_eq_true rfl) (fun _ => rfl) (fun z140 h => ?_)
                                                                            refine nm_w (lw_ws g ad bd) h (fun w141 h => ?_)
                                                                            refine wa_aload_n fx 2 dL_law_1264 rfl ?_
                                                                            refine wa_V (b := bd 0) (rmc := rmh 1) (As := []) (st := [.int z140.1]) (wc := (mo_ws g bd w141.2)) (wr := (wc_ws g ad w141.1)) (wcz := fun z142 => mo_ws g bd z142.2) (w2 := fun z142 => lw_ws g ad bd (w141.1, z142.2)) (o := fun z142 => some (.int z142.1)) (s2 := fun z142 => [.int z142.1, .int z140.1]) (ci := 4) (q0 := 0) fx mm_X4_image q_38_17 dL_law_1265 h (fun _ hz => c_X4_image hz) rfl rfl ⟨rfl, rfl, Nat.le_of_ble_eq_true rfl, Nat.le_of_ble_eq_true rfl⟩ ⟨Nat.le_of_ble_eq_true rfl, Nat.le_of_ble_eq_true rfl⟩ rfl (List.Perm.refl _) (fun _ => (List.Perm.refl _)) rfl (Nat.le_of_ble_eq_true rfl) (fun _ => rfl) (fun z142 h => ?_)
                                                                            refine nm_w (lw_ws g ad bd) h (fun w143 h => ?_)
                                                                            refine wa_icmp_eq fx 1345 dL_law_1268 (by decide) h (fun h => ?_) (fun h => ?_)
                                                                            · refine wa_sub [0, 1, 2, 3] rfl ?_
                                                                              exact B1345 (f_L_law_l18 L xs n) ih x3 w143 h
                                                                            · refine wa_iconst fx (0 : Int32) dL_law_1271 (by decide) ?_
                                                                              exact absurd h (by decide)
                                                                          · have h := (if_neg c33).symm.trans h
                                                                            by_cases c34 : ((xs (Int32.toNatClampNeg x3)) &&& (63 : Int32)) = (34 : Int32)
                                                                            · have h := (if_pos c34).symm.trans h
                                                                              refine wa_tabI fx 1273 (34 : Int) dL_law_33 (by rw [c34] <;> rfl) (by decide) (by decide) (by rfl) (by decide) ?_
                                                                              refine wa_aload_n fx 1 dL_law_1273 rfl ?_
                                                                              refine wa_V (b := ad 0) (rmc := rmh 3) (As := []) (st := []) (wc := (wc_ws g ad w4.1)) (wr := (mo_ws g bd w4.2)) (wcz := fun z144 => wc_ws g ad z144.2) (w2 := fun z144 => lw_ws g ad bd (z144.2, w4.2)) (o := fun z144 => some (.int z144.1)) (s2 := fun z144 => [.int z144.1]) (ci := 3) (q0 := 0) fx mm_X3_undo q_38_22 dL_law_1274 h (fun _ hz => c_X3_undo hz) rfl rfl ⟨rfl, rfl, Nat.le_of_ble_eq_true rfl, Nat.le_of_ble_eq_true rfl⟩ ⟨Nat.le_of_ble_eq_true rfl, Nat.le_of_ble_eq_true rfl⟩ rfl List.perm_append_comm (fun _ => List.perm_append_comm) rfl (Nat.le_of_ble_eq_true rfl) (fun _ => rfl) (fun z144 h => ?_)
                                                                              refine nm_w (lw_ws g ad bd) h (fun w145 h => ?_)
                                                                              refine wa_aload_n fx 2 dL_law_1277 rfl ?_
                                                                              refine wa_V (b := bd 0) (rmc := rmh 2) (As := []) (st := [.int z144.1]) (wc := (mo_ws g bd w145.2)) (wr := (wc_ws g ad w145.1)) (wcz := fun z146 => mo_ws g bd z146.2) (w2 := fun z146 => lw_ws g ad bd (w145.1, z146.2)) (o := fun z146 => some (.int z146.1)) (s2 := fun z146 => [.int z146.1, .int z144.1]) (ci := 4) (q0 := 0) fx mm_X4_undo q_39_2 dL_law_1278 h (fun _ hz => c_X4_undo hz) rfl rfl ⟨rfl, rfl, Nat.le_of_ble_eq_true rfl, Nat.le_of_ble_eq_true rfl⟩ ⟨Nat.le_of_ble_eq_true rfl, Nat.le_of_ble_eq_true rfl⟩ rfl (List.Perm.refl _) (fun _ => (List.Perm.refl _)) rfl (Nat.le_of_ble_eq_true rfl) (fun _ => rfl) (fun z146 h => ?_)
                                                                              refine nm_w (lw_ws g ad bd) h (fun w147 h => ?_)
                                                                              refine wa_icmp_eq fx 1345 dL_law_1281 (by decide) h (fun h => ?_) (fun h => ?_)
                                                                              · refine wa_sub [0, 1, 2, 3] rfl ?_
                                                                                exact B1345 (f_L_law_l18 L xs n) ih x3 w147 h
                                                                              · refine wa_iconst fx (0 : Int32) dL_law_1284 (by decide) ?_
                                                                                exact absurd h (by decide)
                                                                            · have h := (if_neg c34).symm.trans h
                                                                              by_cases c35 : ((xs (Int32.toNatClampNeg x3)) &&& (63 : Int32)) = (35 : Int32)
                                                                              · have h := (if_pos c35).symm.trans h
                                                                                refine wa_tabI fx 1286 (35 : Int) dL_law_33 (by rw [c35] <;> rfl) (by decide) (by decide) (by rfl) (by decide) ?_
                                                                                refine wa_aload_n fx 1 dL_law_1286 rfl ?_
                                                                                refine wa_V (b := ad 0) (rmc := rmh 1) (As := []) (st := []) (wc := (wc_ws g ad w4.1)) (wr := (mo_ws g bd w4.2)) (wcz := fun z148 => wc_ws g ad z148.2) (w2 := fun z148 => lw_ws g ad bd (z148.2, w4.2)) (o := fun z148 => some (.int z148.1)) (s2 := fun z148 => [.int z148.1]) (ci := 3) (q0 := 0) fx mm_X3_tear q_39_6 dL_law_1287 h (fun _ hz => c_X3_tear hz) rfl rfl ⟨rfl, rfl, Nat.le_of_ble_eq_true rfl, Nat.le_of_ble_eq_true rfl⟩ ⟨Nat.le_of_ble_eq_true rfl, Nat.le_of_ble_eq_true rfl⟩ rfl List.perm_append_comm (fun _ => List.perm_append_comm) rfl (Nat.le_of_ble_eq_true rfl) (fun _ => rfl) (fun z148 h => ?_)
                                                                                refine nm_w (lw_ws g ad bd) h (fun w149 h => ?_)
                                                                                refine wa_aload_n fx 2 dL_law_1290 rfl ?_
                                                                                refine wa_V (b := bd 0) (rmc := rmh 1) (As := []) (st := [.int z148.1]) (wc := (mo_ws g bd w149.2)) (wr := (wc_ws g ad w149.1)) (wcz := fun z150 => mo_ws g bd z150.2) (w2 := fun z150 => lw_ws g ad bd (w149.1, z150.2)) (o := fun z150 => some (.int z150.1)) (s2 := fun z150 => [.int z150.1, .int z148.1]) (ci := 4) (q0 := 0) fx mm_X4_tear q_39_10 dL_law_1291 h (fun _ hz => c_X4_tear hz) rfl rfl ⟨rfl, rfl, Nat.le_of_ble_eq_true rfl, Nat.le_of_ble_eq_true rfl⟩ ⟨Nat.le_of_ble_eq_true rfl, Nat.le_of_ble_eq_true rfl⟩ rfl (List.Perm.refl _) (fun _ => (List.Perm.refl _)) rfl (Nat.le_of_ble_eq_true rfl) (fun _ => rfl) (fun z150 h => ?_)
                                                                                refine nm_w (lw_ws g ad bd) h (fun w151 h => ?_)
                                                                                refine wa_icmp_eq fx 1345 dL_law_1294 (by decide) h (fun h => ?_) (fun h => ?_)
                                                                                · refine wa_sub [0, 1, 2, 3] rfl ?_
                                                                                  exact B1345 (f_L_law_l18 L xs n) ih x3 w151 h
                                                                                · refine wa_iconst fx (0 : Int32) dL_law_1297 (by decide) ?_
                                                                                  exact absurd h (by decide)
                                                                              · have h := (if_neg c35).symm.trans h
                                                                                by_cases c36 : ((xs (Int32.toNatClampNeg x3)) &&& (63 : Int32)) = (36 : Int32)
                                                                                · have h := (if_pos c36).symm.trans h
                                                                                  refine wa_tabI fx 1299 (36 : Int) dL_law_33 (by rw [c36] <;> rfl) (by decide) (by decide) (by rfl) (by decide) ?_
                                                                                  refine wa_aload_n fx 1 dL_law_1299 rfl ?_
                                                                                  refine wa_aload_n fx 0 dL_law_1300 rfl ?_
                                                                                  refine wa_iload_n fx 3 dL_law_1301 rfl ?_
                                                                                  refine wa_iconst fx (1 : Int32) dL_law_1302 (by decide) ?_
                                                                                  refine wa_iadd fx dL_law_1303 ?_
                                                                                  refine wa_sld fx hX hbl hbA dL_law_1304 h (fun h => ?_)
                                                                                  refine wa_V (b := ad 0) (rmc := rmh 3) (As := [.int (xs (Int32.toNatClampNeg (x3 + (1 : Int32))))]) (st := []) (wc := (wc_ws g ad w4.1)) (wr := (mo_ws g bd w4.2)) (wcz := fun z152 => wc_ws g ad z152.2) (w2 := fun z152 => lw_ws g ad bd (z152.2, w4.2)) (o := fun z152 => some (.int z152.1)) (s2 := fun z152 => [.int z152.1]) (ci := 3) (q0 := 0) fx mm_X3_count q_39_14 dL_law_1305 h (fun _ hz => c_X3_count hz) rfl rfl ⟨rfl, rfl, Nat.le_of_ble_eq_true rfl, Nat.le_of_ble_eq_true rfl⟩ ⟨Nat.le_of_ble_eq_true rfl, Nat.le_of_ble_eq_true rfl⟩ rfl List.perm_append_comm (fun _ => List.perm_append_comm) rfl (Nat.le_of_ble_eq_true rfl) (fun _ => rfl) (fun z152 h => ?_)
                                                                                  refine nm_w (lw_ws g ad bd) h (fun w153 h => ?_)
                                                                                  refine wa_aload_n fx 2 dL_law_1308 rfl ?_
                                                                                  refine wa_aload_n fx 0 dL_law_1309 rfl ?_
                                                                                  refine wa_iload_n fx 3 dL_law_1310 rfl ?_
                                                                                  refine wa_iconst fx (1 : Int32) dL_law_1311 (by decide) ?_
                                                                                  refine wa_iadd fx dL_law_1312 ?_
                                                                                  refine wa_sld fx hX hbl hbA dL_law_1313 h (fun h => ?_)
                                                                                  refine wa_V (b := bd 0) (rmc := rmh 4) (As := [.int (xs (Int32.toNatClampNeg (x3 + (1 : Int32))))]) (st := [.int z152.1]) (wc := (mo_ws g bd w153.2)) (wr := (wc_ws g ad w153.1)) (wcz := fun z154 => mo_ws g bd z154.2) (w2 := fun z154 => lw_ws g ad bd (w153.1, z154.2)) (o := fun z154 => some (.int z154.1)) (s2 := fun z154 => [.int z154.1, .int z152.1]) (ci := 4) (q0 := 0) fx mm_X4_count q_40_6 dL_law_1314 h (fun _ hz => c_X4_count hz) rfl rfl ⟨rfl, rfl, Nat.le_of_ble_eq_true rfl, Nat.le_of_ble_eq_true rfl⟩ ⟨Nat.le_of_ble_eq_true rfl, Nat.le_of_ble_eq_true rfl⟩ rfl (List.Perm.refl _) (fun _ => (List.Perm.refl _)) rfl (Nat.le_of_ble_eq_true rfl) (fun _ => rfl) (fun z154 h => ?_)
                                                                                  refine nm_w (lw_ws g ad bd) h (fun w155 h => ?_)
                                                                                  refine wa_icmp_eq fx 1345 dL_law_1317 (by decide) h (fun h => ?_) (fun h => ?_)
                                                                                  · refine wa_sub [0, 1, 2, 3] rfl ?_
                                                                                    exact B1345 (f_L_law_l18 L xs n) ih x3 w155 h
                                                                                  · refine wa_iconst fx (0 : Int32) dL_law_1320 (by decide) ?_
                                                                                    exact absurd h (by decide)
                                                                                · have h := (if_neg c36).symm.trans h
                                                                                  by_cases c37 : ((xs (Int32.toNatClampNeg x3)) &&& (63 : Int32)) = (37 : Int32)
                                                                                  · have h := (if_pos c37).symm.trans h
                                                                                    refine wa_tabI fx 1322 (37 : Int) dL_law_33 (by rw [c37] <;> rfl) (by decide) (by decide) (by rfl) (by decide) ?_
                                                                                    refine wa_aload_n fx 1 dL_law_1322 rfl ?_
                                                                                    refine wa_aload_n fx 0 dL_law_1323 rfl ?_
                                                                                    refine wa_iload_n fx 3 dL_law_1324 rfl ?_
                                                                                    refine wa_iconst fx (1 : Int32) dL_law_1325 (by decide) ?_
                                                                                    refine wa_iadd fx dL_law_1326 ?_
                                                                                    refine wa_sld fx hX hbl hbA dL_law_1327 h (fun h => ?_)
                                                                                    refine wa_V (b := ad 0) (rmc := rmh 2) (As := [.int (xs (Int32.toNatClampNeg (x3 + (1 : Int32))))]) (st := []) (wc := (wc_ws g ad w4.1)) (wr := (mo_ws g bd w4.2)) (wcz := fun z156 => wc_ws g ad z156.2) (w2 := fun z156 => lw_ws g ad bd (z156.2, w4.2)) (o := fun z156 => some (.int z156.1)) (s2 := fun z156 => [.int z156.1]) (ci := 3) (q0 := 0) fx mm_X3_status q_40_14 dL_law_1328 h (fun _ hz => c_X3_status hz) rfl rfl ⟨rfl, rfl, Nat.le_of_ble_eq_true rfl, Nat.le_of_ble_eq_true rfl⟩ ⟨Nat.le_of_ble_eq_true rfl, Nat.le_of_ble_eq_true rfl⟩ rfl List.perm_append_comm (fun _ => List.perm_append_comm) rfl (Nat.le_of_ble_eq_true rfl) (fun _ => rfl) (fun z156 h => ?_)
                                                                                    refine nm_w (lw_ws g ad bd) h (fun w157 h => ?_)
                                                                                    refine wa_aload_n fx 2 dL_law_1331 rfl ?_
                                                                                    refine wa_aload_n fx 0 dL_law_1332 rfl ?_
                                                                                    refine wa_iload_n fx 3 dL_law_1333 rfl ?_
                                                                                    refine wa_iconst fx (1 : Int32) dL_law_1334 (by decide) ?_
                                                                                    refine wa_iadd fx dL_law_1335 ?_
                                                                                    refine wa_sld fx hX hbl hbA dL_law_1336 h (fun h => ?_)
                                                                                    refine wa_V (b := bd 0) (rmc := rmh 2) (As := [.int (xs (Int32.toNatClampNeg (x3 + (1 : Int32))))]) (st := [.int z156.1]) (wc := (mo_ws g bd w157.2)) (wr := (wc_ws g ad w157.1)) (wcz := fun z158 => mo_ws g bd z158.2) (w2 := fun z158 => lw_ws g ad bd (w157.1, z158.2)) (o := fun z158 => some (.int z158.1)) (s2 := fun z158 => [.int z158.1, .int z156.1]) (ci := 4) (q0 := 0) fx mm_X4_status q_40_18 dL_law_1337 h (fun _ hz => c_X4_status hz) rfl rfl ⟨rfl, rfl, Nat.le_of_ble_eq_true rfl, Nat.le_of_ble_eq_true rfl⟩ ⟨Nat.le_of_ble_eq_true rfl, Nat.le_of_ble_eq_true rfl⟩ rfl (List.Perm.refl _) (fun _ => (List.Perm.refl _)) rfl (Nat.le_of_ble_eq_true rfl) (fun _ => rfl) (fun z158 h => ?_)
                                                                                    refine nm_w (lw_ws g ad bd) h (fun w159 h => ?_)
                                                                                    refine wa_icmp_eq fx 1345 dL_law_1340 (by decide) h (fun h => ?_) (fun h => ?_)
                                                                                    · refine wa_sub [0, 1, 2, 3] rfl ?_
                                                                                      exact B1345 (f_L_law_l18 L xs n) ih x3 w159 h
                                                                                    · refine wa_iconst fx (0 : Int32) dL_law_1343 (by decide) ?_
                                                                                      exact absurd h (by decide)
                                                                                  · have h := (if_neg c37).symm.trans h
                                                                                    refine wa_tabD fx 1345 dL_law_33 (by decide) [(0 : Int32), (1 : Int32), (2 : Int32), (3 : Int32), (4 : Int32), (5 : Int32), (6 : Int32), (7 : Int32), (8 : Int32), (9 : Int32), (10 : Int32), (11 : Int32), (12 : Int32), (13 : Int32), (14 : Int32), (15 : Int32), (16 : Int32), (17 : Int32), (18 : Int32), (19 : Int32), (20 : Int32), (21 : Int32), (22 : Int32), (23 : Int32), (24 : Int32), (25 : Int32), (26 : Int32), (27 : Int32), (28 : Int32), (29 : Int32), (30 : Int32), (31 : Int32), (32 : Int32), (33 : Int32), (34 : Int32), (35 : Int32), (36 : Int32), (37 : Int32)] (by decide) (List.forall_mem_cons.mpr ⟨c0, (List.forall_mem_cons.mpr ⟨c1, (List.forall_mem_cons.mpr ⟨c2, (List.forall_mem_cons.mpr ⟨c3, (List.forall_mem_cons.mpr ⟨c4, (List.forall_mem_cons.mpr ⟨c5, (List.forall_mem_cons.mpr ⟨c6, (List.forall_mem_cons.mpr ⟨c7, (List.forall_mem_cons.mpr ⟨c8, (List.forall_mem_cons.mpr ⟨c9, (List.forall_mem_cons.mpr ⟨c10, (List.forall_mem_cons.mpr ⟨c11, (List.forall_mem_cons.mpr ⟨c12, (List.forall_mem_cons.mpr ⟨c13, (List.forall_mem_cons.mpr ⟨c14, (List.forall_mem_cons.mpr ⟨c15, (List.forall_mem_cons.mpr ⟨c16, (List.forall_mem_cons.mpr ⟨c17, (List.forall_mem_cons.mpr ⟨c18, (List.forall_mem_cons.mpr ⟨c19, (List.forall_mem_cons.mpr ⟨c20, (List.forall_mem_cons.mpr ⟨c21, (List.forall_mem_cons.mpr ⟨c22, (List.forall_mem_cons.mpr ⟨c23, (List.forall_mem_cons.mpr ⟨c24, (List.forall_mem_cons.mpr ⟨c25, (List.forall_mem_cons.mpr ⟨c26, (List.forall_mem_cons.mpr ⟨c27, (List.forall_mem_cons.mpr ⟨c28, (List.forall_mem_cons.mpr ⟨c29, (List.forall_mem_cons.mpr ⟨c30, (List.forall_mem_cons.mpr ⟨c31, (List.forall_mem_cons.mpr ⟨c32, (List.forall_mem_cons.mpr ⟨c33, (List.forall_mem_cons.mpr ⟨c34, (List.forall_mem_cons.mpr ⟨c35, (List.forall_mem_cons.mpr ⟨c36, (List.forall_mem_cons.mpr ⟨c37, (fun _ hm => absurd hm List.not_mem_nil)⟩)⟩)⟩)⟩)⟩)⟩)⟩)⟩)⟩)⟩)⟩)⟩)⟩)⟩)⟩)⟩)⟩)⟩)⟩)⟩)⟩)⟩)⟩)⟩)⟩)⟩)⟩)⟩)⟩)⟩)⟩)⟩)⟩)⟩)⟩)⟩)⟩)⟩) ?_
                                                                                    refine wa_sub [0, 1, 2, 3] rfl ?_
                                                                                    exact B1345 (f_L_law_l18 L xs n) ih x3 w4 h
  exact B18 n i p h
