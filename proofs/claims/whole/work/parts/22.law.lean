-- the law's loop answers 1
theorem ck_some {α : Type} {i : Int32} {n : Nat} {A : Option α} {r : α} (h : vp_in i n) (hA : A = some r) : ck i n A = some r := by rw [ck_in h]; exact hA
theorem nm_some {α β : Type} {e : α} {k : α → Option β} {r : β} (h : k e = some r) : nm e k = some r := h
theorem bnd_some {α β : Type} {a : Option α} {z : α} {f : α → Option β} {r : β} (h : a = some z) (hf : f z = some r) : Option.bind a f = some r := by rw [h]; exact hf
theorem ite_some {c : Prop} [Decidable c] {α : Type} {A B : Option α} {r : α} (h1 : c → A = some r) (h2 : ¬ c → B = some r) : (if c then A else B) = some r := by
  by_cases h : c
  · rw [if_pos h]; exact h1 h
  · rw [if_neg h]; exact h2 h
theorem law_ok {L : Nat} {xs : Nat → Int32} (hL : L ≤ 3072) : ∀ (fuel j : Nat) (G : Nat → StT) (M : StT), L < j + 6 * fuel → j ≤ L → Rel G M → f_L_law_l18 L xs fuel (nI j) (G, M) = some 1 := by
  intro fuel
  induction fuel with
  | zero => intro j G M h1 h2; omega
  | succ n ih =>
    intro j G M h1 h2 h
    rw [f_L_law_l18]
    refine ite_some (fun _ => rfl) (fun c => ?_)
    have h6 : j + 6 ≤ L := by
      have c : ¬ nI L - nI 6 < nI j := c
      rw [ilt, pk_sub_toInt (by omega) (by omega), tI (by omega)] at c
      omega
    have go : ∀ (G : Nat → StT) (M : StT), Rel G M → f_L_law_b1345 (f_L_law_l18 L xs n) L xs (nI j) (G, M) = some 1 := by
      intro G M h
      unfold f_L_law_b1345
      simp only [nm]
      rw [show nI j + 6 = nI (j + 6) by rw [li 6, nI_add]]
      exact ih (j + 6) G M (by omega) (by omega) h
    have v0 : vp_in (nI j) L := vp_in_nI (by omega) (by omega)
    have v1 : vp_in (nI j + 1) L := by rw [show nI j + 1 = nI (j + 1) by rw [li 1, nI_add]]; exact vp_in_nI (by omega) (by omega)
    have v2 : vp_in (nI j + 2) L := by rw [show nI j + 2 = nI (j + 2) by rw [li 2, nI_add]]; exact vp_in_nI (by omega) (by omega)
    have v3 : vp_in (nI j + 3) L := by rw [show nI j + 3 = nI (j + 3) by rw [li 3, nI_add]]; exact vp_in_nI (by omega) (by omega)
    have v4 : vp_in (nI j + 4) L := by rw [show nI j + 4 = nI (j + 4) by rw [li 4, nI_add]]; exact vp_in_nI (by omega) (by omega)
    have v5 : vp_in (nI j + 5) L := by rw [show nI j + 5 = nI (j + 5) by rw [li 5, nI_add]]; exact vp_in_nI (by omega) (by omega)
    refine ck_some v0 ?_
    refine ite_some (fun _ => ?_) (fun _ => ?_)
    · obtain ⟨r, G2, M2, e1, e2, hr⟩ := sim_chair h (xs (Int32.toNatClampNeg (nI j + (1 : Int32)))) (xs (Int32.toNatClampNeg (nI j + (2 : Int32)))) (xs (Int32.toNatClampNeg (nI j + (3 : Int32))))
      refine ck_some v1 (ck_some v2 (ck_some v3 (bnd_some e1 ?_)))
      refine nm_some ?_
      refine ck_some v1 (ck_some v2 (ck_some v3 (bnd_some e2 ?_)))
      refine nm_some ?_
      exact (if_pos rfl).trans (go G2 M2 hr)
    refine ite_some (fun _ => ?_) (fun _ => ?_)
    · obtain ⟨r, G2, M2, e1, e2, hr⟩ := sim_chairOf h (xs (Int32.toNatClampNeg (nI j + (1 : Int32)))) (xs (Int32.toNatClampNeg (nI j + (2 : Int32))))
      refine ck_some v1 (ck_some v2 (bnd_some e1 ?_))
      refine nm_some ?_
      refine ck_some v1 (ck_some v2 (bnd_some e2 ?_))
      refine nm_some ?_
      exact (if_pos rfl).trans (go G2 M2 hr)
    refine ite_some (fun _ => ?_) (fun _ => ?_)
    · obtain ⟨r, G2, M2, e1, e2, hr⟩ := sim_person h (xs (Int32.toNatClampNeg (nI j + (1 : Int32))))
      refine ck_some v1 (bnd_some e1 ?_)
      refine nm_some ?_
      refine ck_some v1 (bnd_some e2 ?_)
      refine nm_some ?_
      exact (if_pos rfl).trans (go G2 M2 hr)
    refine ite_some (fun _ => ?_) (fun _ => ?_)
    · obtain ⟨r, G2, M2, e1, e2, hr⟩ := sim_of h (xs (Int32.toNatClampNeg (nI j + (1 : Int32)))) (xs (Int32.toNatClampNeg (nI j + (2 : Int32))))
      refine ck_some v1 (ck_some v2 (bnd_some e1 ?_))
      refine nm_some ?_
      refine ck_some v1 (ck_some v2 (bnd_some e2 ?_))
      refine nm_some ?_
      exact (if_pos rfl).trans (go G2 M2 hr)
    refine ite_some (fun _ => ?_) (fun _ => ?_)
    · obtain ⟨r, G2, M2, e1, e2, hr⟩ := sim_set h (xs (Int32.toNatClampNeg (nI j + (1 : Int32)))) (xs (Int32.toNatClampNeg (nI j + (2 : Int32)))) (xs (Int32.toNatClampNeg (nI j + (3 : Int32))))
      refine ck_some v1 (ck_some v2 (ck_some v3 (bnd_some e1 ?_)))
      refine nm_some ?_
      refine ck_some v1 (ck_some v2 (ck_some v3 (bnd_some e2 ?_)))
      refine nm_some ?_
      exact (if_pos rfl).trans (go G2 M2 hr)
    refine ite_some (fun _ => ?_) (fun _ => ?_)
    · obtain ⟨r, G2, M2, e1, e2, hr⟩ := sim_turn h (xs (Int32.toNatClampNeg (nI j + (1 : Int32)))) (xs (Int32.toNatClampNeg (nI j + (2 : Int32))))
      refine ck_some v1 (ck_some v2 (bnd_some e1 ?_))
      refine nm_some ?_
      refine ck_some v1 (ck_some v2 (bnd_some e2 ?_))
      refine nm_some ?_
      exact (if_pos rfl).trans (go G2 M2 hr)
    refine ite_some (fun _ => ?_) (fun _ => ?_)
    · obtain ⟨r, G2, M2, e1, e2, hr⟩ := sim_as h (xs (Int32.toNatClampNeg (nI j + (1 : Int32)))) (xs (Int32.toNatClampNeg (nI j + (2 : Int32))))
      refine ck_some v1 (ck_some v2 (bnd_some e1 ?_))
      refine nm_some ?_
      refine ck_some v1 (ck_some v2 (bnd_some e2 ?_))
      refine nm_some ?_
      exact (if_pos rfl).trans (go G2 M2 hr)
    refine ite_some (fun _ => ?_) (fun _ => ?_)
    · obtain ⟨r, G2, M2, e1, e2, hr⟩ := sim_quarrel h (xs (Int32.toNatClampNeg (nI j + (1 : Int32)))) (xs (Int32.toNatClampNeg (nI j + (2 : Int32)))) (xs (Int32.toNatClampNeg (nI j + (3 : Int32))))
      refine ck_some v1 (ck_some v2 (ck_some v3 (bnd_some e1 ?_)))
      refine nm_some ?_
      refine ck_some v1 (ck_some v2 (ck_some v3 (bnd_some e2 ?_)))
      refine nm_some ?_
      exact (if_pos rfl).trans (go G2 M2 hr)
    refine ite_some (fun _ => ?_) (fun _ => ?_)
    · obtain ⟨r, G2, M2, e1, e2, hr⟩ := sim_sit h (xs (Int32.toNatClampNeg (nI j + (1 : Int32)))) (xs (Int32.toNatClampNeg (nI j + (2 : Int32))))
      refine ck_some v1 (ck_some v2 (bnd_some e1 ?_))
      refine nm_some ?_
      refine ck_some v1 (ck_some v2 (bnd_some e2 ?_))
      refine nm_some ?_
      exact (if_pos rfl).trans (go G2 M2 hr)
    refine ite_some (fun _ => ?_) (fun _ => ?_)
    · obtain ⟨r, G2, M2, e1, e2, hr⟩ := sim_change h (xs (Int32.toNatClampNeg (nI j + (1 : Int32)))) (xs (Int32.toNatClampNeg (nI j + (2 : Int32))))
      refine ck_some v1 (ck_some v2 (bnd_some e1 ?_))
      refine nm_some ?_
      refine ck_some v1 (ck_some v2 (bnd_some e2 ?_))
      refine nm_some ?_
      exact (if_pos rfl).trans (go G2 M2 hr)
    refine ite_some (fun _ => ?_) (fun _ => ?_)
    · obtain ⟨r, G2, M2, e1, e2, hr⟩ := sim_well h (xs (Int32.toNatClampNeg (nI j + (1 : Int32)))) (xs (Int32.toNatClampNeg (nI j + (2 : Int32))))
      refine ck_some v1 (ck_some v2 (bnd_some e1 ?_))
      refine nm_some ?_
      refine ck_some v1 (ck_some v2 (bnd_some e2 ?_))
      refine nm_some ?_
      exact (if_pos rfl).trans (go G2 M2 hr)
    refine ite_some (fun _ => ?_) (fun _ => ?_)
    · obtain ⟨r, G2, M2, e1, e2, hr⟩ := sim_hours h (xs (Int32.toNatClampNeg (nI j + (1 : Int32))))
      refine ck_some v1 (bnd_some e1 ?_)
      refine nm_some ?_
      refine ck_some v1 (bnd_some e2 ?_)
      refine nm_some ?_
      exact (if_pos rfl).trans (go G2 M2 hr)
    refine ite_some (fun _ => ?_) (fun _ => ?_)
    · obtain ⟨r, G2, M2, e1, e2, hr⟩ := sim_now h (xs (Int32.toNatClampNeg (nI j + (1 : Int32))))
      refine ck_some v1 (bnd_some e1 ?_)
      refine nm_some ?_
      refine ck_some v1 (bnd_some e2 ?_)
      refine nm_some ?_
      exact (if_pos rfl).trans (go G2 M2 hr)
    refine ite_some (fun _ => ?_) (fun _ => ?_)
    · obtain ⟨r, G2, M2, e1, e2, hr⟩ := sim_on h (xs (Int32.toNatClampNeg (nI j + (1 : Int32)))) (xs (Int32.toNatClampNeg (nI j + (2 : Int32)))) (xs (Int32.toNatClampNeg (nI j + (3 : Int32))))
      refine ck_some v1 (ck_some v2 (ck_some v3 (bnd_some e1 ?_)))
      refine nm_some ?_
      refine ck_some v1 (ck_some v2 (ck_some v3 (bnd_some e2 ?_)))
      refine nm_some ?_
      exact (if_pos rfl).trans (go G2 M2 hr)
    refine ite_some (fun _ => ?_) (fun _ => ?_)
    · obtain ⟨r, G2, M2, e1, e2, hr⟩ := sim_peace h (xs (Int32.toNatClampNeg (nI j + (1 : Int32))))
      refine ck_some v1 (bnd_some e1 ?_)
      refine nm_some ?_
      refine ck_some v1 (bnd_some e2 ?_)
      refine nm_some ?_
      exact (if_pos rfl).trans (go G2 M2 hr)
    refine ite_some (fun _ => ?_) (fun _ => ?_)
    · obtain ⟨r, G2, M2, e1, e2, hr⟩ := sim_settles h 
      refine bnd_some e1 ?_
      refine nm_some ?_
      refine bnd_some e2 ?_
      refine nm_some ?_
      exact (if_pos rfl).trans (go G2 M2 hr)
    refine ite_some (fun _ => ?_) (fun _ => ?_)
    · obtain ⟨r, G2, M2, e1, e2, hr⟩ := sim_gets h (xs (Int32.toNatClampNeg (nI j + (1 : Int32)))) (xs (Int32.toNatClampNeg (nI j + (2 : Int32))))
      refine ck_some v1 (ck_some v2 (bnd_some e1 ?_))
      refine nm_some ?_
      refine ck_some v1 (ck_some v2 (bnd_some e2 ?_))
      refine nm_some ?_
      exact (if_pos rfl).trans (go G2 M2 hr)
    refine ite_some (fun _ => ?_) (fun _ => ?_)
    · obtain ⟨r, G2, M2, e1, e2, hr⟩ := sim_best h 
      refine bnd_some e1 ?_
      refine nm_some ?_
      refine bnd_some e2 ?_
      refine nm_some ?_
      exact (if_pos rfl).trans (go G2 M2 hr)
    refine ite_some (fun _ => ?_) (fun _ => ?_)
    · obtain ⟨r, G2, M2, e1, e2, hr⟩ := sim_mend h (xs (Int32.toNatClampNeg (nI j + (1 : Int32))))
      refine ck_some v1 (bnd_some e1 ?_)
      refine nm_some ?_
      refine ck_some v1 (bnd_some e2 ?_)
      refine nm_some ?_
      exact (if_pos rfl).trans (go G2 M2 hr)
    refine ite_some (fun _ => ?_) (fun _ => ?_)
    · obtain ⟨r, G2, M2, e1, e2, hr⟩ := sim_kind h (xs (Int32.toNatClampNeg (nI j + (1 : Int32)))) (xs (Int32.toNatClampNeg (nI j + (2 : Int32))))
      refine ck_some v1 (ck_some v2 (bnd_some e1 ?_))
      refine nm_some ?_
      refine ck_some v1 (ck_some v2 (bnd_some e2 ?_))
      refine nm_some ?_
      exact (if_pos rfl).trans (go G2 M2 hr)
    refine ite_some (fun _ => ?_) (fun _ => ?_)
    · obtain ⟨r, G2, M2, e1, e2, hr⟩ := sim_claim h (xs (Int32.toNatClampNeg (nI j + (1 : Int32)))) (xs (Int32.toNatClampNeg (nI j + (2 : Int32))))
      refine ck_some v1 (ck_some v2 (bnd_some e1 ?_))
      refine nm_some ?_
      refine ck_some v1 (ck_some v2 (bnd_some e2 ?_))
      refine nm_some ?_
      exact (if_pos rfl).trans (go G2 M2 hr)
    refine ite_some (fun _ => ?_) (fun _ => ?_)
    · obtain ⟨r, G2, M2, e1, e2, hr⟩ := sim_years h (xs (Int32.toNatClampNeg (nI j + (1 : Int32)))) (xs (Int32.toNatClampNeg (nI j + (2 : Int32)))) (xs (Int32.toNatClampNeg (nI j + (3 : Int32))))
      refine ck_some v1 (ck_some v2 (ck_some v3 (bnd_some e1 ?_)))
      refine nm_some ?_
      refine ck_some v1 (ck_some v2 (ck_some v3 (bnd_some e2 ?_)))
      refine nm_some ?_
      exact (if_pos rfl).trans (go G2 M2 hr)
    refine ite_some (fun _ => ?_) (fun _ => ?_)
    · obtain ⟨r, G2, M2, e1, e2, hr⟩ := sim_always h (xs (Int32.toNatClampNeg (nI j + (1 : Int32))))
      refine ck_some v1 (bnd_some e1 ?_)
      refine nm_some ?_
      refine ck_some v1 (bnd_some e2 ?_)
      refine nm_some ?_
      exact (if_pos rfl).trans (go G2 M2 hr)
    refine ite_some (fun _ => ?_) (fun _ => ?_)
    · obtain ⟨r, G2, M2, e1, e2, hr⟩ := sim_beside h (xs (Int32.toNatClampNeg (nI j + (1 : Int32))))
      refine ck_some v1 (bnd_some e1 ?_)
      refine nm_some ?_
      refine ck_some v1 (bnd_some e2 ?_)
      refine nm_some ?_
      exact (if_pos rfl).trans (go G2 M2 hr)
    refine ite_some (fun _ => ?_) (fun _ => ?_)
    · obtain ⟨r, G2, M2, e1, e2, hr⟩ := sim_feed h (xs (Int32.toNatClampNeg (nI j + (1 : Int32)))) (xs (Int32.toNatClampNeg (nI j + (2 : Int32))))
      refine ck_some v1 (ck_some v2 (bnd_some e1 ?_))
      refine nm_some ?_
      refine ck_some v1 (ck_some v2 (bnd_some e2 ?_))
      refine nm_some ?_
      exact (if_pos rfl).trans (go G2 M2 hr)
    refine ite_some (fun _ => ?_) (fun _ => ?_)
    · obtain ⟨r, G2, M2, e1, e2, hr⟩ := sim_wipe h 
      refine bnd_some e1 ?_
      refine nm_some ?_
      refine bnd_some e2 ?_
      refine nm_some ?_
      exact (if_pos rfl).trans (go G2 M2 hr)
    refine ite_some (fun _ => ?_) (fun _ => ?_)
    · obtain ⟨r, G2, M2, e1, e2, hr⟩ := sim_room h 
      refine bnd_some e1 ?_
      refine nm_some ?_
      refine bnd_some e2 ?_
      refine nm_some ?_
      exact (if_pos rfl).trans (go G2 M2 hr)
    refine ite_some (fun _ => ?_) (fun _ => ?_)
    · obtain ⟨r, G2, M2, e1, e2, hr⟩ := sim_sheet h (xs (Int32.toNatClampNeg (nI j + (1 : Int32)))) (xs (Int32.toNatClampNeg (nI j + (2 : Int32)))) (xs (Int32.toNatClampNeg (nI j + (3 : Int32))))
      refine ck_some v1 (ck_some v2 (ck_some v3 (bnd_some e1 ?_)))
      refine nm_some ?_
      refine ck_some v1 (ck_some v2 (ck_some v3 (bnd_some e2 ?_)))
      refine nm_some ?_
      exact (if_pos rfl).trans (go G2 M2 hr)
    refine ite_some (fun _ => ?_) (fun _ => ?_)
    · obtain ⟨r, G2, M2, e1, e2, hr⟩ := sim_write h (xs (Int32.toNatClampNeg (nI j + (1 : Int32)))) (xs (Int32.toNatClampNeg (nI j + (2 : Int32)))) (((Int32.toInt64 (xs (Int32.toNatClampNeg (nI j + (3 : Int32))))) <<< (Int32.toInt64 (32 : Int32) &&& 63)) ||| ((Int32.toInt64 (xs (Int32.toNatClampNeg (nI j + (4 : Int32))))) &&& (4294967295 : Int64)))
      refine ck_some v1 (ck_some v2 (ck_some v3 (ck_some v4 (bnd_some e1 ?_))))
      refine nm_some ?_
      refine ck_some v1 (ck_some v2 (ck_some v3 (ck_some v4 (bnd_some e2 ?_))))
      refine nm_some ?_
      exact (if_pos ((lgc_z _ _).mpr rfl)).trans (go G2 M2 hr)
    refine ite_some (fun _ => ?_) (fun _ => ?_)
    · obtain ⟨r, G2, M2, e1, e2, hr⟩ := sim_copy h (xs (Int32.toNatClampNeg (nI j + (1 : Int32)))) (xs (Int32.toNatClampNeg (nI j + (2 : Int32)))) (xs (Int32.toNatClampNeg (nI j + (3 : Int32)))) (xs (Int32.toNatClampNeg (nI j + (4 : Int32)))) (xs (Int32.toNatClampNeg (nI j + (5 : Int32))))
      refine ck_some v1 (ck_some v2 (ck_some v3 (ck_some v4 (ck_some v5 (bnd_some e1 ?_)))))
      refine nm_some ?_
      refine ck_some v1 (ck_some v2 (ck_some v3 (ck_some v4 (ck_some v5 (bnd_some e2 ?_)))))
      refine nm_some ?_
      exact (if_pos rfl).trans (go G2 M2 hr)
    refine ite_some (fun _ => ?_) (fun _ => ?_)
    · obtain ⟨r, G2, M2, e1, e2, hr⟩ := sim_lays h (xs (Int32.toNatClampNeg (nI j + (1 : Int32))))
      refine ck_some v1 (bnd_some e1 ?_)
      refine nm_some ?_
      refine ck_some v1 (bnd_some e2 ?_)
      refine nm_some ?_
      exact (if_pos rfl).trans (go G2 M2 hr)
    refine ite_some (fun _ => ?_) (fun _ => ?_)
    · obtain ⟨r, G2, M2, e1, e2, hr⟩ := sim_book h (xs (Int32.toNatClampNeg (nI j + (1 : Int32)))) (xs (Int32.toNatClampNeg (nI j + (2 : Int32))))
      refine ck_some v1 (ck_some v2 (bnd_some e1 ?_))
      refine nm_some ?_
      refine ck_some v1 (ck_some v2 (bnd_some e2 ?_))
      refine nm_some ?_
      exact (if_pos rfl).trans (go G2 M2 hr)
    refine ite_some (fun _ => ?_) (fun _ => ?_)
    · obtain ⟨r, G2, M2, e1, e2, hr⟩ := sim_read h (xs (Int32.toNatClampNeg (nI j + (1 : Int32)))) (xs (Int32.toNatClampNeg (nI j + (2 : Int32))))
      refine ck_some v1 (ck_some v2 (bnd_some e1 ?_))
      refine nm_some ?_
      refine ck_some v1 (ck_some v2 (bnd_some e2 ?_))
      refine nm_some ?_
      exact (if_pos rfl).trans (go G2 M2 hr)
    refine ite_some (fun _ => ?_) (fun _ => ?_)
    · obtain ⟨r, G2, M2, e1, e2, hr⟩ := sim_image h 
      refine bnd_some e1 ?_
      refine nm_some ?_
      refine bnd_some e2 ?_
      refine nm_some ?_
      exact (if_pos rfl).trans (go G2 M2 hr)
    refine ite_some (fun _ => ?_) (fun _ => ?_)
    · obtain ⟨r, G2, M2, e1, e2, hr⟩ := sim_undo h 
      refine bnd_some e1 ?_
      refine nm_some ?_
      refine bnd_some e2 ?_
      refine nm_some ?_
      exact (if_pos rfl).trans (go G2 M2 hr)
    refine ite_some (fun _ => ?_) (fun _ => ?_)
    · obtain ⟨r, G2, M2, e1, e2, hr⟩ := sim_tear h 
      refine bnd_some e1 ?_
      refine nm_some ?_
      refine bnd_some e2 ?_
      refine nm_some ?_
      exact (if_pos rfl).trans (go G2 M2 hr)
    refine ite_some (fun _ => ?_) (fun _ => ?_)
    · obtain ⟨r, G2, M2, e1, e2, hr⟩ := sim_count h (xs (Int32.toNatClampNeg (nI j + (1 : Int32))))
      refine ck_some v1 (bnd_some e1 ?_)
      refine nm_some ?_
      refine ck_some v1 (bnd_some e2 ?_)
      refine nm_some ?_
      exact (if_pos rfl).trans (go G2 M2 hr)
    refine ite_some (fun _ => ?_) (fun _ => ?_)
    · obtain ⟨r, G2, M2, e1, e2, hr⟩ := sim_status h (xs (Int32.toNatClampNeg (nI j + (1 : Int32))))
      refine ck_some v1 (bnd_some e1 ?_)
      refine nm_some ?_
      refine ck_some v1 (bnd_some e2 ?_)
      refine nm_some ?_
      exact (if_pos rfl).trans (go G2 M2 hr)
    exact go G M h
-- the start: both are new
theorem rm0_0 : ∀ c, c < 8 → rmS0.1 0 c = nI (if c = 0 then 15 else 3) := by decide
theorem rm0_1 : ∀ c, c < 8 → rmS0.1 1 c = nI 1 := by decide
theorem rm0_2 : ∀ c, c < 8 → rmS0.1 2 c = -1 := by decide
theorem rm0_5 : ∀ c, c < 8 → rmS0.1 5 c = -1 := by decide
theorem rm0_8 : ∀ c, c < 8 → rmS0.1 8 c = -1 := by decide
theorem RI_0 : RI 0 rmS0 := by
  refine ⟨by decide, rfl, fun c hc => ⟨⟨_, ?_, rm0_0 c hc⟩, ⟨1, by omega, rm0_1 c hc⟩⟩, fun p hp => by omega, fun p _ hp => ⟨rfl, rm0_5 p hp, rfl, rfl, rm0_8 p hp⟩, fun c hc => ⟨Or.inl (rm0_2 c hc), fun p hp => by omega⟩, fun p q hp hq => ?_⟩
  · split <;> omega
  · have e : ∀ r, r < 8 → ¬ (((0 : Int32) >>> (nI r &&& 31)) &&& 1) = 1 := by decide
    exact ⟨fun z => absurd z (e q hq), fun z => absurd z (e p hp)⟩
theorem RE_0 : RE 0 rmS0 (mo0.1 0) := ⟨by decide, by decide, by decide, fun p hp => by omega⟩
theorem Rel_0 : Rel GS0 mo0 := by
  refine ⟨⟨0, RI_0, RE_0⟩, ⟨rfl, Or.inl rfl⟩, ⟨0, by omega, rfl, rfl, fun j hj => by omega⟩, fun k hk => ?_, fun k hk => ?_⟩
  · match k, hk with
    | 0, _ => exact ⟨rfl, Or.inl rfl, ⟨0, by omega, rfl, rfl⟩, fun j hj => rfl⟩
    | 1, _ => exact ⟨rfl, Or.inl rfl, ⟨0, by omega, rfl, rfl⟩, fun j hj => rfl⟩
    | 2, _ => exact ⟨rfl, Or.inl rfl, ⟨0, by omega, rfl, rfl⟩, fun j hj => rfl⟩
    | 3, _ => exact ⟨rfl, Or.inl rfl, ⟨0, by omega, rfl, rfl⟩, fun j hj => rfl⟩
  · rfl
theorem law_true {L : Nat} {xs : Nat → Int32} (hL : L ≤ 3072) : f_L_law_l18 L xs 600 0 (GS0, mo0) = some 1 := law_ok hL 600 0 GS0 mo0 (by omega) (by omega) Rel_0
