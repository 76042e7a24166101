abbrev adr (ad : Nat → Nat) (b : Nat) : Nat → Nat := fun i => ad (b + i)
abbrev rm_ws (g : GT) (ad : Nat → Nat) (st : StT) : va_W := [(ad 0, .inr (0, [.ref (ad 1), .ref (ad 2), .ref (ad 3), .ref (ad 4), .ref (ad 5), .ref (ad 6), .ref (ad 7), .ref (ad 8), .ref (ad 9), .int (st.2.2 0), .int (st.2.2 1)])), (ad 1, .inl (g.2.1, 8, .inl (st.1 0))), (ad 2, .inl (g.2.1, 8, .inl (st.1 1))), (ad 3, .inl (g.2.1, 8, .inl (st.1 2))), (ad 4, .inl (g.2.1, 8, .inl (st.1 3))), (ad 5, .inl (g.2.1, 8, .inl (st.1 4))), (ad 6, .inl (g.2.1, 8, .inl (st.1 5))), (ad 7, .inl (g.2.1, 8, .inl (st.1 6))), (ad 8, .inl (g.2.1, 8, .inl (st.1 7))), (ad 9, .inl (g.2.1, 8, .inl (st.1 8)))]
abbrev sh_ws (g : GT) (ad : Nat → Nat) (st : StT) : va_W := [(ad 0, .inr (1, [.ref (ad 1), .int (st.2.2 0), .int (st.2.2 1)])), (ad 1, .inl (g.2.2.1, 40, .inr (.inl (st.2.1 0))))]
abbrev tx_ws (g : GT) (ad : Nat → Nat) (st : StT) : va_W := [(ad 0, .inr (2, [.ref (ad 1), .int (st.2.2 0), .int (st.2.2 1), .int (st.2.2 2), .int (st.2.2 3), .int (st.2.2 4), .int (st.2.2 5)])), (ad 1, .inl (g.2.1, 120, .inl (st.1 0)))]
abbrev ow_ws (g : GT) (ad : Nat → Nat) (st : StT) : va_W := [(ad 0, .inr (3, [.ref (adr ad 1 0), .ref (adr ad 11 0), .ref (adr ad 21 0), .int (st.2.2 0), .ref (adr ad 31 0), .ref (ad 33), .ref (ad 42), .ref (ad 43)])), (ad 33, .inl (g.2.2.2.1, 4, .inr (.inr (.inr (.inr (fun k => some (adr ad (34 + 2 * k) 0))))))), (ad 42, .inl (g.2.1, 7, .inl (st.1 0))), (ad 43, .inl (g.2.1, 8, .inl (st.1 1)))]
abbrev wc_ws (g : GT) (ad : Nat → Nat) (G : Nat → StT) : va_W := ow_ws g ad (G 0) ++ (rm_ws g (adr ad 1) (G 1) ++ (rm_ws g (adr ad 11) (G 2) ++ (rm_ws g (adr ad 21) (G 3) ++ (tx_ws g (adr ad 31) (G 4) ++ (sh_ws g (adr ad (34 + 2 * 0)) (G (5 + 0)) ++ (sh_ws g (adr ad (34 + 2 * 1)) (G (5 + 1)) ++ (sh_ws g (adr ad (34 + 2 * 2)) (G (5 + 2)) ++ (sh_ws g (adr ad (34 + 2 * 3)) (G (5 + 3))))))))))
abbrev tr_ws (g : GT) (ad bd : Nat → Nat) (p : StT × StT) : va_W := tx_ws g ad p.1 ++ rm_ws g bd p.2
abbrev bb_ws (g : GT) (ad bd : Nat → Nat) (p : StT × StT) : va_W := rm_ws g ad p.1 ++ rm_ws g bd p.2
abbrev no_ws (_ : Unit) : va_W := []
abbrev mo_ws (g : GT) (ad : Nat → Nat) (st : StT) : va_W := [(ad 0, .inr (4, [.ref (ad 1), .ref (ad 2), .ref (ad 3), .ref (ad 4), .ref (ad 5), .int (st.2.2 0), .ref (ad 6), .int (st.2.2 1), .int (st.2.2 2), .ref (ad 7), .int (st.2.2 3), .int (st.2.2 4), .int (st.2.2 5), .int (st.2.2 6), .int (st.2.2 7), .ref (ad 8), .ref (ad 9), .ref (ad 10), .ref (ad 11)])), (ad 1, .inl (g.2.1, 66, .inl (st.1 0))), (ad 2, .inl (g.2.1, 66, .inl (st.1 1))), (ad 3, .inl (g.2.1, 66, .inl (st.1 2))), (ad 4, .inl (g.2.1, 66, .inl (st.1 3))), (ad 5, .inl (g.2.1, 7, .inl (st.1 4))), (ad 6, .inl (g.2.1, 8, .inl (st.1 5))), (ad 7, .inl (g.2.1, 120, .inl (st.1 6))), (ad 8, .inl (g.2.1, 4, .inl (st.1 7))), (ad 9, .inl (g.2.1, 4, .inl (st.1 8))), (ad 10, .inl (g.2.2.1, 160, .inr (.inl (st.2.1 0)))), (ad 11, .inl (g.2.2.1, 40, .inr (.inl (st.2.1 1))))]
theorem pm_1 {α : Type} (a b c : List α) : (a ++ (b ++ c)).Perm ((a ++ c) ++ b) := by
  rw [List.append_assoc]
  exact (List.perm_append_comm (l₁ := b) (l₂ := c)).append_left a
theorem pm_2 {α : Type} (a b c d e : List α) : (a ++ (b ++ (c ++ (d ++ e)))).Perm ((a ++ (c ++ e)) ++ (b ++ d)) := by
  have h1 : (b ++ (c ++ (d ++ e))).Perm ((c ++ e) ++ (b ++ d)) := by
    have h2 : (b ++ (c ++ (d ++ e))).Perm (b ++ (d ++ (c ++ e))) := by
      refine List.Perm.append_left b ?_
      rw [← List.append_assoc, ← List.append_assoc]
      exact (List.perm_append_comm (l₁ := c) (l₂ := d)).append_right e
    have h3 : (b ++ (d ++ (c ++ e))).Perm ((c ++ e) ++ (b ++ d)) := by
      rw [← List.append_assoc]
      exact List.perm_append_comm
    exact h2.trans h3
  rw [List.append_assoc]
  exact h1.append_left a
theorem pm_3 {α : Type} (a b c d e : List α) : (a ++ (b ++ (c ++ (d ++ e)))).Perm ((a ++ (c ++ e)) ++ (d ++ b)) :=
  (pm_2 a b c d e).trans ((List.perm_append_comm (l₁ := b) (l₂ := d)).append_left _)
theorem nm_w {g : GT} {K : KT} {nL n1 n2 pc : Nat} {lv : List (Nat × Value)} {st : List Value} {σ ρ : Type} (wf : σ → va_W) {s2 : σ} {kk : σ → ρ} {r : ρ} (h : nm s2 kk = r) (k : ∀ y, kk y = r → WA g K nL n1 n2 pc lv st (wf y)) : WA g K nL n1 n2 pc lv st (wf s2) := k s2 h
abbrev wr0 (g : GT) (ad : Nat → Nat) (G : Nat → StT) : va_W := (([] : va_W)) ++ (rm_ws g (adr ad 1) (G 1) ++ (rm_ws g (adr ad 11) (G 2) ++ (rm_ws g (adr ad 21) (G 3) ++ (tx_ws g (adr ad 31) (G 4) ++ (sh_ws g (adr ad (34 + 2 * 0)) (G (5 + 0)) ++ (sh_ws g (adr ad (34 + 2 * 1)) (G (5 + 1)) ++ (sh_ws g (adr ad (34 + 2 * 2)) (G (5 + 2)) ++ (sh_ws g (adr ad (34 + 2 * 3)) (G (5 + 3))))))))))
theorem sq0 (g : GT) (ad : Nat → Nat) (G : Nat → StT) : (wc_ws g ad G).Perm (wr0 g ad G ++ ow_ws g ad (G 0)) := pm_1 (([] : va_W)) (ow_ws g ad (G 0)) (rm_ws g (adr ad 1) (G 1) ++ (rm_ws g (adr ad 11) (G 2) ++ (rm_ws g (adr ad 21) (G 3) ++ (tx_ws g (adr ad 31) (G 4) ++ (sh_ws g (adr ad (34 + 2 * 0)) (G (5 + 0)) ++ (sh_ws g (adr ad (34 + 2 * 1)) (G (5 + 1)) ++ (sh_ws g (adr ad (34 + 2 * 2)) (G (5 + 2)) ++ (sh_ws g (adr ad (34 + 2 * 3)) (G (5 + 3))))))))))
theorem sp0 (g : GT) (ad : Nat → Nat) (G : Nat → StT) (s : StT) : (wc_ws g ad (gset G 0 s)).Perm (wr0 g ad G ++ ow_ws g ad s) := sq0 g ad (gset G 0 s)
abbrev wr1 (g : GT) (ad : Nat → Nat) (G : Nat → StT) : va_W := (ow_ws g ad (G 0)) ++ (rm_ws g (adr ad 11) (G 2) ++ (rm_ws g (adr ad 21) (G 3) ++ (tx_ws g (adr ad 31) (G 4) ++ (sh_ws g (adr ad (34 + 2 * 0)) (G (5 + 0)) ++ (sh_ws g (adr ad (34 + 2 * 1)) (G (5 + 1)) ++ (sh_ws g (adr ad (34 + 2 * 2)) (G (5 + 2)) ++ (sh_ws g (adr ad (34 + 2 * 3)) (G (5 + 3)))))))))
theorem sq1 (g : GT) (ad : Nat → Nat) (G : Nat → StT) : (wc_ws g ad G).Perm (wr1 g ad G ++ rm_ws g (adr ad 1) (G 1)) := pm_1 (ow_ws g ad (G 0)) (rm_ws g (adr ad 1) (G 1)) (rm_ws g (adr ad 11) (G 2) ++ (rm_ws g (adr ad 21) (G 3) ++ (tx_ws g (adr ad 31) (G 4) ++ (sh_ws g (adr ad (34 + 2 * 0)) (G (5 + 0)) ++ (sh_ws g (adr ad (34 + 2 * 1)) (G (5 + 1)) ++ (sh_ws g (adr ad (34 + 2 * 2)) (G (5 + 2)) ++ (sh_ws g (adr ad (34 + 2 * 3)) (G (5 + 3)))))))))
theorem sp1 (g : GT) (ad : Nat → Nat) (G : Nat → StT) (s : StT) : (wc_ws g ad (gset G 1 s)).Perm (wr1 g ad G ++ rm_ws g (adr ad 1) s) := sq1 g ad (gset G 1 s)
abbrev wr2 (g : GT) (ad : Nat → Nat) (G : Nat → StT) : va_W := (ow_ws g ad (G 0) ++ (rm_ws g (adr ad 1) (G 1))) ++ (rm_ws g (adr ad 21) (G 3) ++ (tx_ws g (adr ad 31) (G 4) ++ (sh_ws g (adr ad (34 + 2 * 0)) (G (5 + 0)) ++ (sh_ws g (adr ad (34 + 2 * 1)) (G (5 + 1)) ++ (sh_ws g (adr ad (34 + 2 * 2)) (G (5 + 2)) ++ (sh_ws g (adr ad (34 + 2 * 3)) (G (5 + 3))))))))
theorem sq2 (g : GT) (ad : Nat → Nat) (G : Nat → StT) : (wc_ws g ad G).Perm (wr2 g ad G ++ rm_ws g (adr ad 11) (G 2)) := pm_1 (ow_ws g ad (G 0) ++ (rm_ws g (adr ad 1) (G 1))) (rm_ws g (adr ad 11) (G 2)) (rm_ws g (adr ad 21) (G 3) ++ (tx_ws g (adr ad 31) (G 4) ++ (sh_ws g (adr ad (34 + 2 * 0)) (G (5 + 0)) ++ (sh_ws g (adr ad (34 + 2 * 1)) (G (5 + 1)) ++ (sh_ws g (adr ad (34 + 2 * 2)) (G (5 + 2)) ++ (sh_ws g (adr ad (34 + 2 * 3)) (G (5 + 3))))))))
theorem sp2 (g : GT) (ad : Nat → Nat) (G : Nat → StT) (s : StT) : (wc_ws g ad (gset G 2 s)).Perm (wr2 g ad G ++ rm_ws g (adr ad 11) s) := sq2 g ad (gset G 2 s)
abbrev wr3 (g : GT) (ad : Nat → Nat) (G : Nat → StT) : va_W := (ow_ws g ad (G 0) ++ (rm_ws g (adr ad 1) (G 1) ++ (rm_ws g (adr ad 11) (G 2)))) ++ (tx_ws g (adr ad 31) (G 4) ++ (sh_ws g (adr ad (34 + 2 * 0)) (G (5 + 0)) ++ (sh_ws g (adr ad (34 + 2 * 1)) (G (5 + 1)) ++ (sh_ws g (adr ad (34 + 2 * 2)) (G (5 + 2)) ++ (sh_ws g (adr ad (34 + 2 * 3)) (G (5 + 3)))))))
theorem sq3 (g : GT) (ad : Nat → Nat) (G : Nat → StT) : (wc_ws g ad G).Perm (wr3 g ad G ++ rm_ws g (adr ad 21) (G 3)) := pm_1 (ow_ws g ad (G 0) ++ (rm_ws g (adr ad 1) (G 1) ++ (rm_ws g (adr ad 11) (G 2)))) (rm_ws g (adr ad 21) (G 3)) (tx_ws g (adr ad 31) (G 4) ++ (sh_ws g (adr ad (34 + 2 * 0)) (G (5 + 0)) ++ (sh_ws g (adr ad (34 + 2 * 1)) (G (5 + 1)) ++ (sh_ws g (adr ad (34 + 2 * 2)) (G (5 + 2)) ++ (sh_ws g (adr ad (34 + 2 * 3)) (G (5 + 3)))))))
theorem sp3 (g : GT) (ad : Nat → Nat) (G : Nat → StT) (s : StT) : (wc_ws g ad (gset G 3 s)).Perm (wr3 g ad G ++ rm_ws g (adr ad 21) s) := sq3 g ad (gset G 3 s)
abbrev wr4 (g : GT) (ad : Nat → Nat) (G : Nat → StT) : va_W := (ow_ws g ad (G 0) ++ (rm_ws g (adr ad 1) (G 1) ++ (rm_ws g (adr ad 11) (G 2) ++ (rm_ws g (adr ad 21) (G 3))))) ++ (sh_ws g (adr ad (34 + 2 * 0)) (G (5 + 0)) ++ (sh_ws g (adr ad (34 + 2 * 1)) (G (5 + 1)) ++ (sh_ws g (adr ad (34 + 2 * 2)) (G (5 + 2)) ++ (sh_ws g (adr ad (34 + 2 * 3)) (G (5 + 3))))))
theorem sq4 (g : GT) (ad : Nat → Nat) (G : Nat → StT) : (wc_ws g ad G).Perm (wr4 g ad G ++ tx_ws g (adr ad 31) (G 4)) := pm_1 (ow_ws g ad (G 0) ++ (rm_ws g (adr ad 1) (G 1) ++ (rm_ws g (adr ad 11) (G 2) ++ (rm_ws g (adr ad 21) (G 3))))) (tx_ws g (adr ad 31) (G 4)) (sh_ws g (adr ad (34 + 2 * 0)) (G (5 + 0)) ++ (sh_ws g (adr ad (34 + 2 * 1)) (G (5 + 1)) ++ (sh_ws g (adr ad (34 + 2 * 2)) (G (5 + 2)) ++ (sh_ws g (adr ad (34 + 2 * 3)) (G (5 + 3))))))
theorem sp4 (g : GT) (ad : Nat → Nat) (G : Nat → StT) (s : StT) : (wc_ws g ad (gset G 4 s)).Perm (wr4 g ad G ++ tx_ws g (adr ad 31) s) := sq4 g ad (gset G 4 s)
abbrev wr21 (g : GT) (ad : Nat → Nat) (G : Nat → StT) : va_W := (ow_ws g ad (G 0)) ++ ((([] : va_W)) ++ (rm_ws g (adr ad 21) (G 3) ++ (tx_ws g (adr ad 31) (G 4) ++ (sh_ws g (adr ad (34 + 2 * 0)) (G (5 + 0)) ++ (sh_ws g (adr ad (34 + 2 * 1)) (G (5 + 1)) ++ (sh_ws g (adr ad (34 + 2 * 2)) (G (5 + 2)) ++ (sh_ws g (adr ad (34 + 2 * 3)) (G (5 + 3)))))))))
theorem sq21 (g : GT) (ad : Nat → Nat) (G : Nat → StT) : (wc_ws g ad G).Perm (wr21 g ad G ++ (rm_ws g (adr ad 11) (G 2) ++ rm_ws g (adr ad 1) (G 1))) := pm_3 (ow_ws g ad (G 0)) (rm_ws g (adr ad 1) (G 1)) (([] : va_W)) (rm_ws g (adr ad 11) (G 2)) (rm_ws g (adr ad 21) (G 3) ++ (tx_ws g (adr ad 31) (G 4) ++ (sh_ws g (adr ad (34 + 2 * 0)) (G (5 + 0)) ++ (sh_ws g (adr ad (34 + 2 * 1)) (G (5 + 1)) ++ (sh_ws g (adr ad (34 + 2 * 2)) (G (5 + 2)) ++ (sh_ws g (adr ad (34 + 2 * 3)) (G (5 + 3))))))))
theorem sp21 (g : GT) (ad : Nat → Nat) (G : Nat → StT) (p : StT × StT) : (wc_ws g ad (gset (gset G 2 p.1) 1 p.2)).Perm (wr21 g ad G ++ (rm_ws g (adr ad 11) p.1 ++ rm_ws g (adr ad 1) p.2)) := sq21 g ad (gset (gset G 2 p.1) 1 p.2)
abbrev wr31 (g : GT) (ad : Nat → Nat) (G : Nat → StT) : va_W := (ow_ws g ad (G 0)) ++ ((rm_ws g (adr ad 11) (G 2)) ++ (tx_ws g (adr ad 31) (G 4) ++ (sh_ws g (adr ad (34 + 2 * 0)) (G (5 + 0)) ++ (sh_ws g (adr ad (34 + 2 * 1)) (G (5 + 1)) ++ (sh_ws g (adr ad (34 + 2 * 2)) (G (5 + 2)) ++ (sh_ws g (adr ad (34 + 2 * 3)) (G (5 + 3))))))))
theorem sq31 (g : GT) (ad : Nat → Nat) (G : Nat → StT) : (wc_ws g ad G).Perm (wr31 g ad G ++ (rm_ws g (adr ad 21) (G 3) ++ rm_ws g (adr ad 1) (G 1))) := pm_3 (ow_ws g ad (G 0)) (rm_ws g (adr ad 1) (G 1)) (rm_ws g (adr ad 11) (G 2)) (rm_ws g (adr ad 21) (G 3)) (tx_ws g (adr ad 31) (G 4) ++ (sh_ws g (adr ad (34 + 2 * 0)) (G (5 + 0)) ++ (sh_ws g (adr ad (34 + 2 * 1)) (G (5 + 1)) ++ (sh_ws g (adr ad (34 + 2 * 2)) (G (5 + 2)) ++ (sh_ws g (adr ad (34 + 2 * 3)) (G (5 + 3)))))))
theorem sp31 (g : GT) (ad : Nat → Nat) (G : Nat → StT) (p : StT × StT) : (wc_ws g ad (gset (gset G 3 p.1) 1 p.2)).Perm (wr31 g ad G ++ (rm_ws g (adr ad 21) p.1 ++ rm_ws g (adr ad 1) p.2)) := sq31 g ad (gset (gset G 3 p.1) 1 p.2)
abbrev wr13 (g : GT) (ad : Nat → Nat) (G : Nat → StT) : va_W := (ow_ws g ad (G 0)) ++ ((rm_ws g (adr ad 11) (G 2)) ++ (tx_ws g (adr ad 31) (G 4) ++ (sh_ws g (adr ad (34 + 2 * 0)) (G (5 + 0)) ++ (sh_ws g (adr ad (34 + 2 * 1)) (G (5 + 1)) ++ (sh_ws g (adr ad (34 + 2 * 2)) (G (5 + 2)) ++ (sh_ws g (adr ad (34 + 2 * 3)) (G (5 + 3))))))))
theorem sq13 (g : GT) (ad : Nat → Nat) (G : Nat → StT) : (wc_ws g ad G).Perm (wr13 g ad G ++ (rm_ws g (adr ad 1) (G 1) ++ rm_ws g (adr ad 21) (G 3))) := pm_2 (ow_ws g ad (G 0)) (rm_ws g (adr ad 1) (G 1)) (rm_ws g (adr ad 11) (G 2)) (rm_ws g (adr ad 21) (G 3)) (tx_ws g (adr ad 31) (G 4) ++ (sh_ws g (adr ad (34 + 2 * 0)) (G (5 + 0)) ++ (sh_ws g (adr ad (34 + 2 * 1)) (G (5 + 1)) ++ (sh_ws g (adr ad (34 + 2 * 2)) (G (5 + 2)) ++ (sh_ws g (adr ad (34 + 2 * 3)) (G (5 + 3)))))))
theorem sp13 (g : GT) (ad : Nat → Nat) (G : Nat → StT) (p : StT × StT) : (wc_ws g ad (gset (gset G 1 p.1) 3 p.2)).Perm (wr13 g ad G ++ (rm_ws g (adr ad 1) p.1 ++ rm_ws g (adr ad 21) p.2)) := sq13 g ad (gset (gset G 1 p.1) 3 p.2)
abbrev wr12 (g : GT) (ad : Nat → Nat) (G : Nat → StT) : va_W := (ow_ws g ad (G 0)) ++ ((([] : va_W)) ++ (rm_ws g (adr ad 21) (G 3) ++ (tx_ws g (adr ad 31) (G 4) ++ (sh_ws g (adr ad (34 + 2 * 0)) (G (5 + 0)) ++ (sh_ws g (adr ad (34 + 2 * 1)) (G (5 + 1)) ++ (sh_ws g (adr ad (34 + 2 * 2)) (G (5 + 2)) ++ (sh_ws g (adr ad (34 + 2 * 3)) (G (5 + 3)))))))))
theorem sq12 (g : GT) (ad : Nat → Nat) (G : Nat → StT) : (wc_ws g ad G).Perm (wr12 g ad G ++ (rm_ws g (adr ad 1) (G 1) ++ rm_ws g (adr ad 11) (G 2))) := pm_2 (ow_ws g ad (G 0)) (rm_ws g (adr ad 1) (G 1)) (([] : va_W)) (rm_ws g (adr ad 11) (G 2)) (rm_ws g (adr ad 21) (G 3) ++ (tx_ws g (adr ad 31) (G 4) ++ (sh_ws g (adr ad (34 + 2 * 0)) (G (5 + 0)) ++ (sh_ws g (adr ad (34 + 2 * 1)) (G (5 + 1)) ++ (sh_ws g (adr ad (34 + 2 * 2)) (G (5 + 2)) ++ (sh_ws g (adr ad (34 + 2 * 3)) (G (5 + 3))))))))
theorem sp12 (g : GT) (ad : Nat → Nat) (G : Nat → StT) (p : StT × StT) : (wc_ws g ad (gset (gset G 1 p.1) 2 p.2)).Perm (wr12 g ad G ++ (rm_ws g (adr ad 1) p.1 ++ rm_ws g (adr ad 11) p.2)) := sq12 g ad (gset (gset G 1 p.1) 2 p.2)
abbrev wr42 (g : GT) (ad : Nat → Nat) (G : Nat → StT) : va_W := (ow_ws g ad (G 0) ++ (rm_ws g (adr ad 1) (G 1))) ++ ((rm_ws g (adr ad 21) (G 3)) ++ (sh_ws g (adr ad (34 + 2 * 0)) (G (5 + 0)) ++ (sh_ws g (adr ad (34 + 2 * 1)) (G (5 + 1)) ++ (sh_ws g (adr ad (34 + 2 * 2)) (G (5 + 2)) ++ (sh_ws g (adr ad (34 + 2 * 3)) (G (5 + 3)))))))
theorem sq42 (g : GT) (ad : Nat → Nat) (G : Nat → StT) : (wc_ws g ad G).Perm (wr42 g ad G ++ (tx_ws g (adr ad 31) (G 4) ++ rm_ws g (adr ad 11) (G 2))) := pm_3 (ow_ws g ad (G 0) ++ (rm_ws g (adr ad 1) (G 1))) (rm_ws g (adr ad 11) (G 2)) (rm_ws g (adr ad 21) (G 3)) (tx_ws g (adr ad 31) (G 4)) (sh_ws g (adr ad (34 + 2 * 0)) (G (5 + 0)) ++ (sh_ws g (adr ad (34 + 2 * 1)) (G (5 + 1)) ++ (sh_ws g (adr ad (34 + 2 * 2)) (G (5 + 2)) ++ (sh_ws g (adr ad (34 + 2 * 3)) (G (5 + 3))))))
theorem sp42 (g : GT) (ad : Nat → Nat) (G : Nat → StT) (p : StT × StT) : (wc_ws g ad (gset (gset G 4 p.1) 2 p.2)).Perm (wr42 g ad G ++ (tx_ws g (adr ad 31) p.1 ++ rm_ws g (adr ad 11) p.2)) := sq42 g ad (gset (gset G 4 p.1) 2 p.2)
abbrev wrs (g : GT) (ad : Nat → Nat) (G : Nat → StT) (k : Nat) : va_W := match k with
  | 0 => (ow_ws g ad (G 0) ++ (rm_ws g (adr ad 1) (G 1) ++ (rm_ws g (adr ad 11) (G 2) ++ (rm_ws g (adr ad 21) (G 3) ++ (tx_ws g (adr ad 31) (G 4)))))) ++ (sh_ws g (adr ad (34 + 2 * 1)) (G (5 + 1)) ++ (sh_ws g (adr ad (34 + 2 * 2)) (G (5 + 2)) ++ (sh_ws g (adr ad (34 + 2 * 3)) (G (5 + 3)))))
  | 1 => (ow_ws g ad (G 0) ++ (rm_ws g (adr ad 1) (G 1) ++ (rm_ws g (adr ad 11) (G 2) ++ (rm_ws g (adr ad 21) (G 3) ++ (tx_ws g (adr ad 31) (G 4) ++ (sh_ws g (adr ad (34 + 2 * 0)) (G (5 + 0)))))))) ++ (sh_ws g (adr ad (34 + 2 * 2)) (G (5 + 2)) ++ (sh_ws g (adr ad (34 + 2 * 3)) (G (5 + 3))))
  | 2 => (ow_ws g ad (G 0) ++ (rm_ws g (adr ad 1) (G 1) ++ (rm_ws g (adr ad 11) (G 2) ++ (rm_ws g (adr ad 21) (G 3) ++ (tx_ws g (adr ad 31) (G 4) ++ (sh_ws g (adr ad (34 + 2 * 0)) (G (5 + 0)) ++ (sh_ws g (adr ad (34 + 2 * 1)) (G (5 + 1))))))))) ++ (sh_ws g (adr ad (34 + 2 * 3)) (G (5 + 3)))
  | _ => (ow_ws g ad (G 0) ++ (rm_ws g (adr ad 1) (G 1) ++ (rm_ws g (adr ad 11) (G 2) ++ (rm_ws g (adr ad 21) (G 3) ++ (tx_ws g (adr ad 31) (G 4) ++ (sh_ws g (adr ad (34 + 2 * 0)) (G (5 + 0)) ++ (sh_ws g (adr ad (34 + 2 * 1)) (G (5 + 1)) ++ (sh_ws g (adr ad (34 + 2 * 2)) (G (5 + 2)))))))))) ++ (([] : va_W))
theorem sqs (g : GT) (ad : Nat → Nat) (G : Nat → StT) {k : Nat} (hk : k < 4) : (wc_ws g ad G).Perm (wrs g ad G k ++ sh_ws g (adr ad (34 + 2 * k)) (G (5 + k))) := by
  match k, hk with
  | 0, _ => exact pm_1 (ow_ws g ad (G 0) ++ (rm_ws g (adr ad 1) (G 1) ++ (rm_ws g (adr ad 11) (G 2) ++ (rm_ws g (adr ad 21) (G 3) ++ (tx_ws g (adr ad 31) (G 4)))))) (sh_ws g (adr ad (34 + 2 * 0)) (G (5 + 0))) (sh_ws g (adr ad (34 + 2 * 1)) (G (5 + 1)) ++ (sh_ws g (adr ad (34 + 2 * 2)) (G (5 + 2)) ++ (sh_ws g (adr ad (34 + 2 * 3)) (G (5 + 3)))))
  | 1, _ => exact pm_1 (ow_ws g ad (G 0) ++ (rm_ws g (adr ad 1) (G 1) ++ (rm_ws g (adr ad 11) (G 2) ++ (rm_ws g (adr ad 21) (G 3) ++ (tx_ws g (adr ad 31) (G 4) ++ (sh_ws g (adr ad (34 + 2 * 0)) (G (5 + 0)))))))) (sh_ws g (adr ad (34 + 2 * 1)) (G (5 + 1))) (sh_ws g (adr ad (34 + 2 * 2)) (G (5 + 2)) ++ (sh_ws g (adr ad (34 + 2 * 3)) (G (5 + 3))))
  | 2, _ => exact pm_1 (ow_ws g ad (G 0) ++ (rm_ws g (adr ad 1) (G 1) ++ (rm_ws g (adr ad 11) (G 2) ++ (rm_ws g (adr ad 21) (G 3) ++ (tx_ws g (adr ad 31) (G 4) ++ (sh_ws g (adr ad (34 + 2 * 0)) (G (5 + 0)) ++ (sh_ws g (adr ad (34 + 2 * 1)) (G (5 + 1))))))))) (sh_ws g (adr ad (34 + 2 * 2)) (G (5 + 2))) (sh_ws g (adr ad (34 + 2 * 3)) (G (5 + 3)))
  | 3, _ => exact pm_1 (ow_ws g ad (G 0) ++ (rm_ws g (adr ad 1) (G 1) ++ (rm_ws g (adr ad 11) (G 2) ++ (rm_ws g (adr ad 21) (G 3) ++ (tx_ws g (adr ad 31) (G 4) ++ (sh_ws g (adr ad (34 + 2 * 0)) (G (5 + 0)) ++ (sh_ws g (adr ad (34 + 2 * 1)) (G (5 + 1)) ++ (sh_ws g (adr ad (34 + 2 * 2)) (G (5 + 2)))))))))) (sh_ws g (adr ad (34 + 2 * 3)) (G (5 + 3))) (([] : va_W))
theorem sps (g : GT) (ad : Nat → Nat) (G : Nat → StT) {k : Nat} (hk : k < 4) (s : StT) : (wc_ws g ad (gset G (5 + k) s)).Perm (wrs g ad G k ++ sh_ws g (adr ad (34 + 2 * k)) s) := by
  match k, hk with
  | 0, h => exact sqs g ad (gset G (5 + 0) s) h
  | 1, h => exact sqs g ad (gset G (5 + 1) s) h
  | 2, h => exact sqs g ad (gset G (5 + 2) s) h
  | 3, h => exact sqs g ad (gset G (5 + 3) s) h
theorem gs_o (g : GT) (ad : Nat → Nat) (G : Nat → StT) {k : Nat} (hk : k < 4) : (wc_ws g ad G)[36 + 2 * k]? = some (adr ad (34 + 2 * k) 0, .inr (1, [.ref (adr ad (34 + 2 * k) 1), .int ((G (5 + k)).2.2 0), .int ((G (5 + k)).2.2 1)])) := by
  match k, hk with
  | 0, _ => rfl
  | 1, _ => rfl
  | 2, _ => rfl
  | 3, _ => rfl
theorem gs_n (g : GT) (ad : Nat → Nat) (G : Nat → StT) {k : Nat} (hk : k < 4) : (wc_ws g ad G)[37 + 2 * k]? = some (adr ad (34 + 2 * k) 1, .inl (g.2.2.1, 40, .inr (.inl ((G (5 + k)).2.1 0)))) := by
  match k, hk with
  | 0, _ => rfl
  | 1, _ => rfl
  | 2, _ => rfl
  | 3, _ => rfl
theorem ss_n (g : GT) (ad : Nat → Nat) (G : Nat → StT) {k : Nat} (hk : k < 4) (f : Nat → Int64) : (wc_ws g ad G).set (37 + 2 * k) (adr ad (34 + 2 * k) 1, .inl (g.2.2.1, 40, .inr (.inl f))) = wc_ws g ad (gset G (5 + k) (setL (G (5 + k)) 0 f)) := by
  match k, hk with
  | 0, _ => rfl
  | 1, _ => rfl
  | 2, _ => rfl
  | 3, _ => rfl
