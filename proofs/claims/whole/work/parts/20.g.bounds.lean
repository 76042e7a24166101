-- how large these numbers are
theorem tadd {x y : Int32} (h1 : -2147483648 ≤ x.toInt + y.toInt) (h2 : x.toInt + y.toInt < 2147483648) : (x + y).toInt = x.toInt + y.toInt := by
  rw [Int32.toInt_add]
  simp only [Int.bmod]
  omega
theorem tsub {x y : Int32} (h1 : -2147483648 ≤ x.toInt - y.toInt) (h2 : x.toInt - y.toInt < 2147483648) : (x - y).toInt = x.toInt - y.toInt := by
  rw [Int32.toInt_sub]
  simp only [Int.bmod]
  omega
def Bd (x : Int32) (a b : Int) : Prop := a ≤ x.toInt ∧ x.toInt ≤ b
theorem Bd.add {x y : Int32} {a b c d : Int} (h : Bd x a b) (h2 : Bd y c d) (ha : -1000000 ≤ a) (hb : b ≤ 1000000) (hc : -1000000 ≤ c) (hd : d ≤ 1000000) : Bd (x + y) (a + c) (b + d) := by
  unfold Bd at *
  rw [tadd (by omega) (by omega)]
  omega
theorem Bd.sub {x y : Int32} {a b c d : Int} (h : Bd x a b) (h2 : Bd y c d) (ha : -1000000 ≤ a) (hb : b ≤ 1000000) (hc : -1000000 ≤ c) (hd : d ≤ 1000000) : Bd (x - y) (a - d) (b - c) := by
  unfold Bd at *
  rw [tsub (by omega) (by omega)]
  omega
theorem Bd.wk {x : Int32} {a b c d : Int} (h : Bd x a b) (h1 : c ≤ a) (h2 : b ≤ d) : Bd x c d := ⟨Int.le_trans h1 h.1, Int.le_trans h.2 h2⟩
theorem Bd.n {k m : Nat} (h : k ≤ m) (hm : m < 2147483648) : Bd (nI k) 0 m := by
  unfold Bd
  rw [tI (by omega)]
  omega
theorem Bd_ite {c : Prop} [Decidable c] {x y : Int32} {a b : Int} (h : c → Bd x a b) (h2 : ¬ c → Bd y a b) : Bd (if c then x else y) a b := by
  by_cases hc : c
  · rw [if_pos hc]; exact h hc
  · rw [if_neg hc]; exact h2 hc
theorem Bd_0 : Bd 0 0 0 := ⟨by decide, by decide⟩
theorem div_n {a d : Nat} (ha : a < 2147483648) (h0 : 0 < d) (hd : d < 2147483648) : nI a / nI d = nI (a / d) := pk_div ha h0 hd
theorem GS_b {n : Nat} {R : StT} (h : RI n R) {c : Nat} (hc : c < 8) : Bd (GS R c) (-13) 20 := by
  obtain ⟨⟨v, hv, ev⟩, d, hd, ed⟩ := h.2.2.1 c hc
  have b : Bd (R.1 0 c - R.1 1 c) (-9) 20 := by
    rw [ev, ed]
    exact ((Bd.n hv (by omega)).sub (Bd.n hd (by omega)) (by omega) (by omega) (by omega) (by omega)).wk (by omega) (by omega)
  unfold GS
  refine Bd_ite (fun _ => ?_) (fun _ => b.wk (by omega) (by omega))
  exact (b.sub (c := 4) (d := 4) ⟨by decide, by decide⟩ (by omega) (by omega) (by omega) (by omega)).wk (by omega) (by omega)
theorem DF_b {n : Nat} {R : StT} (h : RI n R) {c : Nat} (hc : c < 8) : Bd (DF R c) (-18) 10 := by
  obtain ⟨⟨v, hv, ev⟩, d, hd, ed⟩ := h.2.2.1 c hc
  unfold DF
  rw [ev, ed, li 2, div_n (by omega) (by omega) (by omega), pk_mul]
  exact ((Bd.n (show v / 2 ≤ 10 by omega) (by omega)).sub (Bd.n (show 2 * d ≤ 18 by omega) (by omega)) (by omega) (by omega) (by omega) (by omega)).wk (by omega) (by omega)
theorem LK_b {n : Nat} {R : StT} (h : RI n R) {p c : Nat} (hp : p < n) (hc : c < 8) : Bd (LK R p c) (-18) 54 := by
  have g := GS_b h hc
  have d := DF_b h hc
  have a4 : Bd (R.1 4 p / 4) 0 24 := by
    obtain ⟨-, ⟨a, ha, ea⟩, -⟩ := h.2.2.2.1 p hp
    rw [ea, li 4, div_n (by omega) (by omega) (by omega)]
    exact Bd.n (m := 24) (by omega) (by omega)
  have ga := g.add a4 (by omega) (by omega) (by omega) (by omega)
  unfold LK
  refine Bd_ite (fun _ => Bd_ite (fun _ => ga.wk (by omega) (by omega)) (fun _ => g.wk (by omega) (by omega))) (fun _ => Bd_ite (fun _ => ?_) (fun _ => Bd_ite (fun _ => d.wk (by omega) (by omega)) (fun _ => Bd_ite (fun _ => Bd_ite (fun _ => ?_) (fun _ => g.wk (by omega) (by omega))) (fun _ => Bd_ite (fun _ => Bd_ite (fun _ => ?_) (fun _ => d.wk (by omega) (by omega))) (fun _ => g.wk (by omega) (by omega))))))
  · exact (g.add (c := 3) (d := 3) ⟨by decide, by decide⟩ (by omega) (by omega) (by omega) (by omega)).wk (by omega) (by omega)
  · exact (ga.add (c := 10) (d := 10) ⟨by decide, by decide⟩ (by omega) (by omega) (by omega) (by omega)).wk (by omega) (by omega)
  · exact (d.add (c := 6) (d := 6) ⟨by decide, by decide⟩ (by omega) (by omega) (by omega) (by omega)).wk (by omega) (by omega)
theorem MD_b (R : StT) (p q : Nat) : Bd (MD R p q) (-12) 2 := by
  unfold MD
  by_cases ho : ((R.1 6 p >>> (nI q &&& 31)) &&& 1) = 1
  · simp only [if_pos ho]
    exact Bd_ite (fun _ => ⟨by decide, by decide⟩) (fun _ => Bd_ite (fun _ => ⟨by decide, by decide⟩) (fun _ => Bd_ite (fun _ => ⟨by decide, by decide⟩) (fun _ => Bd_ite (fun _ => Bd_ite (fun _ => ⟨by decide, by decide⟩) (fun _ => ⟨by decide, by decide⟩)) (fun _ => ⟨by decide, by decide⟩))))
  · simp only [if_neg ho]
    exact Bd_ite (fun _ => ⟨by decide, by decide⟩) (fun _ => Bd_ite (fun _ => ⟨by decide, by decide⟩) (fun _ => Bd_ite (fun _ => ⟨by decide, by decide⟩) (fun _ => Bd_ite (fun _ => Bd_ite (fun _ => ⟨by decide, by decide⟩) (fun _ => ⟨by decide, by decide⟩)) (fun _ => ⟨by decide, by decide⟩))))
theorem nbr_b (R : StT) (p c : Nat) : Bd (nbr R p c) (-12) 2 := by
  unfold nbr
  exact Bd_ite (fun _ => ⟨by decide, by decide⟩) (fun _ => Bd_ite (fun _ => ⟨by decide, by decide⟩) (fun _ => MD_b R p _))
theorem HW_b {n : Nat} {R : StT} (h : RI n R) {p c : Nat} (hp : p < n) (hc : c < 8) : Bd (HW R p c) (-42) 58 := by
  unfold HW
  have z : Bd 0 (-12) 2 := ⟨by decide, by decide⟩
  exact (((LK_b h hp hc).add (Bd_ite (fun _ => z) (fun _ => nbr_b R p _)) (by omega) (by omega) (by omega) (by omega)).add (Bd_ite (fun _ => z) (fun _ => nbr_b R p _)) (by omega) (by omega) (by omega) (by omega)).wk (by omega) (by omega)
theorem GU_b {n : Nat} {R : StT} (h : RI n R) {p : Nat} (hp : p < n) : Bd (GU R p) 4 99 := by
  obtain ⟨-, ⟨a, ha, ea⟩, -⟩ := h.2.2.2.1 p hp
  unfold GU
  refine Bd_ite (fun _ => ?_) (fun _ => Bd_ite (fun _ => ⟨by decide, by decide⟩) (fun _ => Bd_ite (fun _ => ⟨by decide, by decide⟩) (fun _ => Bd_ite (fun _ => ⟨by decide, by decide⟩) (fun _ => ⟨by decide, by decide⟩))))
  rw [ea, li 10, div_n (by omega) (by omega) (by omega), li 8, nI_add]
  unfold Bd
  rw [tI (by omega)]
  omega
/-- the claim's condition, as the one and the other ask it -/
theorem cl_iff {x y z : Int32} (hx : Bd x (-42) 58) (hy : Bd y (-42) 58) (hz : Bd z 4 99) : y + z ≤ x ↔ z ≤ x - y := by
  unfold Bd at *
  rw [ile, ile, tadd (by omega) (by omega), tsub (by omega) (by omega)]
  omega
