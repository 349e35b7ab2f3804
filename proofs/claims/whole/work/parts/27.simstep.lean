/-! ===== a step of the reading: the class's, and beside it the reference's ===== -/
def ADDX (ρ : ZSt) (o l b a : Int) : ZSt := xtake (xnadd ρ 13 o l b a) (xnaddr ρ 13)
section ADD
variable {ρ : ZSt} {o l b a : Int}
theorem addx_row (h : ρ 13 5 < 120) {c : Nat} (hc : ¬ (13 ≤ c ∧ c ≤ 18) ∧ c ≠ 25) : ADDX ρ o l b a c = ρ c := by
  unfold ADDX xtake
  rw [zup_row hc.2, zup_row hc.2, zup_row hc.2, xnadd_row (by omega)]
theorem addx_cnt (h : ρ 13 5 < 120) : ADDX ρ o l b a 13 5 = ρ 13 5 + 1 := by
  unfold ADDX xtake
  rw [zup_cell (by decide), zup_cell (by decide), zup_cell (by decide), xnadd_cnt h]
theorem addx_25 (h : ρ 13 5 < 120) {j : Nat} (hj : j ≠ 8 ∧ j ≠ 9 ∧ j ≠ 10) : ADDX ρ o l b a 25 j = ρ 25 j := by
  unfold ADDX xtake
  rw [zup_place hj.1, zup_place hj.2.2, zup_place hj.2.1, xnadd_row (by decide)]
theorem addx_8 : ADDX ρ o l b a 25 8 = 0 := rfl
theorem addx_10 : ADDX ρ o l b a 25 10 = 0 := rfl
theorem addx_9 (h : ρ 13 5 < 120) : ADDX ρ o l b a 25 9 = ρ 13 5 := by
  show xnaddr ρ 13 = _
  exact xnaddr_lt h
theorem addx_arr (h : ρ 13 5 < 120) (i : Nat) :
    ADDX ρ o l b a 14 i = (if i = (ρ 13 5).toNat then o else ρ 14 i) ∧ ADDX ρ o l b a 15 i = (if i = (ρ 13 5).toNat then l else ρ 15 i) ∧
    ADDX ρ o l b a 16 i = (if i = (ρ 13 5).toNat then b else ρ 16 i) ∧ ADDX ρ o l b a 17 i = (if i = (ρ 13 5).toNat then a else ρ 17 i) ∧
    ADDX ρ o l b a 18 i = (if i = (ρ 13 5).toNat then zw (1 + xnsz ρ 13 b + xnsz ρ 13 a) else ρ 18 i) := by
  unfold ADDX xtake xnadd
  rw [if_neg (by omega)]
  refine ⟨?_, ?_, ?_, ?_, ?_⟩ <;> simp [zup]
theorem addx_old (h : 0 ≤ ρ 13 5 ∧ ρ 13 5 < 120) {c : Int} (hc : c = -1 ∨ (0 ≤ c ∧ c < ρ 13 5)) : xnsz (ADDX ρ o l b a) 13 c = xnsz ρ 13 c := by
  unfold xnsz
  rw [addx_cnt h.2]
  rcases hc with rfl | hc
  · rw [zget_out (by omega), zget_out (by omega)]
  · rw [zget_in (by omega), zget_in hc]
    show ADDX ρ o l b a 18 _ = ρ 18 _
    rw [(addx_arr h.2 _).2.2.2.2, if_neg (by omega)]
theorem addx_new (h : 0 ≤ ρ 13 5 ∧ ρ 13 5 < 120) : xnsz (ADDX ρ o l b a) 13 (ρ 13 5) = zw (1 + xnsz ρ 13 b + xnsz ρ 13 a) := by
  unfold xnsz
  rw [addx_cnt h.2, zget_in (by omega)]
  show ADDX ρ o l b a 18 _ = _
  rw [(addx_arr h.2 _).2.2.2.2, if_pos rfl]
  rfl
theorem addx_nd (h : 0 ≤ ρ 13 5 ∧ ρ 13 5 < 120) {i : Nat} (hi : (i : Int) < ρ 13 5) (hn : NdOK ρ 13 i) : NdOK (ADDX ρ o l b a) 13 i := by
  obtain ⟨e1, e2, e3, e4, e5⟩ := addx_arr (o := o) (l := l) (b := b) (a := a) h.2 i
  rw [if_neg (by omega)] at e1 e2 e3 e4 e5
  have r1 : ADDX ρ o l b a 1 = ρ 1 := addx_row h.2 (by decide)
  have r3 : ADDX ρ o l b a 3 = ρ 3 := addx_row h.2 (by decide)
  unfold NdOK at hn ⊢
  simp only [Nat.reduceAdd] at hn ⊢
  rw [e1, e2, e3, e4, e5, r1, r3]
  refine ⟨hn.1, ?_⟩
  rw [hn.2, addx_old h (by omega), addx_old h (by omega)]
end ADD
/-- what a node to be added must be -/
def NwOK (ρ : ZSt) (o l b a : Int) : Prop := (o = -1 ∧ (97 ≤ l ∧ l ≤ 122) ∧ b = -1 ∧ a = -1) ∨ ((0 ≤ o ∧ o < ρ 1 5) ∧ l = -1 ∧ ((ρ 3 o.toNat = 0 ∧ (0 ≤ b ∧ b < ρ 13 5) ∧ (0 ≤ a ∧ a < ρ 13 5)) ∨ (ρ 3 o.toNat = 1 ∧ b = -1 ∧ (0 ≤ a ∧ a < ρ 13 5)) ∨ (ρ 3 o.toNat = 2 ∧ (0 ≤ b ∧ b < ρ 13 5) ∧ a = -1)))
theorem addx_ndnew {ρ : ZSt} {o l b a : Int} (h : 0 ≤ ρ 13 5 ∧ ρ 13 5 < 120) (hw : NwOK ρ o l b a) (hz : zRg (1 + xnsz ρ 13 b + xnsz ρ 13 a)) : NdOK (ADDX ρ o l b a) 13 (ρ 13 5).toNat := by
  obtain ⟨e1, e2, e3, e4, e5⟩ := addx_arr (o := o) (l := l) (b := b) (a := a) h.2 (ρ 13 5).toNat
  rw [if_pos rfl] at e1 e2 e3 e4 e5
  have r1 : ADDX ρ o l b a 1 = ρ 1 := addx_row h.2 (by decide)
  have r3 : ADDX ρ o l b a 3 = ρ 3 := addx_row h.2 (by decide)
  unfold NdOK
  simp only [Nat.reduceAdd]
  rw [e1, e2, e3, e4, e5, r1, r3, zw_id hz, addx_old h (by unfold NwOK at hw; omega), addx_old h (by unfold NwOK at hw; omega), show (((ρ 13 5).toNat : Nat) : Int) = ρ 13 5 by omega]
  exact ⟨hw, rfl⟩
theorem zlive_congr {τ ρ : ZSt} : ∀ n : Nat, (∀ i, i < n → τ 28 i = ρ 28 i ∧ xnsz τ 13 (τ 28 i) = xnsz ρ 13 (ρ 28 i)) → zlive τ n = zlive ρ n := by
  intro n
  induction n with
  | zero => intro _; rfl
  | succ n ih =>
    intro h
    show zlive τ n + _ = zlive ρ n + _
    rw [ih (fun i hi => h i (by omega)), (h n (by omega)).2]
theorem zlive_nn {τ : ZSt} (h : ∀ c, 0 ≤ xnsz τ 13 c) : ∀ n : Nat, 0 ≤ zlive τ n := by
  intro n
  induction n with
  | zero => exact Int.le_refl 0
  | succ n ih => show 0 ≤ zlive τ n + _; have := h (τ 28 n); omega
theorem RX.sz {τ : ZSt} (h : RX τ) (c : Int) : 0 ≤ xnsz τ 13 c ∧ xnsz τ 13 c ≤ τ 13 5 := by
  obtain ⟨h1, h2, h3, h4, h5, h6, h7⟩ := h
  unfold xnsz
  by_cases hc : 0 ≤ c ∧ c < τ 13 5
  · rw [zget_in hc]
    have := (h6 c.toNat (by omega)).2
    show 0 ≤ τ 18 _ ∧ τ 18 _ ≤ _
    omega
  · rw [zget_out hc]; omega
theorem xfmin_eq {τ : ZSt} (h : 0 ≤ τ 25 6 ∧ τ 25 6 ≤ 120) : xfmin τ = if τ 25 6 = 0 then 0 else xmin τ (τ 26 (τ 25 6 - 1).toNat) := by
  unfold xfmin
  rw [xtop_eq h]
  by_cases hc : τ 25 6 = 0
  · rw [if_pos hc, zif_pos (by omega)]
  · rw [if_neg hc, zif_neg (by omega)]
theorem xmin_row {τ ρ : ZSt} (h1 : τ 1 = ρ 1) (h3 : τ 3 = ρ 3) (h4 : τ 4 = ρ 4) (h5 : τ 5 = ρ 5) (o : Int) : xmin τ o = xmin ρ o := by
  unfold xmin
  rw [h1, h3, h4, h5]
/-- a leaf, or a node that takes the left side as it stands (ahead of the sign; pos moves on) -/
theorem RX.add {τ : ZSt} (h : RX τ) (hp : τ 25 7 < τ 23 1) {o l b a : Int} (hw : NwOK τ o l b a)
    (hl : 1 + xnsz τ 13 b + xnsz τ 13 a + zlive τ (τ 25 6).toNat = τ 13 5 + 1) : RX (ADDX (zup τ 25 7 (τ 25 7 + 1)) o l b a) := by
  have hsz := h.sz
  obtain ⟨h1, h2, h3, h4, h5, h6, h7⟩ := h
  have hsb := hsz b
  have hsa := hsz a
  have hl0 := zlive_nn (fun c => (hsz c).1) (τ 25 6).toNat
  have hn : 0 ≤ (zup τ 25 7 (τ 25 7 + 1)) 13 5 ∧ (zup τ 25 7 (τ 25 7 + 1)) 13 5 < 120 := by show 0 ≤ τ 13 5 ∧ τ 13 5 < 120; omega
  have c1 : ADDX (zup τ 25 7 (τ 25 7 + 1)) o l b a 13 5 = τ 13 5 + 1 := addx_cnt hn.2
  have c7 : ADDX (zup τ 25 7 (τ 25 7 + 1)) o l b a 25 7 = τ 25 7 + 1 := addx_25 hn.2 (by decide)
  have c6 : ADDX (zup τ 25 7 (τ 25 7 + 1)) o l b a 25 6 = τ 25 6 := addx_25 hn.2 (by decide)
  have r : ∀ c, ¬ (13 ≤ c ∧ c ≤ 18) ∧ c ≠ 25 → ADDX (zup τ 25 7 (τ 25 7 + 1)) o l b a c = τ c := fun c hc => (addx_row hn.2 hc).trans (zup_row hc.2)
  have hz : zRg (1 + xnsz (zup τ 25 7 (τ 25 7 + 1)) 13 b + xnsz (zup τ 25 7 (τ 25 7 + 1)) 13 a) := by show zRg (1 + xnsz τ 13 b + xnsz τ 13 a); unfold zRg; omega
  have hnew : xnsz (ADDX (zup τ 25 7 (τ 25 7 + 1)) o l b a) 13 (τ 13 5) = 1 + xnsz τ 13 b + xnsz τ 13 a := (addx_new hn).trans (zw_id hz)
  refine ⟨?_, ?_, Or.inr ⟨addx_8, ?_, ?_⟩, Or.inl addx_10, ?_, ?_, ?_⟩
  · rw [c7, r 23 (by decide)]; omega
  · rw [c1, c6, c7]; omega
  · rw [c1]; omega
  · rw [c1, addx_9 hn.2]; show τ 13 5 = _; omega
  · intro i hi
    rw [c6] at hi
    have := h5 i hi
    unfold FrOK at this ⊢
    rw [r 26 (by decide), r 28 (by decide), r 1 (by decide), r 3 (by decide), c1]
    omega
  · intro i hi
    rw [c1] at hi ⊢
    by_cases hin : (i : Int) < τ 13 5
    · have hh := h6 i hin
      refine ⟨addx_nd hn hin (show NdOK τ 13 i from hh.1), ?_⟩
      rw [(addx_arr hn.2 i).2.2.2.2, if_neg (by show ¬ i = (τ 13 5).toNat; omega)]
      show 1 ≤ τ 18 i ∧ τ 18 i ≤ _
      omega
    · have e : i = (τ 13 5).toNat := by omega
      rw [e]
      refine ⟨addx_ndnew hn (show NwOK τ o l b a from hw) hz, ?_⟩
      rw [(addx_arr hn.2 _).2.2.2.2, if_pos (by rfl), zw_id hz]
      show 1 ≤ 1 + xnsz τ 13 b + xnsz τ 13 a ∧ 1 + xnsz τ 13 b + xnsz τ 13 a ≤ _
      omega
  · rw [zif_pos addx_8, c1, addx_9 hn.2, c6]
    have e2 : zlive (ADDX (zup τ 25 7 (τ 25 7 + 1)) o l b a) (τ 25 6).toNat = zlive τ (τ 25 6).toNat := by
      apply zlive_congr
      intro i hi
      rw [r 28 (by decide)]
      refine ⟨rfl, ?_⟩
      have := h5 i (by omega)
      unfold FrOK at this
      exact addx_old hn (by show _ ∨ (_ ∧ _ < τ 13 5); omega)
    rw [e2]
    show xnsz _ 13 (τ 13 5) + _ = _
    rw [hnew]
    exact hl
