/-- a frame is opened -/
theorem xopenf_eq {τ : ZSt} (h : τ 25 6 < 120) {o b : Int} : xopenf τ o b = zup (zup (zup (zup (zup (zup τ 26 (τ 25 6).toNat o) 27 (τ 25 6).toNat (τ 25 7)) 28 (τ 25 6).toNat b) 25 6 (τ 25 6 + 1)) 25 7 (τ 25 7 + 1)) 25 8 1 := by
  unfold xopenf
  rw [zif_pos h]
theorem RX.opn {τ : ZSt} (h : RX τ) (hp : τ 25 7 < τ 23 1) {o b : Int} (hf : (o = -1 ∧ b = -1) ∨ ((0 ≤ o ∧ o < τ 1 5) ∧ ((τ 3 o.toNat = 1 ∧ b = -1) ∨ (τ 3 o.toNat = 0 ∧ 0 ≤ b ∧ b < τ 13 5))))
    (hl : xnsz τ 13 b + zlive τ (τ 25 6).toNat = τ 13 5) : RX (xopenf τ o b) := by
  obtain ⟨h1, h2, h3, h4, h5, h6, h7⟩ := h
  have hfr : τ 25 6 < 120 := by omega
  rw [xopenf_eq hfr]
  refine ⟨?_, ?_, Or.inl rfl, h4, ?_, h6, ?_⟩
  · show 0 ≤ τ 25 7 + 1 ∧ τ 25 7 + 1 ≤ τ 23 1 ∧ τ 23 1 ≤ 120; omega
  · show 0 ≤ τ 25 6 + 1 ∧ 0 ≤ τ 13 5 ∧ τ 13 5 + (τ 25 6 + 1) ≤ τ 25 7 + 1; omega
  · intro i hi
    have hi2 : (i : Int) < τ 25 6 + 1 := hi
    by_cases hin : i = (τ 25 6).toNat
    · subst hin
      unfold FrOK
      simp only [zup]
      simp
      exact hf
    · have := h5 i (by omega)
      unfold FrOK at this ⊢
      simp only [zup]
      simp [hin]
      exact this
  · rw [zif_neg (by show ¬ (1 : Int) = 0; decide)]
    show 0 + zlive _ (τ 25 6 + 1).toNat = τ 13 5
    rw [show (τ 25 6 + 1).toNat = (τ 25 6).toNat + 1 by omega]
    show 0 + (zlive _ (τ 25 6).toNat + _) = _
    rw [zlive_congr (ρ := τ) _ (fun i hi => by
      have e : (zup (zup (zup (zup (zup (zup τ 26 (τ 25 6).toNat o) 27 (τ 25 6).toNat (τ 25 7)) 28 (τ 25 6).toNat b) 25 6 (τ 25 6 + 1)) 25 7 (τ 25 7 + 1)) 25 8 1) 28 i = τ 28 i := by
        simp only [zup]
        simp
        intro q
        omega
      rw [e]
      exact ⟨rfl, rfl⟩)]
    have e2 : (zup (zup (zup (zup (zup (zup τ 26 (τ 25 6).toNat o) 27 (τ 25 6).toNat (τ 25 7)) 28 (τ 25 6).toNat b) 25 6 (τ 25 6 + 1)) 25 7 (τ 25 7 + 1)) 25 8 1) 28 (τ 25 6).toNat = b := by
      simp only [zup]
      simp
    rw [e2]
    show 0 + (zlive τ (τ 25 6).toNat + xnsz τ 13 b) = _
    omega
theorem zlive_top {τ : ZSt} (h : 0 < τ 25 6) : zlive τ (τ 25 6).toNat = zlive τ (τ 25 6 - 1).toNat + xnsz τ 13 (τ 28 (τ 25 6 - 1).toNat) := by
  rw [show (τ 25 6).toNat = (τ 25 6 - 1).toNat + 1 by omega]
  rfl
/-- a bracket is closed -/
theorem RX.clo {τ : ZSt} (h : RX τ) (hp : τ 25 7 < τ 23 1) (h8 : τ 25 8 = 0) (hf : 0 < τ 25 6) (ho : τ 26 (τ 25 6 - 1).toNat = -1) : RX (zup (zup (zup τ 25 7 (τ 25 7 + 1)) 25 6 (τ 25 6 - 1)) 25 10 1) := by
  obtain ⟨h1, h2, h3, h4, h5, h6, h7⟩ := h
  refine ⟨?_, ?_, h3, Or.inr rfl, ?_, h6, ?_⟩
  · show 0 ≤ τ 25 7 + 1 ∧ τ 25 7 + 1 ≤ τ 23 1 ∧ τ 23 1 ≤ 120; omega
  · show 0 ≤ τ 25 6 - 1 ∧ 0 ≤ τ 13 5 ∧ τ 13 5 + (τ 25 6 - 1) ≤ τ 25 7 + 1; omega
  · intro i hi
    have hi2 : (i : Int) < τ 25 6 - 1 := hi
    exact h5 i (by omega)
  · show zif (τ 25 8 = 0) (xnsz τ 13 (τ 25 9)) 0 + zlive _ (τ 25 6 - 1).toNat = τ 13 5
    have e9 : zlive (zup (zup (zup τ 25 7 (τ 25 7 + 1)) 25 6 (τ 25 6 - 1)) 25 10 1) (τ 25 6 - 1).toNat = zlive τ (τ 25 6 - 1).toNat := zlive_congr _ (fun i hi => ⟨rfl, rfl⟩)
    rw [zif_pos h8, e9]
    rw [zif_pos h8, zlive_top hf] at h7
    have hfr := h5 (τ 25 6 - 1).toNat (by omega)
    unfold FrOK at hfr
    rw [ho] at hfr
    have hb : τ 28 (τ 25 6 - 1).toNat = -1 := by omega
    rw [hb] at h7
    have : xnsz τ 13 (-1) = 0 := zget_out (by omega)
    omega
/-- a node is completed -/
theorem RX.cmp {τ : ZSt} (h : RX τ) (h8 : τ 25 8 = 0) (hf : 0 < τ 25 6) (ho : τ 26 (τ 25 6 - 1).toNat ≠ -1) : RX (ADDX (zup τ 25 6 (τ 25 6 - 1)) (τ 26 (τ 25 6 - 1).toNat) (-1) (τ 28 (τ 25 6 - 1).toNat) (τ 25 9)) := by
  have hsz := h.sz
  obtain ⟨h1, h2, h3, h4, h5, h6, h7⟩ := h
  have hfr := h5 (τ 25 6 - 1).toNat (by omega)
  unfold FrOK at hfr
  rw [zif_pos h8, zlive_top hf] at h7
  obtain ⟨o, eo⟩ : ∃ o, o = τ 26 (τ 25 6 - 1).toNat := ⟨_, rfl⟩
  obtain ⟨b, eb⟩ : ∃ b, b = τ 28 (τ 25 6 - 1).toNat := ⟨_, rfl⟩
  obtain ⟨a, ea⟩ : ∃ a, a = τ 25 9 := ⟨_, rfl⟩
  rw [← eo] at hfr ho ⊢
  rw [← eb] at hfr h7 ⊢
  rw [← ea] at h7 ⊢
  have hsb := hsz b
  have hsa := hsz a
  have hl0 := zlive_nn (fun c => (hsz c).1) (τ 25 6 - 1).toNat
  have ha : 0 ≤ a ∧ a < τ 13 5 := by omega
  have hw : NwOK τ o (-1) b a := by
    right
    refine ⟨by omega, rfl, ?_⟩
    rcases hfr with q | ⟨q0, q | q⟩
    · omega
    · right; left; exact ⟨q.1, q.2, ha⟩
    · left; exact ⟨q.1, q.2, ha⟩
  have hn : 0 ≤ (zup τ 25 6 (τ 25 6 - 1)) 13 5 ∧ (zup τ 25 6 (τ 25 6 - 1)) 13 5 < 120 := by show 0 ≤ τ 13 5 ∧ τ 13 5 < 120; omega
  have c1 : ADDX (zup τ 25 6 (τ 25 6 - 1)) o (-1) b a 13 5 = τ 13 5 + 1 := addx_cnt hn.2
  have c7 : ADDX (zup τ 25 6 (τ 25 6 - 1)) o (-1) b a 25 7 = τ 25 7 := addx_25 hn.2 (by decide)
  have c6 : ADDX (zup τ 25 6 (τ 25 6 - 1)) o (-1) b a 25 6 = τ 25 6 - 1 := addx_25 hn.2 (by decide)
  have r : ∀ c, ¬ (13 ≤ c ∧ c ≤ 18) ∧ c ≠ 25 → ADDX (zup τ 25 6 (τ 25 6 - 1)) o (-1) b a c = τ c := fun c hc => (addx_row hn.2 hc).trans (zup_row hc.2)
  have hz : zRg (1 + xnsz (zup τ 25 6 (τ 25 6 - 1)) 13 b + xnsz (zup τ 25 6 (τ 25 6 - 1)) 13 a) := by show zRg (1 + xnsz τ 13 b + xnsz τ 13 a); unfold zRg; omega
  have hnew : xnsz (ADDX (zup τ 25 6 (τ 25 6 - 1)) o (-1) b a) 13 (τ 13 5) = 1 + xnsz τ 13 b + xnsz τ 13 a := (addx_new hn).trans (zw_id hz)
  refine ⟨?_, ?_, Or.inr ⟨addx_8, ?_, ?_⟩, Or.inl addx_10, ?_, ?_, ?_⟩
  · rw [c7, r 23 (by decide)]; omega
  · rw [c1, c6, c7]; omega
  · rw [c1]; omega
  · rw [c1, addx_9 hn.2]; show τ 13 5 = _; omega
  · intro i hi
    rw [c6] at hi
    have := h5 i (by omega)
    unfold FrOK at this ⊢
    rw [r 26 (by decide), r 28 (by decide), r 1 (by decide), r 3 (by decide), c1]
    omega
  · intro i hi
    rw [c1] at hi ⊢
    by_cases hin : (i : Int) < τ 13 5
    · have hh := h6 i hin
      refine ⟨addx_nd hn hin (show NdOK τ 13 i from hh.1), ?_⟩
      rw [(addx_arr hn.2 i).2.2.2.2, if_neg (by show ¬ i = (τ 13 5).toNat; omega)]
      show 1 ≤ τ 18 i ∧ τ 18 i ≤ _
      omega
    · have e : i = (τ 13 5).toNat := by omega
      rw [e]
      refine ⟨addx_ndnew hn (show NwOK τ o (-1) b a from hw) hz, ?_⟩
      rw [(addx_arr hn.2 _).2.2.2.2, if_pos (by rfl), zw_id hz]
      show 1 ≤ 1 + xnsz τ 13 b + xnsz τ 13 a ∧ 1 + xnsz τ 13 b + xnsz τ 13 a ≤ _
      omega
  · rw [zif_pos addx_8, c1, addx_9 hn.2, c6]
    have e2 : zlive (ADDX (zup τ 25 6 (τ 25 6 - 1)) o (-1) b a) (τ 25 6 - 1).toNat = zlive τ (τ 25 6 - 1).toNat := by
      apply zlive_congr
      intro i hi
      rw [r 28 (by decide)]
      refine ⟨rfl, ?_⟩
      have := h5 i (by omega)
      unfold FrOK at this
      exact addx_old hn (by show _ ∨ (_ ∧ _ < τ 13 5); omega)
    rw [e2]
    show xnsz _ 13 (τ 13 5) + _ = _
    rw [hnew]
    omega
-- the reference beside it
theorem SRd.add {τ σ ρ ς : ZSt} {o l b a : Int} (h : SRd τ σ) (h0 : 0 ≤ τ 13 5 ∧ τ 13 5 < 120) (hc : ρ 13 5 = τ 13 5 + 1)
    (hx : ∀ i : Nat, ρ 14 i = (if i = (τ 13 5).toNat then o else τ 14 i) ∧ ρ 15 i = (if i = (τ 13 5).toNat then l else τ 15 i) ∧ ρ 16 i = (if i = (τ 13 5).toNat then b else τ 16 i) ∧ ρ 17 i = (if i = (τ 13 5).toNat then a else τ 17 i))
    (hm : ς 31 30 = σ 31 30 + 1 ∧ ∀ i : Nat, ς 49 i = (if i = (σ 31 30).toNat then zd o else σ 49 i) ∧ ς 50 i = (if i = (σ 31 30).toNat then zd l else σ 50 i) ∧ ς 51 i = (if i = (σ 31 30).toNat then yfst b a else σ 51 i) ∧ ς 52 i = (if i = (σ 31 30).toNat then ysnd b a else σ 52 i)) : SRd ρ ς := by
  obtain ⟨g1, g2⟩ := h
  refine ⟨by rw [hm.1, hc, g1], fun i hi => ?_⟩
  obtain ⟨x1, x2, x3, x4⟩ := hx i
  obtain ⟨m1, m2, m3, m4⟩ := hm.2 i
  rw [g1] at m1 m2 m3 m4
  rw [x1, x2, x3, x4, m1, m2, m3, m4]
  by_cases hin : i = (τ 13 5).toNat
  · simp only [hin, if_true]
    exact ⟨trivial, trivial, trivial, trivial⟩
  · simp only [hin, if_false]
    exact g2 i (by omega)
theorem mrd_arr {σ : ZSt} {o l a b : Int} : mrd σ o l a b 31 30 = σ 31 30 + 1 ∧ ∀ i : Nat, mrd σ o l a b 49 i = (if i = (σ 31 30).toNat then o else σ 49 i) ∧ mrd σ o l a b 50 i = (if i = (σ 31 30).toNat then l else σ 50 i) ∧ mrd σ o l a b 51 i = (if i = (σ 31 30).toNat then a else σ 51 i) ∧ mrd σ o l a b 52 i = (if i = (σ 31 30).toNat then b else σ 52 i) := by
  refine ⟨rfl, fun i => ?_⟩
  unfold mrd
  refine ⟨?_, ?_, ?_, ?_⟩ <;> simp [zup]
