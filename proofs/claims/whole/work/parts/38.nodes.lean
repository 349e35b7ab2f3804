/-! ===== a node is added to the nodes, by both ===== -/
section ADD7
variable {ρ : ZSt} {o l b a : Int}
theorem add7_row {c : Nat} (hc : ¬ (7 ≤ c ∧ c ≤ 12)) : xnadd ρ 7 o l b a c = ρ c := xnadd_row hc
theorem add7_cnt (h : ρ 7 5 < 120) : xnadd ρ 7 o l b a 7 5 = ρ 7 5 + 1 := xnadd_cnt h
theorem add7_arr (h : ρ 7 5 < 120) (i : Nat) :
    xnadd ρ 7 o l b a 8 i = (if i = (ρ 7 5).toNat then o else ρ 8 i) ∧ xnadd ρ 7 o l b a 9 i = (if i = (ρ 7 5).toNat then l else ρ 9 i) ∧
    xnadd ρ 7 o l b a 10 i = (if i = (ρ 7 5).toNat then b else ρ 10 i) ∧ xnadd ρ 7 o l b a 11 i = (if i = (ρ 7 5).toNat then a else ρ 11 i) ∧
    xnadd ρ 7 o l b a 12 i = (if i = (ρ 7 5).toNat then zw (1 + xnsz ρ 7 b + xnsz ρ 7 a) else ρ 12 i) := by
  unfold xnadd
  rw [if_neg (by omega)]
  refine ⟨?_, ?_, ?_, ?_, ?_⟩ <;> simp [zup]
theorem add7_old (h : 0 ≤ ρ 7 5 ∧ ρ 7 5 < 120) {c : Int} (hc : c = -1 ∨ (0 ≤ c ∧ c < ρ 7 5)) : xnsz (xnadd ρ 7 o l b a) 7 c = xnsz ρ 7 c := by
  unfold xnsz
  rw [add7_cnt h.2]
  rcases hc with rfl | hc
  · rw [zget_out (by omega), zget_out (by omega)]
  · rw [zget_in (by omega), zget_in hc]
    show xnadd ρ 7 o l b a 12 _ = ρ 12 _
    rw [(add7_arr h.2 _).2.2.2.2, if_neg (by omega)]
theorem add7_nd (h : 0 ≤ ρ 7 5 ∧ ρ 7 5 < 120) {i : Nat} (hi : (i : Int) < ρ 7 5) (hn : NdOK ρ 7 i) : NdOK (xnadd ρ 7 o l b a) 7 i := by
  obtain ⟨e1, e2, e3, e4, e5⟩ := add7_arr (o := o) (l := l) (b := b) (a := a) h.2 i
  rw [if_neg (by omega)] at e1 e2 e3 e4 e5
  have r1 : xnadd ρ 7 o l b a 1 = ρ 1 := add7_row (by decide)
  have r3 : xnadd ρ 7 o l b a 3 = ρ 3 := add7_row (by decide)
  unfold NdOK at hn ⊢
  simp only [Nat.reduceAdd] at hn ⊢
  rw [e1, e2, e3, e4, e5, r1, r3]
  refine ⟨hn.1, ?_⟩
  rw [hn.2, add7_old h (by omega), add7_old h (by omega)]
end ADD7
def Nw7 (ρ : ZSt) (o l b a : Int) : Prop := (o = -1 ∧ (97 ≤ l ∧ l ≤ 122) ∧ b = -1 ∧ a = -1) ∨ ((0 ≤ o ∧ o < ρ 1 5) ∧ l = -1 ∧ ((ρ 3 o.toNat = 0 ∧ (0 ≤ b ∧ b < ρ 7 5) ∧ (0 ≤ a ∧ a < ρ 7 5)) ∨ (ρ 3 o.toNat = 1 ∧ b = -1 ∧ (0 ≤ a ∧ a < ρ 7 5)) ∨ (ρ 3 o.toNat = 2 ∧ (0 ≤ b ∧ b < ρ 7 5) ∧ a = -1)))
theorem Nw7.ops {ρ : ZSt} {o l b a : Int} (h : Nw7 ρ o l b a) : (b = -1 ∨ (0 ≤ b ∧ b < ρ 7 5)) ∧ (a = -1 ∨ (0 ≤ a ∧ a < ρ 7 5)) := by
  unfold Nw7 at h
  omega
theorem W7.szr {τ : ZSt} (w : W7 τ) (c : Int) : 0 ≤ xnsz τ 7 c ∧ xnsz τ 7 c ≤ 40 := by
  refine ⟨w.1.szb c, ?_⟩
  by_cases h : 0 ≤ c ∧ c < τ 7 5
  · rw [(xn_in h).2.2.2.2]
    exact w.2 c.toNat (by omega)
  · rw [show xnsz τ 7 c = 0 from zget_out h]
    decide
theorem W7.add {τ : ZSt} (w : W7 τ) (hn : τ 7 5 < 100) {o l b a : Int} (hw : Nw7 τ o l b a) (hz : 1 + xnsz τ 7 b + xnsz τ 7 a ≤ 40) : W7 (xnadd τ 7 o l b a) := by
  have h0 := w.1.1
  have hh : 0 ≤ τ 7 5 ∧ τ 7 5 < 120 := by omega
  have sb := w.szr b
  have sa := w.szr a
  have hzr : zRg (1 + xnsz τ 7 b + xnsz τ 7 a) := by unfold zRg; omega
  have c1 : xnadd τ 7 o l b a 7 5 = τ 7 5 + 1 := add7_cnt hh.2
  obtain ⟨ob, oa⟩ := hw.ops
  have new : ∀ i : Nat, i = (τ 7 5).toNat → NdOK (xnadd τ 7 o l b a) 7 i ∧ xnadd τ 7 o l b a 12 i = 1 + xnsz τ 7 b + xnsz τ 7 a := by
    intro i hi
    obtain ⟨e1, e2, e3, e4, e5⟩ := add7_arr (o := o) (l := l) (b := b) (a := a) hh.2 i
    rw [if_pos hi] at e1 e2 e3 e4 e5
    rw [zw_id hzr] at e5
    have r1 : xnadd τ 7 o l b a 1 = τ 1 := add7_row (by decide)
    have r3 : xnadd τ 7 o l b a 3 = τ 3 := add7_row (by decide)
    refine ⟨?_, e5⟩
    unfold NdOK
    simp only [Nat.reduceAdd]
    rw [e1, e2, e3, e4, e5, r1, r3, add7_old hh ob, add7_old hh oa]
    refine ⟨?_, rfl⟩
    unfold Nw7 at hw
    omega
  refine ⟨⟨by omega, fun i hi => ?_⟩, fun i hi => ?_⟩
  · rw [c1] at hi
    show NdOK _ 7 i ∧ 1 ≤ xnadd τ 7 o l b a 12 i ∧ xnadd τ 7 o l b a 12 i ≤ 120
    by_cases hin : (i : Int) < τ 7 5
    · have := w.1.2 i hin
      refine ⟨add7_nd hh hin this.1, ?_⟩
      rw [(add7_arr hh.2 i).2.2.2.2, if_neg (by omega)]
      exact this.2
    · obtain ⟨n1, n2⟩ := new i (by omega)
      refine ⟨n1, ?_⟩
      rw [n2]
      omega
  · rw [c1] at hi
    by_cases hin : (i : Int) < τ 7 5
    · rw [(add7_arr hh.2 i).2.2.2.2, if_neg (by omega)]
      exact w.2 i hin
    · rw [(new i (by omega)).2]
      exact hz
def SN (τ σ : ZSt) : Prop := σ 31 11 = τ 7 5 ∧ SNd τ σ 7 37 ∧ ∀ i : Nat, (i : Int) < τ 7 5 → σ 41 i = τ 12 i
theorem mnadd_row {σ : ZSt} {o l a b : Int} {c : Nat} (h : ¬ (37 ≤ c ∧ c ≤ 41) ∧ c ≠ 31) : mnadd σ o l a b c = σ c := by
  unfold mnadd
  repeat rw [zup_row (by omega)]
theorem mnadd_31 {σ : ZSt} {o l a b : Int} {j : Nat} (h : j ≠ 11) : mnadd σ o l a b 31 j = σ 31 j := by
  unfold mnadd
  rw [zup_place h]
  repeat rw [zup_cell (by decide)]
theorem mnadd_arr {σ : ZSt} {o l a b : Int} (i : Nat) : mnadd σ o l a b 37 i = (if i = (σ 31 11).toNat then o else σ 37 i) ∧ mnadd σ o l a b 38 i = (if i = (σ 31 11).toNat then l else σ 38 i) ∧ mnadd σ o l a b 39 i = (if i = (σ 31 11).toNat then a else σ 39 i) ∧ mnadd σ o l a b 40 i = (if i = (σ 31 11).toNat then b else σ 40 i) ∧ mnadd σ o l a b 41 i = (if i = (σ 31 11).toNat then zw (1 + msz σ a + msz σ b) else σ 41 i) := by
  unfold mnadd
  refine ⟨?_, ?_, ?_, ?_, ?_⟩ <;> simp [zup]
theorem SN.msum {τ σ : ZSt} (s : SN τ σ) (h0 : 0 ≤ τ 7 5) {b a : Int} (hb : b = -1 ∨ (0 ≤ b ∧ b < τ 7 5)) (ha : a = -1 ∨ (0 ≤ a ∧ a < τ 7 5)) : msz σ (yfst b a) + msz σ (ysnd b a) = xnsz τ 7 b + xnsz τ 7 a := by
  have k : ∀ c : Int, 0 ≤ c ∧ c < τ 7 5 → msz σ c = xnsz τ 7 c := by
    intro c hc
    rw [(xn_in hc).2.2.2.2]
    unfold msz
    rw [if_pos hc.1]
    exact s.2.2 c.toNat (by omega)
  have z : xnsz τ 7 (-1) = 0 := xnsz_m1 h0
  have m10 : msz σ (-10) = 0 := if_neg (by decide)
  rcases hb with rfl | hb
  · rcases ha with rfl | ha
    · show msz σ (-10) + msz σ (-10) = _
      rw [m10, z]
    · have e1 : yfst (-1) a = a := by unfold yfst zd; rw [if_pos rfl, if_neg (by omega)]
      have e2 : ysnd (-1) a = -10 := if_pos rfl
      rw [e1, e2, m10, z, k a ha]
      omega
  · have e1 : yfst b a = b := if_neg (by omega)
    rcases ha with rfl | ha
    · have e2 : ysnd b (-1) = -10 := by unfold ysnd zd; rw [if_neg (by omega), if_pos rfl]
      rw [e1, e2, m10, z, k b hb]
    · have e2 : ysnd b a = a := by unfold ysnd zd; rw [if_neg (by omega), if_neg (by omega)]
      rw [e1, e2, k b hb, k a ha]
theorem SN.add {τ σ : ZSt} (s : SN τ σ) (h0 : 0 ≤ τ 7 5 ∧ τ 7 5 < 100) {o l b a : Int} (hb : b = -1 ∨ (0 ≤ b ∧ b < τ 7 5)) (ha : a = -1 ∨ (0 ≤ a ∧ a < τ 7 5)) : SN (xnadd τ 7 o l b a) (mnadd σ (zd o) (zd l) (yfst b a) (ysnd b a)) := by
  have hh : τ 7 5 < 120 := by omega
  have em := s.msum h0.1 hb ha
  obtain ⟨s1, s2, s3⟩ := s
  have c1 : xnadd τ 7 o l b a 7 5 = τ 7 5 + 1 := add7_cnt hh
  refine ⟨?_, fun i hi => ?_, fun i hi => ?_⟩
  · rw [c1, ← s1]; rfl
  · rw [c1] at hi
    obtain ⟨e1, e2, e3, e4, -⟩ := add7_arr (o := o) (l := l) (b := b) (a := a) hh i
    obtain ⟨m1, m2, m3, m4, -⟩ := mnadd_arr (σ := σ) (o := zd o) (l := zd l) (a := yfst b a) (b := ysnd b a) i
    simp only [Nat.reduceAdd]
    rw [e1, e2, e3, e4, m1, m2, m3, m4, s1]
    by_cases hin : i = (τ 7 5).toNat
    · simp only [hin, if_true]
      exact ⟨trivial, trivial, trivial, trivial⟩
    · simp only [hin, if_false]
      exact s2 i (by omega)
  · rw [c1] at hi
    rw [(add7_arr hh i).2.2.2.2, (mnadd_arr i).2.2.2.2, s1]
    by_cases hin : i = (τ 7 5).toNat
    · rw [if_pos hin, if_pos hin]
      congr 1
      omega
    · rw [if_neg hin, if_neg hin]
      exact s3 i (by omega)
