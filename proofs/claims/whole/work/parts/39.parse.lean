/-! ===== what was read becomes nodes, in both ===== -/
def PJ (τ ς ρ : ZSt) (k : Nat) : Prop := SN (xadds τ k) ρ ∧ W7 (xadds τ k) ∧ xadds τ k 7 5 = τ 7 5 + k ∧ (∀ c : Nat, c < k → xadds τ k 12 ((τ 7 5).toNat + c) = τ 18 c) ∧ (∀ c, c ≠ 31 ∧ ¬ (37 ≤ c ∧ c ≤ 41) → ρ c = ς c) ∧ ∀ j, j ≠ 11 → ρ 31 j = ς 31 j
def msh (n c : Int) : Int := if c < 0 then -10 else n + c
theorem msh_fst {n b a : Int} (hn : 0 ≤ n) (hb : -1 ≤ b) (ha : -1 ≤ a) : msh n (yfst b a) = yfst (if b = -1 then -1 else b + n) (if a = -1 then -1 else a + n) := by
  unfold msh yfst zd
  by_cases h1 : b = -1 <;> by_cases h2 : a = -1 <;> simp only [h1, h2, if_true, if_false] <;> (repeat' split) <;> omega
theorem msh_snd {n b a : Int} (hn : 0 ≤ n) (hb : -1 ≤ b) (ha : -1 ≤ a) : msh n (ysnd b a) = ysnd (if b = -1 then -1 else b + n) (if a = -1 then -1 else a + n) := by
  unfold msh ysnd zd
  by_cases h1 : b = -1 <;> by_cases h2 : a = -1 <;> simp only [h1, h2, if_true, if_false] <;> (repeat' split) <;> omega
theorem PJ.step {τ ς ρ : ZSt} {k : Nat} (h : PJ τ ς ρ k) (f : FinOK τ ς) (hk : (k : Int) < τ 13 5) (h40 : τ 13 5 ≤ 40) (h0 : 0 ≤ τ 7 5) (h100 : τ 7 5 + τ 13 5 ≤ 100) :
    PJ τ ς (mnadd ρ (ς 49 k) (ς 50 k) (msh (τ 7 5) (ς 51 k)) (msh (τ 7 5) (ς 52 k))) (k + 1) ∧ msh (τ 7 5) (ς 51 k) < 100 ∧ msh (τ 7 5) (ς 52 k) < 100 := by
  obtain ⟨h1, h2, h3, h4, h5, h6⟩ := h
  obtain ⟨⟨f1, f2⟩, -, -, f5⟩ := f
  obtain ⟨g1, g2, g3, g4⟩ := f2 k hk
  obtain ⟨nd, sz1, sz2⟩ := f5 k hk
  obtain ⟨n1, n2⟩ := nd
  simp only [Nat.reduceAdd] at n1 n2
  have r1 : xadds τ k 1 = τ 1 := xadds_row (by decide) k
  have r3 : xadds τ k 3 = τ 3 := xadds_row (by decide) k
  obtain ⟨b, eb⟩ : ∃ b, b = τ 16 k := ⟨_, rfl⟩
  obtain ⟨a, ea⟩ : ∃ a, a = τ 17 k := ⟨_, rfl⟩
  rw [← eb, ← ea] at n1 n2 g3 g4
  have hb : b = -1 ∨ (0 ≤ b ∧ b < k) := by omega
  have ha : a = -1 ∨ (0 ≤ a ∧ a < k) := by omega
  have rb : zRg (b + τ 7 5) := by unfold zRg; omega
  have ra : zRg (a + τ 7 5) := by unfold zRg; omega
  -- the sizes
  have zs : ∀ c : Int, (c = -1 ∨ (0 ≤ c ∧ c < k)) → xnsz (xadds τ k) 7 (if c = -1 then -1 else c + τ 7 5) = xnsz τ 13 c := by
    intro c hc
    by_cases hm : c = -1
    · rw [if_pos hm, hm, xnsz_m1 (by omega), xnsz_m1 (by omega)]
    · rw [if_neg hm]
      have hc2 : 0 ≤ c ∧ c < k := by omega
      rw [(xn_in (q := 7) (a := c + τ 7 5) (by omega)).2.2.2.2, (xn_in (q := 13) (a := c) (by omega)).2.2.2.2]
      have := h4 c.toNat (by omega)
      show xadds τ k 12 _ = τ 18 _
      rw [← this]
      congr 1
      omega
  have ex : xadds τ (k + 1) = xnadd (xadds τ k) 7 (τ 14 k) (τ 15 k) (if b = -1 then -1 else b + τ 7 5) (if a = -1 then -1 else a + τ 7 5) := by
    show xnadd (xadds τ k) 7 (τ 14 k) (τ 15 k) (if τ 16 k = -1 then -1 else zw (τ 16 k + τ 7 5)) (if τ 17 k = -1 then -1 else zw (τ 17 k + τ 7 5)) = _
    rw [← eb, ← ea, zw_id rb, zw_id ra]
  have em : mnadd ρ (ς 49 k) (ς 50 k) (msh (τ 7 5) (ς 51 k)) (msh (τ 7 5) (ς 52 k)) = mnadd ρ (zd (τ 14 k)) (zd (τ 15 k)) (yfst (if b = -1 then -1 else b + τ 7 5) (if a = -1 then -1 else a + τ 7 5)) (ysnd (if b = -1 then -1 else b + τ 7 5) (if a = -1 then -1 else a + τ 7 5)) := by
    rw [g1, g2, g3, g4, msh_fst h0 (by omega) (by omega), msh_snd h0 (by omega) (by omega)]
  have vb : (if b = -1 then -1 else b + τ 7 5) = -1 ∨ (0 ≤ (if b = -1 then -1 else b + τ 7 5) ∧ (if b = -1 then -1 else b + τ 7 5) < xadds τ k 7 5) := by
    split <;> omega
  have va : (if a = -1 then -1 else a + τ 7 5) = -1 ∨ (0 ≤ (if a = -1 then -1 else a + τ 7 5) ∧ (if a = -1 then -1 else a + τ 7 5) < xadds τ k 7 5) := by
    split <;> omega
  have hsz : 1 + xnsz (xadds τ k) 7 (if b = -1 then -1 else b + τ 7 5) + xnsz (xadds τ k) 7 (if a = -1 then -1 else a + τ 7 5) = τ 18 k := by
    rw [zs b hb, zs a ha, n2]
  have hnw : Nw7 (xadds τ k) (τ 14 k) (τ 15 k) (if b = -1 then -1 else b + τ 7 5) (if a = -1 then -1 else a + τ 7 5) := by
    unfold Nw7
    rw [r1, r3]
    rcases n1 with ⟨p1, p2, p3, p4⟩ | ⟨p1, p2, p3⟩
    · left
      rw [p3, p4]
      exact ⟨p1, p2, rfl, rfl⟩
    · right
      refine ⟨p1, p2, ?_⟩
      rcases p3 with ⟨j1, j2, j3⟩ | ⟨j1, j2, j3⟩ | ⟨j1, j2, j3⟩
      · left
        rw [if_neg (by omega), if_neg (by omega)]
        exact ⟨j1, by omega, by omega⟩
      · right; left
        rw [if_pos j2, if_neg (by omega)]
        exact ⟨j1, rfl, by omega⟩
      · right; right
        rw [if_neg (by omega), if_pos j3]
        exact ⟨j1, by omega, rfl⟩
  have hlt : 0 ≤ xadds τ k 7 5 ∧ xadds τ k 7 5 < 100 := by omega
  refine ⟨?_, ?_, ?_⟩
  · unfold PJ
    rw [ex, em]
    refine ⟨h1.add hlt vb va, h2.add hlt.2 hnw (by omega), ?_, ?_, ?_, ?_⟩
    · rw [add7_cnt (by omega), h3]
      omega
    · intro c hc
      rw [(add7_arr (by omega) _).2.2.2.2, h3]
      by_cases hck : c = k
      · rw [if_pos (by omega), hsz, hck, zw_id (by unfold zRg; omega)]
      · rw [if_neg (by omega)]
        exact h4 c (by omega)
    · intro c hc
      rw [mnadd_row (by omega)]
      exact h5 c hc
    · intro j hj
      rw [mnadd_31 hj]
      exact h6 j hj
  · rw [g3]
    unfold msh yfst zd
    by_cases h1 : b = -1 <;> by_cases h2 : a = -1 <;> simp only [h1, h2, if_true, if_false] <;> (repeat' split) <;> omega
  · rw [g4]
    unfold msh ysnd zd
    by_cases h1 : b = -1 <;> by_cases h2 : a = -1 <;> simp only [h1, h2, if_true, if_false] <;> (repeat' split) <;> omega
theorem PJ.zero {τ ς : ZSt} (s : SN τ ς) (w : W7 τ) : PJ τ ς ς 0 := ⟨s, w, by simp [xadds], fun c hc => by omega, fun _ _ => rfl, fun _ _ => rfl⟩
theorem SN.same {τ σ ρ ς : ZSt} (s : SN τ σ) (x : ∀ c, 7 ≤ c ∧ c ≤ 12 → ρ c = τ c) (m1 : ς 31 11 = σ 31 11) (m : ∀ c, 37 ≤ c ∧ c ≤ 41 → ς c = σ c) : SN ρ ς := by
  unfold SN SNd at s ⊢
  simp only [Nat.reduceAdd] at s ⊢
  rw [x 7 (by decide), x 8 (by decide), x 9 (by decide), x 10 (by decide), x 11 (by decide), x 12 (by decide), m1, m 37 (by decide), m 38 (by decide), m 39 (by decide), m 40 (by decide), m 41 (by decide)]
  exact s
theorem xnsz_row {τ ρ : ZSt} {k : Nat} (h1 : ρ k = τ k) (h2 : ρ (k + 5) = τ (k + 5)) (c : Int) : xnsz ρ k c = xnsz τ k c := by
  unfold xnsz
  rw [h1, h2]
theorem W7.same {τ ρ : ZSt} (w : W7 τ) (x1 : ρ 1 = τ 1) (x3 : ρ 3 = τ 3) (x : ∀ c, 7 ≤ c ∧ c ≤ 12 → ρ c = τ c) : W7 ρ := by
  unfold W7 WN NdOK at w ⊢
  simp only [Nat.reduceAdd] at w ⊢
  rw [x 7 (by decide), x 8 (by decide), x 9 (by decide), x 10 (by decide), x 11 (by decide), x 12 (by decide), x1, x3]
  simp only [xnsz_row (x 7 (by decide)) (x 12 (by decide))]
  exact w
/-- what of the reference a parse leaves -/
def SameP (σ ς : ZSt) : Prop := (∀ c, c ≠ 31 ∧ ¬ (37 ≤ c ∧ c ≤ 41) ∧ ¬ (48 ≤ c ∧ c ≤ 53) → ς c = σ c) ∧ ∀ j, j ≠ 11 ∧ j ≠ 17 ∧ j ≠ 18 ∧ j ≠ 25 ∧ j ≠ 30 ∧ ¬ (32 ≤ j ∧ j ≤ 39) → ς 31 j = σ 31 j
/-- the input of both, and the tables -/
def In0 (τ σ : ZSt) : Prop := WO τ ∧ SO τ σ ∧ (0 ≤ τ 19 1 ∧ τ 19 1 ≤ 120) ∧ (σ 31 16 = τ 19 1 ∧ σ 43 = τ 20) ∧ (∀ j : Nat, (j : Int) < τ 19 1 → 0 < τ 20 j) ∧ SN τ σ ∧ W7 τ ∧ τ 7 5 ≤ 100
theorem rd0_copy {τ σ : ZSt} (h : In0 τ σ) : Rd0 (xcopy τ 23 19) (mrow (zup σ 31 25 (σ 31 16)) 48 (σ 43) (σ 31 16).toNat) := by
  obtain ⟨w, so, hl, ⟨i1, i2⟩, hp, -⟩ := h
  have rr : ∀ c, c ≠ 23 ∧ c ≠ 24 → xcopy τ 23 19 c = τ c := fun c hc => zst_row hc
  have l1 : xcopy τ 23 19 23 1 = τ 19 1 := by unfold xcopy; rw [zst_len]; omega
  have l2 : ∀ j : Nat, (j : Int) < τ 19 1 → xcopy τ 23 19 24 j = τ 20 j := fun j hj => zst_in (by omega)
  have w2 : WO (xcopy τ 23 19) := by
    unfold WO at w ⊢
    rw [rr 1 (by decide), rr 2 (by decide), rr 3 (by decide), rr 4 (by decide), rr 5 (by decide), rr 6 (by decide)]
    exact w
  have so2 : SO (xcopy τ 23 19) (mrow (zup σ 31 25 (σ 31 16)) 48 (σ 43) (σ 31 16).toNat) := by
    unfold SO at so ⊢
    rw [rr 1 (by decide), rr 2 (by decide), rr 3 (by decide), rr 4 (by decide), rr 5 (by decide), rr 6 (by decide), mrow_row (by decide), mrow_row (by decide), mrow_row (by decide), mrow_row (by decide), mrow_row (by decide), mrow_row (by decide)]
    exact so
  refine ⟨w2, so2, by rw [l1]; exact hl, ⟨?_, ?_⟩, ?_⟩
  · rw [l1, mrow_row (by decide), zup_same, i1]
  · intro j hj
    rw [l1] at hj
    rw [l2 j hj]
    unfold mrow
    rw [if_pos ⟨rfl, by omega⟩, i2]
  · intro j hj
    rw [l1] at hj
    rw [l2 j hj]
    exact hp j hj
theorem xrun_same (n : Nat) : ∀ τ : ZSt, SameX τ (xrun n τ) := by
  induction n with
  | zero => intro τ; exact SameX.rf
  | succ n ih =>
    intro τ
    show SameX τ (zif _ _ _)
    by_cases hc : τ 25 11 = 0
    · rw [zif_pos hc]; exact (xstep_same τ).trans (ih _)
    · rw [zif_neg hc]; exact SameX.rf
theorem xreads_same (τ : ZSt) : SameX τ (xreads τ) := SameX.trans ((((((((((SameX.rf.up (by decide)).up (by decide)).up (by decide)).up (by decide)).up (by decide)).up (by decide)).up (by decide)).up (by decide)).up (by decide))) (xrun_same 242 _)
