/-! ===== the whole reading ===== -/
/-- the text to be read is the same; the tables are -/
def Rd0 (τ σ : ZSt) : Prop := WO τ ∧ SO τ σ ∧ (0 ≤ τ 23 1 ∧ τ 23 1 ≤ 120) ∧ (σ 31 25 = τ 23 1 ∧ ∀ j : Nat, (j : Int) < τ 23 1 → σ 48 j = τ 24 j) ∧ ∀ j : Nat, (j : Int) < τ 23 1 → 0 < τ 24 j
def FinOK (τ σ : ZSt) : Prop := SRd τ σ ∧ σ 31 37 = τ 13 5 - 1 ∧ (0 < τ 13 5 ∧ τ 13 5 ≤ 120) ∧ ∀ i : Nat, (i : Int) < τ 13 5 → NdOK τ 13 i ∧ 1 ≤ τ 18 i ∧ τ 18 i ≤ τ 13 5
def RDone (τ σ : ZSt) : Prop := (xreadOk (xreads τ) ∧ σ 31 33 = -10 ∧ FinOK (xreads τ) σ) ∨ (¬ xreadOk (xreads τ) ∧ 1 ≤ σ 31 33 ∧ σ 31 33 = xreads τ 25 12 ∧ σ 31 34 = xreads τ 25 13)
def RRun (τ0 : ZSt) (m : Nat) (τ ρ : ZSt) : Prop := τ 25 11 = 0 ∧ τ 25 12 = -10 ∧ ρ 31 33 = -10 ∧ RX τ ∧ SQ τ ρ ∧ SameX τ0 τ ∧ xreads τ0 = xrun m τ ∧ 2 * (τ 23 1 - τ 25 7) + τ 25 6 < m
def RJ (τ0 σ0 : ZSt) (m : Nat) (t : Int) (ρ : ZSt) : Prop := SameM σ0 ρ ∧ ((RDone τ0 ρ ∧ (t = 1 ∨ 1 ≤ ρ 31 33) ∧ (t = 0 ∨ t = 1)) ∨ (t = 0 ∧ ∃ τ, RRun τ0 m τ ρ))
theorem SameM.trans {a b c : ZSt} (h : SameM a b) (g : SameM b c) : SameM a c := ⟨fun k hk => (g.1 k hk).trans (h.1 k hk), fun j hj => (g.2 j hj).trans (h.2 j hj)⟩
theorem SameX.trans {a b c : ZSt} (h : SameX a b) (g : SameX b c) : SameX a c := fun k hk => (g k hk).trans (h k hk)
theorem IM.same {σ ρ : ZSt} (h : IM σ) (s : SameM σ ρ) : IM ρ := h.of (s.2 3 (by decide)) (s.2 11 (by decide)) (s.2 13 (by decide)) (s.2 16 (by decide)) (s.2 25 (by decide)) (fun i => by rw [s.1 34 (by decide)])
theorem rj_run {τ0 σ0 : ZSt} {m : Nat} {t : Int} {ρ : ZSt} (h : RJ τ0 σ0 m t ρ) (ht : t = 0) (he : ρ 31 33 < 0) : ∃ τ, RRun τ0 m τ ρ := by
  obtain ⟨-, h | h⟩ := h
  · omega
  · exact h.2
theorem rrun_rm {τ0 : ZSt} {m : Nat} {τ ρ : ZSt} (h : RRun τ0 m τ ρ) : RM ρ := by
  obtain ⟨-, -, -, r, q, -⟩ := h
  obtain ⟨⟨q1, q2⟩, q3, q4, q5, q6, q7, q8, q9, q10⟩ := q
  obtain ⟨r1, r2, -⟩ := r
  unfold RM
  rw [q9.1, q7, q3, q1]
  omega
theorem rrun_rl {τ0 σ0 : ZSt} {m : Nat} {τ ρ : ZSt} (h0 : Rd0 τ0 σ0) (h : RRun τ0 m τ ρ) (h8 : ρ 31 39 = 0) : RL1 ρ := by
  obtain ⟨-, -, -, r, q, sx, -⟩ := h
  have w : WO τ := h0.1.same sx
  obtain ⟨l1, l2, l3, l4, l5⟩ := sq_left r q (q.2.2.1.symm.trans h8)
  have r1 := r.1
  have r2 := r.2.1
  unfold RL1
  refine ⟨by rw [l2]; omega, ?_⟩
  rw [l4]
  have := w.1
  unfold zd
  split <;> omega
theorem rrun_fo {τ0 σ0 : ZSt} {m : Nat} {τ ρ : ZSt} (h0 : Rd0 τ0 σ0) (h : RRun τ0 m τ ρ) : 0 < ρ 31 32 → ρ 53 (5 * (ρ 31 32 - 1)).toNat ≠ 40 → 0 ≤ ρ 53 (5 * (ρ 31 32 - 1) + 1).toNat ∧ ρ 53 (5 * (ρ 31 32 - 1) + 1).toNat < 16 := by
  obtain ⟨-, -, -, r, q, sx, -⟩ := h
  have w : WO τ := h0.1.same sx
  have q7 : ρ 31 32 = τ 25 6 := q.2.2.2.2.2.1
  rw [q7]
  intro hf hne
  have hfr := r.2.2.2.2.1 (τ 25 6 - 1).toNat (by omega)
  obtain ⟨s0, s1, -⟩ := q.2.2.2.2.2.2.2.2 (τ 25 6 - 1).toNat (by omega)
  rw [show (5 * (τ 25 6 - 1)).toNat = 5 * (τ 25 6 - 1).toNat by omega, s0] at hne
  rw [show (5 * (τ 25 6 - 1) + 1).toNat = 5 * (τ 25 6 - 1).toNat + 1 by omega, s1]
  have ho : τ 26 (τ 25 6 - 1).toNat ≠ -1 := fun g => hne (if_pos g)
  unfold zd
  rw [if_neg ho]
  have := w.1
  unfold FrOK at hfr
  omega
theorem xrun_go {m : Nat} {τ : ZSt} (hm : 0 < m) (h : τ 25 11 = 0) : xrun m τ = xrun (m - 1) (xstep τ) := by
  cases m with
  | zero => omega
  | succ m => exact zif_pos h
theorem rrun_step {τ0 σ0 : ZSt} {m : Nat} {τ ρ ς : ZSt} {t : Int} (h : RRun τ0 m τ ρ) (sm : SameM σ0 ς) (ht : t = 0) (hst : Goes2 τ ρ (xstep τ) ς ∨ Fails2 τ ρ (xstep τ) ς) : RJ τ0 σ0 (m - 1) t ς ∧ 0 < m := by
  obtain ⟨h1, h2, h3, r, q, sx, hr, hm⟩ := h
  have r1 := r.1
  have r2 := r.2.1
  have hm0 : 0 < m := by omega
  refine ⟨⟨sm, ?_⟩, hm0⟩
  rw [xrun_go hm0 h1] at hr
  rcases hst with g | g
  · right
    obtain ⟨g1, g2, g3, g4, g5, g6⟩ := g
    exact ⟨ht, xstep τ, g3.trans h1, g4.trans h2, g5.trans h3, g1, g2, sx.trans (xstep_same τ), hr, by omega⟩
  · left
    obtain ⟨k, p, hk, ⟨f1, f2, f3⟩, f4, f5⟩ := g
    have e : xreads τ0 = xstep τ := by rw [hr, xrun_done (by omega)]
    refine ⟨Or.inr ⟨?_, by omega, by rw [e, f2, f4], by rw [e, f3, f5]⟩, Or.inr (by omega), Or.inl ht⟩
    rw [e]
    intro hh
    have := hh.2
    omega
theorem rj_opd {τ0 σ0 : ZSt} {m : Nat} {t : Int} {ρ : ZSt} (h0 : Rd0 τ0 σ0) (h : RJ τ0 σ0 m t ρ) (ht : t = 0) (he : ρ 31 33 < 0) (hw : ρ 31 39 ≠ 0) : RJ τ0 σ0 (m - 1) t (mrdop ρ) ∧ 0 < m := by
  obtain ⟨τ, hr⟩ := rj_run h ht he
  have hr2 := hr
  obtain ⟨h1, h2, h3, r, q, sx, -⟩ := hr
  have w : WO τ := h0.1.same sx
  have so : SO τ ρ := h0.2.1.same sx h.1
  have r3 := r.2.2.1
  have q4 : ρ 31 39 = τ 25 8 := q.2.2.1
  have h8 : τ 25 8 = 1 := by omega
  have e : xstep τ = xrdop τ := zif_neg (by omega)
  have := step_opd w so r q h8
  rw [← e] at this
  exact rrun_step hr2 (h.1.trans (mrdop_same ρ)) ht this
theorem rj_opr {τ0 σ0 : ZSt} {m : Nat} {t : Int} {ρ : ZSt} (h0 : Rd0 τ0 σ0) (h : RJ τ0 σ0 m t ρ) (ht : t = 0) (he : ρ 31 33 < 0) (hw : ρ 31 39 = 0) : RJ τ0 σ0 (m - 1) (mgo ρ).1 (mgo ρ).2 ∧ 0 < m ∧ ((mgo ρ).1 = 0 ∨ (mgo ρ).1 = 1) := by
  obtain ⟨τ, hr⟩ := rj_run h ht he
  have hr2 := hr
  obtain ⟨h1, h2, h3, r, q, sx, hrr, hm⟩ := hr
  have w : WO τ := h0.1.same sx
  have so : SO τ ρ := h0.2.1.same sx h.1
  have q4 : ρ 31 39 = τ 25 8 := q.2.2.1
  have h8 : τ 25 8 = 0 := by omega
  have r1 := r.1
  have r2 := r.2.1
  have e : xstep τ = xrdor τ := zif_pos h8
  have htx : ∀ j : Nat, (j : Int) < τ 23 1 → 0 < τ 24 j := by
    rw [sx 23 (by decide), sx 24 (by decide)]
    exact h0.2.2.2.2
  rcases step_opr w so r q h8 htx with g | g
  · rw [← e] at g
    obtain ⟨a, b⟩ := rrun_step hr2 (h.1.trans (mgo_same ρ)) g.2 g.1
    exact ⟨a, b, Or.inl g.2⟩
  · obtain ⟨g1, g2, g3, g4⟩ := g
    have hm0 : 0 < m := by omega
    rw [g3, g4]
    refine ⟨⟨h.1, Or.inl ⟨Or.inl ?_, Or.inl rfl, Or.inr rfl⟩⟩, hm0, Or.inr rfl⟩
    have er : xreads τ0 = zup τ 25 11 1 := by
      rw [hrr, xrun_go hm0 h1, e, g1]
      exact xrun_done (by show (1 : Int) ≠ 0; decide) _
    rw [er]
    refine ⟨⟨by show (1 : Int) ≠ 0; decide, h2⟩, h3, q.2.2.2.2.2.2.2.1, ?_, ?_, ?_⟩
    · show ρ 31 37 = τ 13 5 - 1
      have := q.2.2.2.1 h8
      have r3 := r.2.2.1
      omega
    · show 0 < τ 13 5 ∧ τ 13 5 ≤ 120
      have r3 := r.2.2.1
      omega
    · exact r.2.2.2.2.2.1
theorem rj_start {τ0 σ0 : ZSt} (h0 : Rd0 τ0 σ0) : RJ τ0 σ0 242 0 (mstart σ0) := by
  obtain ⟨w, so, hl, ⟨t1, t2⟩, -⟩ := h0
  refine ⟨?_, Or.inr ⟨rfl, xstart τ0, rfl, rfl, rfl, ?_, ?_, ?_, rfl, ?_⟩⟩
  · exact ((((((((SameM.rf.upF (by decide)).upF (by decide)).upF (by decide)).upF (by decide)).upF (by decide)).upF (by decide)).upF (by decide)).upF (by decide)).upF (by decide)
  · refine ⟨⟨Int.le_refl 0, hl.1, hl.2⟩, ⟨Int.le_refl 0, Int.le_refl 0, Int.le_refl 0⟩, Or.inl rfl, Or.inl rfl, ?_, ?_, ?_⟩
    · intro i hi
      have : (i : Int) < 0 := hi
      omega
    · intro i hi
      have : (i : Int) < 0 := hi
      omega
    · rw [zif_neg (by show ¬ (1 : Int) = 0; decide)]
      rfl
  · refine ⟨⟨t1, t2⟩, rfl, rfl, ?_, rfl, rfl, ?_, ?_, ?_⟩
    · intro g; exact absurd (show (1 : Int) = 0 from g) (by decide)
    · rw [xfmin_eq (by show (0 : Int) ≤ 0 ∧ (0 : Int) ≤ 120; decide)]
      rfl
    · exact ⟨rfl, fun i hi => by have : (i : Int) < 0 := hi; omega⟩
    · intro i hi
      have : (i : Int) < 0 := hi
      omega
  · exact ((((((((SameX.rf.up (by decide)).up (by decide)).up (by decide)).up (by decide)).up (by decide)).up (by decide)).up (by decide)).up (by decide)).up (by decide)
  · show 2 * (τ0 23 1 - 0) + 0 < ((242 : Nat) : Int)
    omega
