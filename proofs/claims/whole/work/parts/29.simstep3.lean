/-! ===== one step of both ===== -/
/-- what of the state a step leaves: on either side -/
def SameX (τ ρ : ZSt) : Prop := ∀ c, ¬ (13 ≤ c ∧ c ≤ 18) ∧ ¬ (25 ≤ c ∧ c ≤ 28) → ρ c = τ c
def SameM (σ ς : ZSt) : Prop := (∀ c, c ≠ 31 ∧ ¬ (49 ≤ c ∧ c ≤ 53) → ς c = σ c) ∧ ∀ j, j ≠ 30 ∧ ¬ (32 ≤ j ∧ j ≤ 39) → ς 31 j = σ 31 j
/-- a step that goes on -/
def Goes2 (τ σ ρ ς : ZSt) : Prop := RX ρ ∧ SQ ρ ς ∧ ρ 25 11 = τ 25 11 ∧ ρ 25 12 = τ 25 12 ∧ ς 31 33 = σ 31 33 ∧ 2 * (ρ 23 1 - ρ 25 7) + ρ 25 6 < 2 * (τ 23 1 - τ 25 7) + τ 25 6
/-- a step that fails -/
def Fails2 (τ σ ρ ς : ZSt) : Prop := ∃ k p : Int, 1 ≤ k ∧ (ρ 25 11 = 1 ∧ ρ 25 12 = k ∧ ρ 25 13 = p) ∧ ς 31 33 = k ∧ ς 31 34 = p
theorem WO.same {τ ρ : ZSt} (h : WO τ) (s : SameX τ ρ) : WO ρ := by
  unfold WO at h ⊢
  rw [s 1 (by decide), s 2 (by decide), s 3 (by decide), s 4 (by decide), s 5 (by decide), s 6 (by decide)]
  exact h
theorem SO.same {τ σ ρ ς : ZSt} (h : SO τ σ) (s : SameX τ ρ) (m : SameM σ ς) : SO ρ ς := by
  unfold SO at h ⊢
  rw [s 1 (by decide), s 2 (by decide), s 3 (by decide), s 4 (by decide), s 5 (by decide), s 6 (by decide), m.2 3 (by decide), m.1 32 (by decide), m.1 33 (by decide), m.1 34 (by decide), m.1 35 (by decide), m.1 36 (by decide)]
  exact h
theorem sq_chr {τ σ : ZSt} (q : SQ τ σ) (r : RX τ) : (τ 25 7 < τ 23 1 → mchr σ = xat τ 23 (τ 25 7)) ∧ (¬ τ 25 7 < τ 23 1 → mchr σ = -10 ∧ xat τ 23 (τ 25 7) = -1) := by
  obtain ⟨q1, q2, -⟩ := q
  obtain ⟨r1, -⟩ := r
  unfold mchr xat
  rw [q1.1, q2]
  constructor
  · intro h
    rw [zif_pos h, zget_in ⟨r1.1, h⟩]
    exact q1.2 _ (by omega)
  · intro h
    rw [zif_neg h, zget_out (by omega)]
    exact ⟨rfl, rfl⟩
/-- a frame is opened by both -/
theorem sq_open {τ σ : ZSt} (w : WO τ) (so : SO τ σ) (r : RX τ) (q : SQ τ σ) (hp : τ 25 7 < τ 23 1) {o b x y z v : Int}
    (hf : (o = -1 ∧ b = -1) ∨ ((0 ≤ o ∧ o < τ 1 5) ∧ ((τ 3 o.toNat = 1 ∧ b = -1) ∨ (τ 3 o.toNat = 0 ∧ 0 ≤ b ∧ b < τ 13 5))))
    (hl : xnsz τ 13 b + zlive τ (τ 25 6).toNat = τ 13 5) (ex : x = if o = -1 then 40 else τ 3 o.toNat) (ey : y = zd o) (ez : z = zd b) (ev : v = xmin τ o) : Goes2 τ σ (xopenf τ o b) (mopen σ x y z v) := by
  have hrx := r.opn hp hf hl
  obtain ⟨⟨q1, q2⟩, q3, q4, q5, q6, q7, q8, q9, q10⟩ := q
  obtain ⟨r1, r2, r3, r4, r5, r6, r7⟩ := r
  have hfr : τ 25 6 < 120 := by omega
  refine ⟨hrx, ?_, ?_, ?_, rfl, ?_⟩
  · rw [xopenf_eq hfr]
    have em : ∀ u, xmin (zup (zup (zup (zup (zup (zup τ 26 (τ 25 6).toNat o) 27 (τ 25 6).toNat (τ 25 7)) 28 (τ 25 6).toNat b) 25 6 (τ 25 6 + 1)) 25 7 (τ 25 7 + 1)) 25 8 1) u = xmin τ u := fun u => xmin_row rfl rfl rfl rfl u
    refine ⟨⟨q1, q2⟩, ?_, rfl, ?_, q6, ?_, ?_, q9, ?_⟩
    · show σ 31 35 + 1 = τ 25 7 + 1; rw [q3]
    · intro h8; exact absurd (show (1 : Int) = 0 from h8) (by decide)
    · show σ 31 32 + 1 = τ 25 6 + 1; rw [q7]
    · rw [xfmin_eq (by show 0 ≤ τ 25 6 + 1 ∧ τ 25 6 + 1 ≤ 120; omega)]
      show v = if τ 25 6 + 1 = 0 then 0 else _
      rw [if_neg (by omega), em, ev]
      show xmin τ o = xmin τ ((zup τ 26 (τ 25 6).toNat o) 26 (τ 25 6 + 1 - 1).toNat)
      rw [show (τ 25 6 + 1 - 1).toNat = (τ 25 6).toNat by omega, zup_same]
    · intro i hi
      have hi2 : (i : Int) < τ 25 6 + 1 := hi
      have e5 : ∀ j : Nat, (5 * σ 31 32 + (j : Int)).toNat = 5 * (τ 25 6).toNat + j := fun j => by rw [q7]; omega
      have e50 : (5 * σ 31 32).toNat = 5 * (τ 25 6).toNat := by rw [q7]; omega
      have e51 := e5 1
      have e52 := e5 2
      have e53 := e5 3
      have e54 := e5 4
      simp only [Int.cast_ofNat_Int] at e51 e52 e53 e54
      unfold SFr
      simp only [em]
      unfold mopen
      rw [e50, show (5 * σ 31 32 + 1).toNat = 5 * (τ 25 6).toNat + 1 by rw [q7]; omega, show (5 * σ 31 32 + 2).toNat = 5 * (τ 25 6).toNat + 2 by rw [q7]; omega, show (5 * σ 31 32 + 3).toNat = 5 * (τ 25 6).toNat + 3 by rw [q7]; omega, show (5 * σ 31 32 + 4).toNat = 5 * (τ 25 6).toNat + 4 by rw [q7]; omega]
      by_cases hin : i = (τ 25 6).toNat
      · subst hin
        simp only [zup]
        simp
        refine ⟨ex, ey, q3, ez, ?_⟩
        rw [q8, xfmin_eq (by omega)]
        by_cases h0 : τ 25 6 = 0
        · rw [if_pos h0, if_pos (by omega)]
        · rw [if_neg h0, if_neg (by omega), if_neg (by omega), show (τ 25 6 - 1).toNat = (τ 25 6).toNat - 1 by omega]
      · have hq := q10 i (by omega)
        unfold SFr at hq
        have n0 : ∀ a b : Nat, a < 5 → b < 5 → ¬ (5 * i + a = 5 * (τ 25 6).toNat + b) := fun a b ha hb => by omega
        simp only [zup]
        have f1 : ¬ (i - 1 = (τ 25 6).toNat) := by omega
        simp [hin, f1]
        have g0 : ∀ b : Nat, b < 5 → ¬ (5 * i = 5 * (τ 25 6).toNat + b) := fun b hb => by omega
        have g1 : ∀ a : Nat, a < 5 → ¬ (5 * i + a = 5 * (τ 25 6).toNat) := fun a ha => by omega
        have g00 : ¬ (5 * i = 5 * (τ 25 6).toNat) := by omega
        simp [n0, g0, g1, g00]
        exact hq
  · rw [xopenf_eq hfr]; rfl
  · rw [xopenf_eq hfr]; rfl
  · rw [xopenf_eq hfr]
    show 2 * (τ 23 1 - (τ 25 7 + 1)) + (τ 25 6 + 1) < _
    omega
