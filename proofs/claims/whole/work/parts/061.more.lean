/-! ===== truth as a number; small rows ===== -/
noncomputable def zb (c : Prop) : Int := @ite Int c (Classical.propDecidable c) 1 0
theorem zb_t {c : Prop} (h : c) : zb c = 1 := by unfold zb; exact if_pos h
theorem zb_f {c : Prop} (h : ¬ c) : zb c = 0 := by unfold zb; exact if_neg h
theorem zb_one {c : Prop} (h : c) : (1 : Int) = zb c := (zb_t h).symm
theorem zb_zero {c : Prop} (h : ¬ c) : (0 : Int) = zb c := (zb_f h).symm
theorem zb01 {c : Prop} {r : Int} (h : r = zb c) : r = 0 ∨ r = 1 := by
  by_cases hc : c
  · right; rw [h, zb_t hc]
  · left; rw [h, zb_f hc]
theorem zb0 {c : Prop} {r : Int} (h : r = zb c) (h0 : r = 0) : ¬ c := fun hc => by rw [h, zb_t hc] at h0; omega
theorem zb1 {c : Prop} {r : Int} (h : r = zb c) (h0 : r ≠ 0) : c := by
  by_cases hc : c
  · exact hc
  · exact absurd (by rw [h, zb_f hc]) h0
theorem zb_iff {c d : Prop} (h : c ↔ d) : zb c = zb d := by
  by_cases hc : c
  · rw [zb_t hc, zb_t (h.mp hc)]
  · rw [zb_f hc, zb_f (fun q => hc (h.mpr q))]
theorem zRgL {n : Int} (h : (decide (-2147483648 ≤ n) && decide (n < 2147483648)) = true) : zRg n := by
  simp only [Bool.and_eq_true, decide_eq_true_eq] at h
  exact h
theorem zup_same (σ : ZSt) (k j : Nat) (v : Int) : zup σ k j v k j = v := by simp [zup]
theorem zup_cell {σ : ZSt} {k k' j j' : Nat} {v : Int} (h : k' ≠ k) : zup σ k j v k' j' = σ k' j' := by simp [zup, h]
theorem zup_place {σ : ZSt} {k k' j j' : Nat} {v : Int} (h : j' ≠ j) : zup σ k j v k' j' = σ k' j' := by simp [zup, h]
/-- the bounds that the class's rows keep: how many operators, nodes, nodes read, signs, frames -/
def IX (σ : ZSt) : Prop := (0 ≤ σ 1 5 ∧ σ 1 5 ≤ 16) ∧ (0 ≤ σ 7 5 ∧ σ 7 5 ≤ 120) ∧ (0 ≤ σ 13 5 ∧ σ 13 5 ≤ 120) ∧ (0 ≤ σ 19 1 ∧ σ 19 1 ≤ 120) ∧ (0 ≤ σ 21 1 ∧ σ 21 1 ≤ 120) ∧ (0 ≤ σ 23 1 ∧ σ 23 1 ≤ 120) ∧ (0 ≤ σ 25 6 ∧ σ 25 6 ≤ 120)
theorem IX.nt {σ : ZSt} (h : IX σ) {k : Nat} (hk : k = 7 ∨ k = 13) : 0 ≤ σ k 5 ∧ σ k 5 ≤ 120 := by
  obtain ⟨h1, h2, h3, h4⟩ := h
  rcases hk with rfl | rfl
  · exact h2
  · exact h3
theorem IX.tx {σ : ZSt} (h : IX σ) {k : Nat} (hk : k = 19 ∨ k = 21 ∨ k = 23) : 0 ≤ σ k 1 ∧ σ k 1 ≤ 120 := by
  obtain ⟨h1, h2, h3, h4, h5, h6, h7⟩ := h
  rcases hk with rfl | rfl | rfl
  · exact h4
  · exact h5
  · exact h6
