/-! ===== truth as a number; small rows ===== -/
noncomputable def zb (c : Prop) : Int := @ite Int c (Classical.propDecidable c) 1 0
theorem zb_t {c : Prop} (h : c) : zb c = 1 := by unfold zb; exact if_pos h
theorem zb_f {c : Prop} (h : ¬ c) : zb c = 0 := by unfold zb; exact if_neg h
theorem zb_one {c : Prop} (h : c) : (1 : Int) = zb c := (zb_t h).symm
theorem zb_zero {c : Prop} (h : ¬ c) : (0 : Int) = zb c := (zb_f h).symm
theorem zb01 {c : Prop} {r : Int} (h : r = zb c) : r = 0 ∨ r = 1 := by
  by_cases hc : c
  · right; rw [h, zb_t hc]
  · left; rw [h, zb_f hc]
theorem zb0 {c : Prop} {r : Int} (h : r = zb c) (h0 : r = 0) : ¬ c := fun hc => by rw [h, zb_t hc] at h0; omega
theorem zb1 {c : Prop} {r : Int} (h : r = zb c) (h0 : r ≠ 0) : c := by
  by_cases hc : c
  · exact hc
  · exact absurd (by rw [h, zb_f hc]) h0
theorem zb_iff {c d : Prop} (h : c ↔ d) : zb c = zb d := by
  by_cases hc : c
  · rw [zb_t hc, zb_t (h.mp hc)]
  · rw [zb_f hc, zb_f (fun q => hc (h.mpr q))]
theorem zRgL {n : Int} (h : (decide (-2147483648 ≤ n) && decide (n < 2147483648)) = true) : zRg n := by
  simp only [Bool.and_eq_true, decide_eq_true_eq] at h
  exact h
theorem zup_same (σ : ZSt) (k j : Nat) (v : Int) : zup σ k j v k j = v := by simp [zup]
theorem zup_cell {σ : ZSt} {k k' j j' : Nat} {v : Int} (h : k' ≠ k) : zup σ k j v k' j' = σ k' j' := by simp [zup, h]
theorem zup_place {σ : ZSt} {k k' j j' : Nat} {v : Int} (h : j' ≠ j) : zup σ k j v k' j' = σ k' j' := by simp [zup, h]
