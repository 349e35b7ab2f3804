/-! ===== the state as both are made ===== -/
def sg0 : ZSt := fun k j => if k = 0 ∧ j = 8 then -1 else if (k = 0 ∧ (j = 9 ∨ j = 10)) ∨ (k = 31 ∧ (j = 14 ∨ j = 17 ∨ j = 18)) then -10 else 0
theorem sg0_row {k : Nat} (h : k ≠ 0 ∧ k ≠ 31) : sg0 k = fun _ => 0 := by
  funext j
  unfold sg0
  rw [if_neg (by omega), if_neg (by omega)]
theorem sg0_31 {j : Nat} (h : j ≠ 14 ∧ j ≠ 17 ∧ j ≠ 18) : sg0 31 j = 0 := by
  unfold sg0
  rw [if_neg (by omega), if_neg (by omega)]
theorem sg0_rs : zRs sg0 := by
  intro k j
  unfold sg0 zRg
  split
  · omega
  · split <;> omega
theorem sim0 : Sim sg0 sg0 := by
  have z : ∀ k j, k ≠ 0 ∧ k ≠ 31 → sg0 k j = 0 := fun k j h => by rw [sg0_row h]
  refine ⟨⟨?_, ?_⟩, ⟨?_, ?_⟩, ⟨?_, ?_, ?_⟩, ⟨⟨?_, ?_⟩, ?_, ?_⟩, ⟨⟨?_, ?_⟩, ?_⟩, ⟨rfl, Or.inl rfl⟩, ⟨rfl, rfl⟩, ?_⟩
  · unfold IX
    rw [sg0_row (by decide), sg0_row (by decide), sg0_row (by decide), sg0_row (by decide), sg0_row (by decide), sg0_row (by decide), sg0_row (by decide), sg0_row (by decide)]
    simp
  · unfold IM
    rw [sg0_31 (by decide), sg0_31 (by decide), sg0_31 (by decide), sg0_31 (by decide), sg0_31 (by decide), sg0_row (by decide)]
    simp
  · unfold WO
    rw [sg0_row (by decide), sg0_row (by decide), sg0_row (by decide), sg0_row (by decide), sg0_row (by decide), sg0_row (by decide)]
    refine ⟨by decide, fun _ => Or.inl rfl, fun _ => (show (0 : Int) ≤ 0 ∧ (0 : Int) ≤ 2 by decide), fun _ => (show (0 : Int) ≤ 0 ∧ (0 : Int) ≤ 9 by decide), fun i hi => ?_, fun _ => (show (0 : Int) ≤ 0 ∧ (0 : Int) ≤ 2 by decide), fun _ => Or.inl rfl⟩
    exact absurd hi (by show ¬ (i : Int) < 0; omega)
  · unfold SO
    rw [sg0_31 (by decide), sg0_row (by decide), sg0_row (by decide), sg0_row (by decide), sg0_row (by decide), sg0_row (by decide), sg0_row (by decide), sg0_row (by decide), sg0_row (by decide), sg0_row (by decide), sg0_row (by decide), sg0_row (by decide)]
    exact ⟨rfl, rfl, rfl, rfl, rfl, rfl⟩
  · refine ⟨?_, fun i hi => ?_, fun i hi => ?_⟩
    · rw [sg0_31 (by decide), z 7 5 (by decide)]
    · rw [z 7 5 (by decide)] at hi; omega
    · rw [z 7 5 (by decide)] at hi; omega
  · refine ⟨⟨?_, fun i hi => ?_⟩, fun i hi => ?_⟩
    · rw [z 7 5 (by decide)]; decide
    · rw [z 7 5 (by decide)] at hi; omega
    · rw [z 7 5 (by decide)] at hi; omega
  · rw [z 7 5 (by decide)]; decide
  · rw [sg0_31 (by decide), z 21 1 (by decide)]
  · rw [sg0_row (by decide), sg0_row (by decide)]
  · intro j hj; rw [z 21 1 (by decide)] at hj; omega
  · intro p hj; rw [z 21 1 (by decide)] at hj; omega
  · rw [sg0_31 (by decide), z 19 1 (by decide)]
  · rw [sg0_row (by decide), sg0_row (by decide)]
  · intro j hj; rw [z 19 1 (by decide)] at hj; omega
  · intro i; rw [z 30 i (by decide)]; decide
