/-- a leaf or a postfix node is made by both -/
theorem sq_add {τ σ ς : ZSt} (r : RX τ) (q : SQ τ σ) (hp : τ 25 7 < τ 23 1) {o l b a : Int} (hw : NwOK τ o l b a)
    (hl : 1 + xnsz τ 13 b + xnsz τ 13 a + zlive τ (τ 25 6).toNat = τ 13 5 + 1)
    (f1 : ς 31 25 = σ 31 25 ∧ ς 48 = σ 48 ∧ ς 53 = σ 53) (f2 : ς 31 35 = σ 31 35 + 1 ∧ ς 31 39 = 0 ∧ ς 31 37 = σ 31 30 ∧ ς 31 38 = 0 ∧ ς 31 32 = σ 31 32 ∧ ς 31 36 = σ 31 36 ∧ ς 31 33 = σ 31 33)
    (hm : ς 31 30 = σ 31 30 + 1 ∧ ∀ i : Nat, ς 49 i = (if i = (σ 31 30).toNat then zd o else σ 49 i) ∧ ς 50 i = (if i = (σ 31 30).toNat then zd l else σ 50 i) ∧ ς 51 i = (if i = (σ 31 30).toNat then yfst b a else σ 51 i) ∧ ς 52 i = (if i = (σ 31 30).toNat then ysnd b a else σ 52 i)) : Goes2 τ σ (ADDX (zup τ 25 7 (τ 25 7 + 1)) o l b a) ς := by
  have hrx := r.add hp hw hl
  obtain ⟨⟨q1, q2⟩, q3, q4, q5, q6, q7, q8, q9, q10⟩ := q
  obtain ⟨r1, r2, r3, r4, r5, r6, r7⟩ := r
  obtain ⟨f11, f12, f13⟩ := f1
  obtain ⟨g1, g2, g3, g4, g5, g6, g7⟩ := f2
  have hn : 0 ≤ (zup τ 25 7 (τ 25 7 + 1)) 13 5 ∧ (zup τ 25 7 (τ 25 7 + 1)) 13 5 < 120 := by show 0 ≤ τ 13 5 ∧ τ 13 5 < 120; omega
  have c1 : ADDX (zup τ 25 7 (τ 25 7 + 1)) o l b a 13 5 = τ 13 5 + 1 := addx_cnt hn.2
  have c7 : ADDX (zup τ 25 7 (τ 25 7 + 1)) o l b a 25 7 = τ 25 7 + 1 := addx_25 hn.2 (by decide)
  have c6 : ADDX (zup τ 25 7 (τ 25 7 + 1)) o l b a 25 6 = τ 25 6 := addx_25 hn.2 (by decide)
  have rr : ∀ c, ¬ (13 ≤ c ∧ c ≤ 18) ∧ c ≠ 25 → ADDX (zup τ 25 7 (τ 25 7 + 1)) o l b a c = τ c := fun c hc => (addx_row hn.2 hc).trans (zup_row hc.2)
  have em : ∀ u, xmin (ADDX (zup τ 25 7 (τ 25 7 + 1)) o l b a) u = xmin τ u := fun u => xmin_row (rr 1 (by decide)) (rr 3 (by decide)) (rr 4 (by decide)) (rr 5 (by decide)) u
  refine ⟨hrx, ?_, addx_25 hn.2 (by decide), addx_25 hn.2 (by decide), g7, ?_⟩
  · refine ⟨⟨?_, ?_⟩, ?_, ?_, ?_, ?_, ?_, ?_, ?_, ?_⟩
    · rw [f11, rr 23 (by decide)]; exact q1
    · rw [f12, rr 23 (by decide), rr 24 (by decide)]; exact q2
    · rw [g1, c7, q3]
    · rw [g2, addx_8]
    · intro _; rw [g3, addx_9 hn.2, q9.1]; rfl
    · rw [g4, addx_10]
    · rw [g5, c6, q7]
    · rw [g6, q8, xfmin_eq (by omega), xfmin_eq (by rw [c6]; omega), c6, em, rr 26 (by decide)]
    · exact SRd.add q9 (by omega) c1 (fun i => by obtain ⟨e1, e2, e3, e4, -⟩ := addx_arr (o := o) (l := l) (b := b) (a := a) hn.2 i; exact ⟨e1, e2, e3, e4⟩) hm
    · intro i hi
      rw [c6] at hi
      have := q10 i hi
      unfold SFr at this ⊢
      rw [f13, rr 26 (by decide), rr 27 (by decide), rr 28 (by decide), rr 3 (by decide), em]
      exact this
  · rw [c7, c6, rr 23 (by decide)]; omega
/-- a node is completed by both -/
theorem sq_cmp {τ σ ς : ZSt} (r : RX τ) (q : SQ τ σ) (h8 : τ 25 8 = 0) (hf : 0 < τ 25 6) (ho : τ 26 (τ 25 6 - 1).toNat ≠ -1)
    (f1 : ς 31 25 = σ 31 25 ∧ ς 48 = σ 48 ∧ ς 53 = σ 53) (f2 : ς 31 35 = σ 31 35 ∧ ς 31 39 = σ 31 39 ∧ ς 31 37 = σ 31 30 ∧ ς 31 38 = 0 ∧ ς 31 32 = σ 31 32 - 1 ∧ ς 31 36 = σ 53 (5 * (σ 31 32 - 1) + 4).toNat ∧ ς 31 33 = σ 31 33)
    (hm : ς 31 30 = σ 31 30 + 1 ∧ ∀ i : Nat, ς 49 i = (if i = (σ 31 30).toNat then zd (τ 26 (τ 25 6 - 1).toNat) else σ 49 i) ∧ ς 50 i = (if i = (σ 31 30).toNat then zd (-1) else σ 50 i) ∧ ς 51 i = (if i = (σ 31 30).toNat then yfst (τ 28 (τ 25 6 - 1).toNat) (τ 25 9) else σ 51 i) ∧ ς 52 i = (if i = (σ 31 30).toNat then ysnd (τ 28 (τ 25 6 - 1).toNat) (τ 25 9) else σ 52 i)) :
    Goes2 τ σ (ADDX (zup τ 25 6 (τ 25 6 - 1)) (τ 26 (τ 25 6 - 1).toNat) (-1) (τ 28 (τ 25 6 - 1).toNat) (τ 25 9)) ς := by
  have hrx := r.cmp h8 hf ho
  obtain ⟨⟨q1, q2⟩, q3, q4, q5, q6, q7, q8, q9, q10⟩ := q
  obtain ⟨r1, r2, r3, r4, r5, r6, r7⟩ := r
  obtain ⟨f11, f12, f13⟩ := f1
  obtain ⟨g1, g2, g3, g4, g5, g6, g7⟩ := f2
  have htop := q10 (τ 25 6 - 1).toNat (by omega)
  obtain ⟨o, eo⟩ : ∃ o, o = τ 26 (τ 25 6 - 1).toNat := ⟨_, rfl⟩
  obtain ⟨b, eb⟩ : ∃ b, b = τ 28 (τ 25 6 - 1).toNat := ⟨_, rfl⟩
  obtain ⟨a, ea⟩ : ∃ a, a = τ 25 9 := ⟨_, rfl⟩
  rw [← eo, ← eb, ← ea] at hrx hm ⊢
  have hn : 0 ≤ (zup τ 25 6 (τ 25 6 - 1)) 13 5 ∧ (zup τ 25 6 (τ 25 6 - 1)) 13 5 < 120 := by show 0 ≤ τ 13 5 ∧ τ 13 5 < 120; omega
  have c1 : ADDX (zup τ 25 6 (τ 25 6 - 1)) o (-1) b a 13 5 = τ 13 5 + 1 := addx_cnt hn.2
  have c7 : ADDX (zup τ 25 6 (τ 25 6 - 1)) o (-1) b a 25 7 = τ 25 7 := addx_25 hn.2 (by decide)
  have c6 : ADDX (zup τ 25 6 (τ 25 6 - 1)) o (-1) b a 25 6 = τ 25 6 - 1 := addx_25 hn.2 (by decide)
  have rr : ∀ c, ¬ (13 ≤ c ∧ c ≤ 18) ∧ c ≠ 25 → ADDX (zup τ 25 6 (τ 25 6 - 1)) o (-1) b a c = τ c := fun c hc => (addx_row hn.2 hc).trans (zup_row hc.2)
  have em : ∀ u, xmin (ADDX (zup τ 25 6 (τ 25 6 - 1)) o (-1) b a) u = xmin τ u := fun u => xmin_row (rr 1 (by decide)) (rr 3 (by decide)) (rr 4 (by decide)) (rr 5 (by decide)) u
  refine ⟨hrx, ?_, addx_25 hn.2 (by decide), addx_25 hn.2 (by decide), g7, ?_⟩
  · refine ⟨⟨?_, ?_⟩, ?_, ?_, ?_, ?_, ?_, ?_, ?_, ?_⟩
    · rw [f11, rr 23 (by decide)]; exact q1
    · rw [f12, rr 23 (by decide), rr 24 (by decide)]; exact q2
    · rw [g1, c7, q3]
    · rw [g2, addx_8, q4, h8]
    · intro _; rw [g3, addx_9 hn.2, q9.1]; rfl
    · rw [g4, addx_10]
    · rw [g5, c6, q7]
    · rw [g6, xfmin_eq (by rw [c6]; omega), c6, em, rr 26 (by decide)]
      obtain ⟨-, -, -, -, t5⟩ := htop
      rw [show (5 * (σ 31 32 - 1) + 4).toNat = 5 * (τ 25 6 - 1).toNat + 4 by rw [q7]; omega, t5]
      by_cases h0 : τ 25 6 - 1 = 0
      · rw [if_pos h0, if_pos (by omega)]
      · rw [if_neg h0, if_neg (by omega), show (τ 25 6 - 1 - 1).toNat = (τ 25 6 - 1).toNat - 1 by omega]
    · exact SRd.add q9 (by omega) c1 (fun i => by obtain ⟨e1, e2, e3, e4, -⟩ := addx_arr (o := o) (l := -1) (b := b) (a := a) hn.2 i; exact ⟨e1, e2, e3, e4⟩) hm
    · intro i hi
      rw [c6] at hi
      have := q10 i (by omega)
      unfold SFr at this ⊢
      rw [f13, rr 26 (by decide), rr 27 (by decide), rr 28 (by decide), rr 3 (by decide), em]
      exact this
  · rw [c7, c6, rr 23 (by decide)]; omega
/-- a bracket is closed by both -/
theorem sq_clo {τ σ ς : ZSt} (r : RX τ) (q : SQ τ σ) (hp : τ 25 7 < τ 23 1) (h8 : τ 25 8 = 0) (hf : 0 < τ 25 6) (ho : τ 26 (τ 25 6 - 1).toNat = -1)
    (f1 : ς 31 25 = σ 31 25 ∧ ς 48 = σ 48 ∧ ς 53 = σ 53 ∧ ς 49 = σ 49 ∧ ς 50 = σ 50 ∧ ς 51 = σ 51 ∧ ς 52 = σ 52) (f2 : ς 31 35 = σ 31 35 + 1 ∧ ς 31 39 = σ 31 39 ∧ ς 31 37 = σ 31 37 ∧ ς 31 38 = 1 ∧ ς 31 32 = σ 31 32 - 1 ∧ ς 31 36 = σ 53 (5 * (σ 31 32 - 1) + 4).toNat ∧ ς 31 33 = σ 31 33 ∧ ς 31 30 = σ 31 30) :
    Goes2 τ σ (zup (zup (zup τ 25 7 (τ 25 7 + 1)) 25 6 (τ 25 6 - 1)) 25 10 1) ς := by
  have hrx := r.clo hp h8 hf ho
  obtain ⟨⟨q1, q2⟩, q3, q4, q5, q6, q7, q8, q9, q10⟩ := q
  obtain ⟨r1, r2, r3, r4, r5, r6, r7⟩ := r
  obtain ⟨f11, f12, f13, f14, f15, f16, f17⟩ := f1
  obtain ⟨g1, g2, g3, g4, g5, g6, g7, g8⟩ := f2
  have htop := q10 (τ 25 6 - 1).toNat (by omega)
  have em : ∀ u, xmin (zup (zup (zup τ 25 7 (τ 25 7 + 1)) 25 6 (τ 25 6 - 1)) 25 10 1) u = xmin τ u := fun u => xmin_row rfl rfl rfl rfl u
  refine ⟨hrx, ?_, rfl, rfl, g7, ?_⟩
  · refine ⟨⟨?_, ?_⟩, ?_, ?_, ?_, ?_, ?_, ?_, ?_, ?_⟩
    · rw [f11]; exact q1
    · rw [f12]; exact q2
    · rw [g1, q3]; rfl
    · rw [g2]; exact q4
    · intro h; rw [g3]; exact q5 h
    · rw [g4]; rfl
    · rw [g5, q7]; rfl
    · rw [g6, xfmin_eq (by show 0 ≤ τ 25 6 - 1 ∧ τ 25 6 - 1 ≤ 120; omega)]
      show _ = if τ 25 6 - 1 = 0 then 0 else xmin _ (τ 26 (τ 25 6 - 1 - 1).toNat)
      rw [em]
      obtain ⟨-, -, -, -, t5⟩ := htop
      rw [show (5 * (σ 31 32 - 1) + 4).toNat = 5 * (τ 25 6 - 1).toNat + 4 by rw [q7]; omega, t5]
      by_cases h0 : τ 25 6 - 1 = 0
      · rw [if_pos h0, if_pos (by omega)]
      · rw [if_neg h0, if_neg (by omega), show (τ 25 6 - 1 - 1).toNat = (τ 25 6 - 1).toNat - 1 by omega]
    · refine ⟨by rw [g8]; exact q9.1, fun i hi => ?_⟩
      rw [f14, f15, f16, f17]
      exact q9.2 i hi
    · intro i hi
      have hi2 : (i : Int) < τ 25 6 - 1 := hi
      have := q10 i (by omega)
      unfold SFr at this ⊢
      rw [f13, em]
      exact this
  · show 2 * (τ 23 1 - (τ 25 7 + 1)) + (τ 25 6 - 1) < _
    omega
