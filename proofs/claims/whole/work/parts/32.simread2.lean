/-- the left side, as both see it -/
theorem sq_left {τ σ : ZSt} (r : RX τ) (q : SQ τ σ) (h8 : τ 25 8 = 0) : (0 ≤ τ 25 9 ∧ τ 25 9 < τ 13 5) ∧ σ 31 37 = τ 25 9 ∧ xnop τ 13 (τ 25 9) = τ 14 (τ 25 9).toNat ∧ σ 49 (σ 31 37).toNat = zd (τ 14 (τ 25 9).toNat) ∧ (τ 14 (τ 25 9).toNat = -1 ∨ (0 ≤ τ 14 (τ 25 9).toNat ∧ τ 14 (τ 25 9).toNat < τ 1 5)) := by
  obtain ⟨-, -, q4, q5, -, -, -, q9, -⟩ := q
  obtain ⟨r1, r2, r3, r4, r5, r6, r7⟩ := r
  have hl : 0 ≤ τ 25 9 ∧ τ 25 9 < τ 13 5 := by omega
  have e1 := q5 h8
  refine ⟨hl, e1, zget_in hl, ?_, ?_⟩
  · rw [e1]; exact (q9.2 (τ 25 9).toNat (by omega)).1
  · have := (r6 (τ 25 9).toNat (by omega)).1.1
    simp only [Nat.reduceAdd] at this
    omega
theorem sq_bb {τ σ : ZSt} (so : SO τ σ) (r : RX τ) (q : SQ τ σ) (h8 : τ 25 8 = 0) {o : Int} (ho : 0 ≤ o ∧ o < τ 1 5) : mbb σ o ↔ xfu τ o := by
  obtain ⟨l1, l2, l3, l4, l5⟩ := sq_left r q h8
  unfold mbb xfu
  rw [q.2.2.2.2.1, l4, l3, so.bar ho l5]
theorem mend_br {σ : ZSt} (h : σ 53 (5 * (σ 31 32 - 1)).toNat = 40) : mend σ = zup (zup (zup (zif (σ 31 35 = σ 31 25) (mfail (zup σ 31 32 (σ 31 32 - 1)) 3 (σ 31 35)) (zup σ 31 32 (σ 31 32 - 1))) 31 35 (σ 31 35 + 1)) 31 38 1) 31 36 (σ 53 (5 * (σ 31 32 - 1) + 4).toNat) := zif_pos h
theorem xcomplete_add (τ : ZSt) (t : Int) (h : ¬ xfu τ (τ 26 t.toNat)) : xcomplete τ t = ADDX (zup τ 25 6 (τ 25 6 - 1)) (τ 26 t.toNat) (-1) (τ 28 t.toNat) (τ 25 9) := zif_neg h
/-- a call ends in both -/
theorem step_end {τ σ : ZSt} (w : WO τ) (so : SO τ σ) (r : RX τ) (q : SQ τ σ) (h8 : τ 25 8 = 0) (hf : 0 < τ 25 6)
    (hb : τ 26 (τ 25 6 - 1).toNat = -1 → xat τ 23 (τ 25 7) = 41 ∨ ¬ τ 25 7 < τ 23 1) : Goes2 τ σ (xendf τ) (mend σ) ∨ Fails2 τ σ (xendf τ) (mend σ) := by
  have r1 := r.1
  have r2 := r.2.1
  have hfr := r.2.2.2.2.1 (τ 25 6 - 1).toNat (by omega)
  have hsf := q.2.2.2.2.2.2.2.2 (τ 25 6 - 1).toNat (by omega)
  have q3 : σ 31 35 = τ 25 7 := q.2.1
  have q7 : σ 31 32 = τ 25 6 := q.2.2.2.2.2.1
  have q1 : σ 31 25 = τ 23 1 := q.1.1
  have et : xtop τ = τ 25 6 - 1 := xtop_eq (by omega)
  have e0 : (5 * (σ 31 32 - 1)).toNat = 5 * (τ 25 6 - 1).toNat := by rw [q7]; omega
  have e1 : (5 * (σ 31 32 - 1) + 1).toNat = 5 * (τ 25 6 - 1).toNat + 1 := by rw [q7]; omega
  have e2 : (5 * (σ 31 32 - 1) + 2).toNat = 5 * (τ 25 6 - 1).toNat + 2 := by rw [q7]; omega
  have e3 : (5 * (σ 31 32 - 1) + 3).toNat = 5 * (τ 25 6 - 1).toNat + 3 := by rw [q7]; omega
  obtain ⟨s0, s1, s2, s3, s4⟩ := hsf
  unfold xendf
  rw [zif_neg (by omega), et]
  by_cases ho : τ 26 (τ 25 6 - 1).toNat = -1
  · rw [zif_pos ho]
    rw [if_pos ho] at s0
    rw [mend_br (by rw [e0]; exact s0)]
    unfold xendb
    rcases hb ho with hx | hx
    · have hp : τ 25 7 < τ 23 1 := by
        rcases Int.lt_or_le (τ 25 7) (τ 23 1) with g | g
        · exact g
        · unfold xat at hx; rw [zget_out (by omega)] at hx; omega
      left
      rw [zif_pos hx, zif_neg (by omega)]
      exact sq_clo r q hp h8 hf ho ⟨rfl, rfl, rfl, rfl, rfl, rfl, rfl⟩ ⟨rfl, rfl, rfl, rfl, rfl, rfl, rfl, rfl⟩
    · right
      have hx2 : xat τ 23 (τ 25 7) = -1 := zget_out (by omega)
      rw [zif_neg (by omega), zif_pos (by omega)]
      exact ⟨3, τ 25 7, by decide, ⟨rfl, rfl, rfl⟩, rfl, by rw [← q3]; rfl⟩
  · rw [zif_neg ho]
    rw [if_neg ho] at s0
    have hop : 0 ≤ τ 26 (τ 25 6 - 1).toNat ∧ τ 26 (τ 25 6 - 1).toNat < τ 1 5 := by unfold FrOK at hfr; omega
    have hk := w.2.2.1 (τ 26 (τ 25 6 - 1).toNat).toNat
    have s1' : σ 53 (5 * (τ 25 6 - 1).toNat + 1) = τ 26 (τ 25 6 - 1).toNat := by rw [s1]; exact if_neg ho
    have hbb := sq_bb so r q h8 hop
    unfold mend
    rw [e0, e1, e2, e3, s0, s1', s2, zif_neg (by omega)]
    by_cases hu : xfu τ (τ 26 (τ 25 6 - 1).toNat)
    · right
      unfold xcomplete
      rw [zif_pos hu, zif_pos (hbb.mpr hu)]
      exact ⟨6, τ 27 (τ 25 6 - 1).toNat, by decide, ⟨rfl, rfl, rfl⟩, rfl, rfl⟩
    · left
      rw [xcomplete_add _ _ hu, zif_neg (fun g => hu (hbb.mp g))]
      obtain ⟨l1, l2, -, -, -⟩ := sq_left r q h8
      by_cases hk1 : τ 3 (τ 26 (τ 25 6 - 1).toNat).toNat = 1
      · rw [zif_pos hk1]
        have hb1 : τ 28 (τ 25 6 - 1).toNat = -1 := by unfold FrOK at hfr; omega
        refine sq_cmp r q h8 hf ho ⟨rfl, rfl, rfl⟩ ⟨rfl, rfl, rfl, rfl, rfl, rfl, rfl⟩ ⟨rfl, fun i => ?_⟩
        have := (mrd_arr (σ := zup σ 31 32 (σ 31 32 - 1)) (o := τ 26 (τ 25 6 - 1).toNat) (l := -10) (a := σ 31 37) (b := -10)).2 i
        rw [show zd (τ 26 (τ 25 6 - 1).toNat) = τ 26 (τ 25 6 - 1).toNat from if_neg ho, hb1, show yfst (-1) (τ 25 9) = σ 31 37 by rw [l2]; unfold yfst zd; rw [if_pos rfl, if_neg (by omega)]]
        exact this
      · rw [zif_neg hk1]
        have hb1 : 0 ≤ τ 28 (τ 25 6 - 1).toNat := by unfold FrOK at hfr; omega
        refine sq_cmp r q h8 hf ho ⟨rfl, rfl, rfl⟩ ⟨rfl, rfl, rfl, rfl, rfl, rfl, rfl⟩ ⟨rfl, fun i => ?_⟩
        have := (mrd_arr (σ := zup σ 31 32 (σ 31 32 - 1)) (o := τ 26 (τ 25 6 - 1).toNat) (l := -10) (a := σ 53 (5 * (τ 25 6 - 1).toNat + 3)) (b := σ 31 37)).2 i
        rw [show zd (τ 26 (τ 25 6 - 1).toNat) = τ 26 (τ 25 6 - 1).toNat from if_neg ho, show yfst (τ 28 (τ 25 6 - 1).toNat) (τ 25 9) = σ 53 (5 * (τ 25 6 - 1).toNat + 3) by rw [s3]; unfold yfst zd; rw [if_neg (by omega), if_neg (by omega)], show ysnd (τ 28 (τ 25 6 - 1).toNat) (τ 25 9) = σ 31 37 by rw [l2]; unfold ysnd zd; rw [if_neg (by omega), if_neg (by omega)]]
        exact this
/-- the reading is over, in both, without a fault -/
def Ends2 (τ σ ρ : ZSt) : Prop := ρ = zup τ 25 11 1 ∧ τ 25 6 = 0 ∧ (mgo σ).1 = 1 ∧ (mgo σ).2 = σ
theorem step_opr {τ σ : ZSt} (w : WO τ) (so : SO τ σ) (r : RX τ) (q : SQ τ σ) (h8 : τ 25 8 = 0) (htx : ∀ j : Nat, (j : Int) < τ 23 1 → 0 < τ 24 j) :
    ((Goes2 τ σ (xrdor τ) (mgo σ).2 ∨ Fails2 τ σ (xrdor τ) (mgo σ).2) ∧ (mgo σ).1 = 0) ∨ Ends2 τ σ (xrdor τ) := by
  have r1 := r.1
  have r2 := r.2.1
  have q3 : σ 31 35 = τ 25 7 := q.2.1
  have q7 : σ 31 32 = τ 25 6 := q.2.2.2.2.2.1
  have q1 : σ 31 25 = τ 23 1 := q.1.1
  have q8 : σ 31 36 = xfmin τ := q.2.2.2.2.2.2.1
  have hfm := xfmin_eq (τ := τ) (by omega)
  have hch : τ 25 7 < τ 23 1 → σ 48 (σ 31 35).toNat = xat τ 23 (τ 25 7) ∧ 0 < xat τ 23 (τ 25 7) := by
    intro hp
    have e : xat τ 23 (τ 25 7) = τ 24 (τ 25 7).toNat := zget_in ⟨r1.1, hp⟩
    rw [q3, e]
    exact ⟨q.1.2 _ (by omega), htx _ (by omega)⟩
  have hno : ¬ τ 25 7 < τ 23 1 → xat τ 23 (τ 25 7) = -1 := fun hp => zget_out (by omega)
  obtain ⟨s, es⟩ : ∃ s, s = xat τ 23 (τ 25 7) := ⟨_, rfl⟩
  rw [← es] at hch hno
  -- what happens where a call, or the text, ends
  have hend : ∀ _ : (s = 41 ∨ ¬ τ 25 7 < τ 23 1) ∨ (0 < τ 25 6 ∧ τ 26 (τ 25 6 - 1).toNat ≠ -1), (((Goes2 τ σ (xendf τ) (mgoE σ).2 ∨ Fails2 τ σ (xendf τ) (mgoE σ).2) ∧ (mgoE σ).1 = 0) ∨ (xendf τ = zup τ 25 11 1 ∧ τ 25 6 = 0 ∧ (mgoE σ).1 = 1 ∧ (mgoE σ).2 = σ)) := by
    intro hcase
    by_cases hf : 0 < τ 25 6
    · left
      unfold mgoE
      rw [zif_pos (by omega)]
      refine ⟨step_end w so r q h8 hf (fun ho => ?_), rfl⟩
      rw [← es]
      rcases hcase with g | g
      · exact g
      · exact absurd ho g.2
    · have hcase2 : s = 41 ∨ ¬ τ 25 7 < τ 23 1 := by
        rcases hcase with g | g
        · exact g
        · omega
      unfold mgoE xendf
      rw [zif_neg (c := 0 < σ 31 32) (by omega), zif_pos (c := xtop τ = -1) (by rw [xtop_eq (by omega)]; omega)]
      unfold xendt
      rw [← es]
      rcases hcase2 with hs | hs
      · left
        have hp : τ 25 7 < τ 23 1 := by
          rcases Int.lt_or_le (τ 25 7) (τ 23 1) with g | g
          · exact g
          · have := hno (by omega); omega
        rw [zif_pos hs, zif_pos (by omega)]
        exact ⟨Or.inr ⟨4, τ 25 7, by decide, ⟨rfl, rfl, rfl⟩, rfl, by rw [← q3]; rfl⟩, rfl⟩
      · right
        have := hno hs
        rw [zif_neg (by omega), zif_neg (by omega)]
        exact ⟨rfl, by omega, rfl, rfl⟩
  have hmv : mover σ ↔ (s = -1 ∨ s = 41) := by
    unfold mover
    by_cases hp : τ 25 7 < τ 23 1
    · have := hch hp
      rw [this.1, q3, q1]
      constructor
      · rintro (g | g)
        · omega
        · right; exact g
      · rintro (g | g)
        · omega
        · right; exact g
    · have := hno hp
      rw [q3, q1]
      constructor
      · intro _; left; exact this
      · intro _; left; omega
  unfold Ends2 xrdor mgo
  rw [← es]
  by_cases hm : mover σ
  · have hs := hmv.mp hm
    rw [zif_pos hm, zif_pos hs]
    apply hend
    left
    rcases hs with g | g
    · right
      intro hp
      have := hch hp
      omega
    · left; exact g
  · have hs : ¬ (s = -1 ∨ s = 41) := fun g => hm (hmv.mpr g)
    rw [zif_neg hm, zif_neg hs]
    have hp : τ 25 7 < τ 23 1 := by
      rcases Int.lt_or_le (τ 25 7) (τ 23 1) with g | g
      · exact g
      · have := hno (by omega); omega
    rw [(hch hp).1, so.find]
    by_cases hx : xfind τ s 0 = -1
    · left
      rw [zif_pos hx, zif_pos hx, q3]
      exact ⟨Or.inr (fails_of (by decide)), rfl⟩
    · rw [zif_neg hx, zif_neg hx]
      have hb := (xfind_b w.1.1 s 0).resolve_left hx
      have hk := xfind_kind hx
      obtain ⟨o, eo⟩ : ∃ o, o = xfind τ s 0 := ⟨_, rfl⟩
      rw [← eo] at hx hb hk ⊢
      have hlv := (w.2.2.2.2.1 o.toNat (by omega)).1
      rw [so.2.2.2.1, so.2.2.1, q8, xlev_in hb]
      by_cases hlt : τ 4 o.toNat < xfmin τ
      · rw [zif_pos hlt, zif_pos hlt]
        apply hend
        right
        rw [hfm] at hlt
        by_cases h0 : τ 25 6 = 0
        · rw [if_pos h0] at hlt; omega
        · rw [if_neg h0] at hlt
          refine ⟨by omega, fun ho => ?_⟩
          rw [ho, xmin_m1] at hlt
          omega
      · left
        rw [zif_neg hlt, zif_neg hlt]
        refine ⟨?_, rfl⟩
        show Goes2 τ σ _ (zif _ _ _) ∨ Fails2 τ σ _ (zif _ _ _)
        obtain ⟨l1, l2, l3, l4, l5⟩ := sq_left r q h8
        have hbb := sq_bb so r q h8 hb
        have r7 := r.2.2.2.2.2.2
        rw [zif_pos h8] at r7
        have hz := xnsz_m1 (τ := τ) (k := 13) r2.2.1
        have hkk := w.2.2.1 o.toNat
        have hk1 : τ 3 o.toNat ≠ 1 := by
          intro hh
          rw [if_pos hh] at hk
          omega
        unfold xjoin
        by_cases h2 : τ 3 o.toNat = 2
        · have hna : ¬ (τ 25 10 = 0 ∧ xna τ o (xnop τ 13 (τ 25 9))) := by
            rintro ⟨-, g, -⟩
            rw [xkind_in hb] at g
            omega
          rw [zif_pos h2, zif_neg hna]
          unfold mrpost
          by_cases hu : xfu τ o
          · right
            rw [zif_pos hu, zif_pos (hbb.mpr hu), q3]
            exact fails_of (by decide)
          · left
            rw [zif_neg hu, zif_neg (fun g => hu (hbb.mp g)), zif_pos (by rw [xkind_in hb]; exact h2)]
            refine sq_add r q hp (Or.inr ⟨hb, rfl, Or.inr (Or.inr ⟨h2, l1, rfl⟩)⟩) (by omega) ⟨rfl, rfl, rfl⟩ ⟨rfl, (q.2.2.1).trans h8, rfl, rfl, rfl, rfl, rfl⟩ ⟨rfl, fun i => ?_⟩
            have := (mrd_arr (σ := σ) (o := o) (l := -10) (a := σ 31 37) (b := -10)).2 i
            rw [show zd o = o from if_neg (by omega), show yfst (τ 25 9) (-1) = σ 31 37 by rw [l2]; unfold yfst; rw [if_neg (by omega)], show ysnd (τ 25 9) (-1) = -10 by unfold ysnd zd; rw [if_neg (by omega), if_pos rfl]]
            exact this
        · have h0 : τ 3 o.toNat = 0 := by omega
          rw [zif_neg h2]
          unfold mrinf
          have hcl := so.clash w hb h0 l5
          rw [← l4, ← l3] at hcl
          by_cases hna : τ 25 10 = 0 ∧ xna τ o (xnop τ 13 (τ 25 9))
          · right
            rw [zif_pos hna, zif_pos ⟨(q.2.2.2.2.1).trans hna.1, hcl.mpr hna.2⟩, q3]
            exact fails_of (by decide)
          · rw [zif_neg hna, zif_neg (c := σ 31 38 = 0 ∧ mclash σ o (σ 49 (σ 31 37).toNat)) (fun g => hna ⟨(q.2.2.2.2.1).symm.trans g.1, hcl.mp g.2⟩)]
            by_cases hu : xfu τ o
            · right
              rw [zif_pos hu, zif_pos (hbb.mpr hu), q3]
              exact fails_of (by decide)
            · left
              rw [zif_neg hu, zif_neg (fun g => hu (hbb.mp g)), zif_neg (by rw [xkind_in hb]; exact h2)]
              exact sq_open w so r q hp (Or.inr ⟨hb, Or.inr ⟨h0, l1⟩⟩) r7 (by rw [if_neg (by omega)]; exact h0.symm) (if_neg (by omega)).symm (by rw [l2]; exact (if_neg (by omega)).symm) (so.right w hb h0)
