/-! ===== the reader, as functions ===== -/
noncomputable def zif {α : Type} (c : Prop) (a b : α) : α := @ite α c (Classical.propDecidable c) a b
theorem zif_pos {α : Type} {c : Prop} {a b : α} (h : c) : zif c a b = a := by unfold zif; exact if_pos h
theorem zif_neg {α : Type} {c : Prop} {a b : α} (h : ¬ c) : zif c a b = b := by unfold zif; exact if_neg h
def xfail (σ : ZSt) (a b : Int) : ZSt := zup (zup (zup σ 25 12 a) 25 13 b) 25 11 1
def xtake (σ : ZSt) (a : Int) : ZSt := zup (zup (zup σ 25 9 a) 25 10 0) 25 8 0
noncomputable def xopenf (σ : ZSt) (o b : Int) : ZSt := zup (zup (zif (σ 25 6 < 120) (zup (zup (zup (zup σ 26 (σ 25 6).toNat o) 27 (σ 25 6).toNat (σ 25 7)) 28 (σ 25 6).toNat b) 25 6 (σ 25 6 + 1)) σ) 25 7 (σ 25 7 + 1)) 25 8 1
noncomputable def xtop (σ : ZSt) : Int := zif (0 < σ 25 6 ∧ σ 25 6 ≤ 120) (σ 25 6 - 1) (-1)
noncomputable def xfmin (σ : ZSt) : Int := zif (xtop σ = -1) 0 (xmin σ (σ 26 (xtop σ).toNat))
def xfu (σ : ZSt) (o : Int) : Prop := σ 25 10 = 0 ∧ xfb σ o (xnop σ 13 (σ 25 9))
noncomputable def xcomplete (σ : ZSt) (t : Int) : ZSt := zif (xfu σ (σ 26 t.toNat)) (xfail σ 6 (σ 27 t.toNat)) (xtake (xnadd (zup σ 25 6 (σ 25 6 - 1)) 13 (σ 26 t.toNat) (-1) (σ 28 t.toNat) (σ 25 9)) (xnaddr (zup σ 25 6 (σ 25 6 - 1)) 13))
noncomputable def xendb (σ : ZSt) : ZSt := zif (xat σ 23 (σ 25 7) = 41) (zup (zup (zup σ 25 7 (σ 25 7 + 1)) 25 6 (σ 25 6 - 1)) 25 10 1) (xfail σ 3 (σ 25 7))
noncomputable def xendt (σ : ZSt) : ZSt := zup (zif (xat σ 23 (σ 25 7) = 41) (xfail σ 4 (σ 25 7)) σ) 25 11 1
noncomputable def xendf (σ : ZSt) : ZSt := zif (xtop σ = -1) (xendt σ) (zif (σ 26 (xtop σ).toNat = -1) (xendb σ) (xcomplete σ (xtop σ)))
noncomputable def xjoin (σ : ZSt) (o : Int) : ZSt := zif (σ 25 10 = 0 ∧ xna σ o (xnop σ 13 (σ 25 9))) (xfail σ 5 (σ 25 7)) (zif (xfu σ o) (xfail σ 6 (σ 25 7)) (zif (xkind σ o = 2) (xtake (xnadd (zup σ 25 7 (σ 25 7 + 1)) 13 o (-1) (σ 25 9) (-1)) (xnaddr (zup σ 25 7 (σ 25 7 + 1)) 13)) (xopenf σ o (σ 25 9))))
noncomputable def xrdop (σ : ZSt) : ZSt := zif (97 ≤ xat σ 23 (σ 25 7) ∧ xat σ 23 (σ 25 7) ≤ 122) (xtake (xnadd (zup σ 25 7 (σ 25 7 + 1)) 13 (-1) (xat σ 23 (σ 25 7)) (-1) (-1)) (xnaddr (zup σ 25 7 (σ 25 7 + 1)) 13)) (zif (xat σ 23 (σ 25 7) = 40 ∨ xfind σ (xat σ 23 (σ 25 7)) 1 ≠ -1) (xopenf σ (xfind σ (xat σ 23 (σ 25 7)) 1) (-1)) (xfail σ 1 (σ 25 7)))
noncomputable def xrdor (σ : ZSt) : ZSt := zif (xat σ 23 (σ 25 7) = -1 ∨ xat σ 23 (σ 25 7) = 41) (xendf σ) (zif (xfind σ (xat σ 23 (σ 25 7)) 0 = -1) (xfail σ 2 (σ 25 7)) (zif (xlev σ (xfind σ (xat σ 23 (σ 25 7)) 0) < xfmin σ) (xendf σ) (xjoin σ (xfind σ (xat σ 23 (σ 25 7)) 0))))
noncomputable def xstep (σ : ZSt) : ZSt := zif (σ 25 8 = 0) (xrdor σ) (xrdop σ)
def xstart (σ : ZSt) : ZSt := zup (zup (zup (zup (zup (zup (zup (zup (zup σ 13 5 0) 25 6 0) 25 7 0) 25 8 1) 25 9 (-1)) 25 10 0) 25 11 0) 25 12 (-10)) 25 13 (-10)
noncomputable def xrun : Nat → ZSt → ZSt
  | 0, σ => σ
  | n + 1, σ => zif (σ 25 11 = 0) (xrun n (xstep σ)) σ
noncomputable def xreads (σ : ZSt) : ZSt := xrun 242 (xstart σ)
def xreadOk (τ : ZSt) : Prop := τ 25 11 ≠ 0 ∧ τ 25 12 = -10
theorem xrun_done {σ : ZSt} (h : σ 25 11 ≠ 0) (n : Nat) : xrun n σ = σ := by
  cases n with
  | zero => rfl
  | succ n => exact zif_neg h
-- what the reader leaves as it is: all but 13..18 and 25..28
theorem IX.xfail {σ : ZSt} (h : IX σ) {a b : Int} : IX (xfail σ a b) := ((h.upF (by decide)).upF (by decide)).upF (by decide)
theorem IX.xtake {σ : ZSt} (h : IX σ) {a : Int} : IX (xtake σ a) := ((h.upF (by decide)).upF (by decide)).upF (by decide)
theorem IX.xopenf {σ : ZSt} (h : IX σ) {o b : Int} : IX (xopenf σ o b) := by
  unfold Jvm.Pilot.CExpressionPrinterLaw_law_r3704_c6d7ee.xopenf
  have hf := h.frm
  refine IX.upF (IX.upF ?_ (by decide)) (by decide)
  by_cases hc : σ 25 6 < 120
  · rw [zif_pos hc]
    exact ((((h.upA rfl).upA rfl).upA rfl).upfr (by omega))
  · rw [zif_neg hc]
    exact h
theorem xtop_in {σ : ZSt} (h : IX σ) (ht : xtop σ ≠ -1) : xtop σ = σ 25 6 - 1 ∧ 0 < σ 25 6 := by
  unfold xtop at ht ⊢
  by_cases hc : 0 < σ 25 6 ∧ σ 25 6 ≤ 120
  · rw [zif_pos hc]; exact ⟨rfl, hc.1⟩
  · rw [zif_neg hc] at ht; exact absurd rfl ht
theorem IX.xendf {σ : ZSt} (h : IX σ) : IX (xendf σ) := by
  unfold Jvm.Pilot.CExpressionPrinterLaw_law_r3704_c6d7ee.xendf
  have hf := h.frm
  by_cases ht : xtop σ = -1
  · rw [zif_pos ht]
    unfold xendt
    refine IX.upF ?_ (by decide)
    by_cases hc : xat σ 23 (σ 25 7) = 41
    · rw [zif_pos hc]; exact h.xfail
    · rw [zif_neg hc]; exact h
  · rw [zif_neg ht]
    obtain ⟨h1, h2⟩ := xtop_in h ht
    by_cases hb : σ 26 (xtop σ).toNat = -1
    · rw [zif_pos hb]
      unfold xendb
      by_cases hc : xat σ 23 (σ 25 7) = 41
      · rw [zif_pos hc]; exact (((h.upF (by decide)).upfr (by omega)).upF (by decide))
      · rw [zif_neg hc]; exact h.xfail
    · rw [zif_neg hb]
      unfold xcomplete
      by_cases hc : xfu σ (σ 26 (xtop σ).toNat)
      · rw [zif_pos hc]; exact h.xfail
      · rw [zif_neg hc]; exact ((h.upfr (by omega)).nadd (Or.inr rfl)).xtake
theorem IX.xstep {σ : ZSt} (h : IX σ) : IX (xstep σ) := by
  unfold Jvm.Pilot.CExpressionPrinterLaw_law_r3704_c6d7ee.xstep
  by_cases h8 : σ 25 8 = 0
  · rw [zif_pos h8]
    unfold xrdor
    by_cases h1 : xat σ 23 (σ 25 7) = -1 ∨ xat σ 23 (σ 25 7) = 41
    · rw [zif_pos h1]; exact h.xendf
    · rw [zif_neg h1]
      by_cases h2 : xfind σ (xat σ 23 (σ 25 7)) 0 = -1
      · rw [zif_pos h2]; exact h.xfail
      · rw [zif_neg h2]
        by_cases h3 : xlev σ (xfind σ (xat σ 23 (σ 25 7)) 0) < xfmin σ
        · rw [zif_pos h3]; exact h.xendf
        · rw [zif_neg h3]
          unfold xjoin
          generalize xfind σ (xat σ 23 (σ 25 7)) 0 = o
          by_cases h4 : σ 25 10 = 0 ∧ xna σ o (xnop σ 13 (σ 25 9))
          · rw [zif_pos h4]; exact h.xfail
          · rw [zif_neg h4]
            by_cases h5 : xfu σ o
            · rw [zif_pos h5]; exact h.xfail
            · rw [zif_neg h5]
              by_cases h6 : xkind σ o = 2
              · rw [zif_pos h6]; exact ((h.upF (by decide)).nadd (Or.inr rfl)).xtake
              · rw [zif_neg h6]; exact h.xopenf
  · rw [zif_neg h8]
    unfold xrdop
    by_cases h1 : 97 ≤ xat σ 23 (σ 25 7) ∧ xat σ 23 (σ 25 7) ≤ 122
    · rw [zif_pos h1]; exact ((h.upF (by decide)).nadd (Or.inr rfl)).xtake
    · rw [zif_neg h1]
      by_cases h2 : xat σ 23 (σ 25 7) = 40 ∨ xfind σ (xat σ 23 (σ 25 7)) 1 ≠ -1
      · rw [zif_pos h2]; exact h.xopenf
      · rw [zif_neg h2]; exact h.xfail
