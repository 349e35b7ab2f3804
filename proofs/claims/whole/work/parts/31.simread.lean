/-! ===== both read an operand, an operator ===== -/
theorem SameX.rf {τ : ZSt} : SameX τ τ := fun _ _ => rfl
theorem SameX.up {τ ρ : ZSt} (h : SameX τ ρ) {k j : Nat} {v : Int} (hk : (13 ≤ k ∧ k ≤ 18) ∨ (25 ≤ k ∧ k ≤ 28)) : SameX τ (zup ρ k j v) := fun c hc => (zup_row (by omega)).trans (h c hc)
theorem SameX.nadd {τ ρ : ZSt} (h : SameX τ ρ) {o l b a : Int} : SameX τ (xnadd ρ 13 o l b a) := fun c hc => (xnadd_row (by omega)).trans (h c hc)
theorem SameX.xfail {τ ρ : ZSt} (h : SameX τ ρ) {a b : Int} : SameX τ (xfail ρ a b) := ((h.up (by decide)).up (by decide)).up (by decide)
theorem SameX.xtake {τ ρ : ZSt} (h : SameX τ ρ) {a : Int} : SameX τ (xtake ρ a) := ((h.up (by decide)).up (by decide)).up (by decide)
theorem SameX.zif {τ a b : ZSt} {c : Prop} (ha : SameX τ a) (hb : SameX τ b) : SameX τ (zif c a b) := by
  by_cases h : c
  · rw [zif_pos h]; exact ha
  · rw [zif_neg h]; exact hb
theorem SameX.xopenf {τ ρ : ZSt} (h : SameX τ ρ) {o b : Int} : SameX τ (xopenf ρ o b) := ((SameX.zif ((((h.up (by decide)).up (by decide)).up (by decide)).up (by decide)) h).up (by decide)).up (by decide)
theorem SameX.xendf {τ : ZSt} : SameX τ (xendf τ) :=
  SameX.zif ((SameX.zif SameX.rf.xfail SameX.rf).up (by decide)) (SameX.zif (SameX.zif (((SameX.rf.up (by decide)).up (by decide)).up (by decide)) SameX.rf.xfail) (SameX.zif SameX.rf.xfail ((SameX.rf.up (by decide)).nadd).xtake))
theorem xstep_same (τ : ZSt) : SameX τ (xstep τ) :=
  SameX.zif (SameX.zif SameX.xendf (SameX.zif SameX.rf.xfail (SameX.zif SameX.xendf (SameX.zif SameX.rf.xfail (SameX.zif SameX.rf.xfail (SameX.zif ((SameX.rf.up (by decide)).nadd).xtake SameX.rf.xopenf))))))
    (SameX.zif ((SameX.rf.up (by decide)).nadd).xtake (SameX.zif SameX.rf.xopenf SameX.rf.xfail))
theorem SameM.rf {σ : ZSt} : SameM σ σ := ⟨fun _ _ => rfl, fun _ _ => rfl⟩
theorem SameM.upA {σ ς : ZSt} (h : SameM σ ς) {k j : Nat} {v : Int} (hk : 49 ≤ k ∧ k ≤ 53) : SameM σ (zup ς k j v) := ⟨fun c hc => (zup_row (by omega)).trans (h.1 c hc), fun j' hj => (zup_cell (by omega)).trans (h.2 j' hj)⟩
theorem SameM.upF {σ ς : ZSt} (h : SameM σ ς) {j : Nat} {v : Int} (hk : j = 30 ∨ (32 ≤ j ∧ j ≤ 39)) : SameM σ (zup ς 31 j v) := ⟨fun c hc => (zup_row (by omega)).trans (h.1 c hc), fun j' hj => (zup_place (by omega)).trans (h.2 j' hj)⟩
theorem SameM.zif {σ a b : ZSt} {c : Prop} (ha : SameM σ a) (hb : SameM σ b) : SameM σ (zif c a b) := by
  by_cases h : c
  · rw [zif_pos h]; exact ha
  · rw [zif_neg h]; exact hb
theorem SameM.mrd {σ ς : ZSt} (h : SameM σ ς) {o l a b : Int} : SameM σ (mrd ς o l a b) := ((((h.upA (by decide)).upA (by decide)).upA (by decide)).upA (by decide)).upF (by decide)
theorem SameM.mfail {σ ς : ZSt} (h : SameM σ ς) {a b : Int} : SameM σ (mfail ς a b) := (h.upF (by decide)).upF (by decide)
theorem SameM.mopen {σ ς : ZSt} (h : SameM σ ς) {w o d l : Int} : SameM σ (mopen ς w o d l) := ((((((((h.upA (by decide)).upA (by decide)).upA (by decide)).upA (by decide)).upA (by decide)).upF (by decide)).upF (by decide)).upF (by decide)).upF (by decide)
theorem mrdop_same (σ : ZSt) : SameM σ (mrdop σ) := SameM.zif ((((SameM.rf.mrd.upF (by decide)).upF (by decide)).upF (by decide)).upF (by decide)) (SameM.zif SameM.rf.mopen (SameM.zif SameM.rf.mopen SameM.rf.mfail))
theorem mend_same (σ : ZSt) : SameM σ (mend σ) :=
  SameM.zif ((((SameM.zif (SameM.rf.upF (by decide)).mfail (SameM.rf.upF (by decide))).upF (by decide)).upF (by decide)).upF (by decide))
    (SameM.zif ((SameM.rf.upF (by decide)).mfail.upF (by decide)) ((((SameM.zif (SameM.rf.upF (by decide)).mrd (SameM.rf.upF (by decide)).mrd).upF (by decide)).upF (by decide)).upF (by decide)))
theorem SameM.snd {σ : ZSt} {a b : Int × ZSt} {c : Prop} (ha : SameM σ a.2) (hb : SameM σ b.2) : SameM σ (Jvm.Pilot.CExpressionPrinterLaw_law_r3704_c6d7ee.zif c a b).2 := by
  by_cases h : c
  · rw [zif_pos h]; exact ha
  · rw [zif_neg h]; exact hb
theorem mgo_same (σ : ZSt) : SameM σ (mgo σ).2 := by
  have e : SameM σ (mgoE σ).2 := SameM.snd (mend_same σ) (SameM.snd SameM.rf.mfail SameM.rf)
  exact SameM.snd e (SameM.snd SameM.rf.mfail (SameM.snd e (SameM.zif (SameM.zif SameM.rf.mfail (((SameM.rf.mrd.upF (by decide)).upF (by decide)).upF (by decide))) (SameM.zif SameM.rf.mfail (SameM.zif SameM.rf.mfail SameM.rf.mopen)))))
theorem xnsz_m1 {τ : ZSt} {k : Nat} (h : 0 ≤ τ k 5) : xnsz τ k (-1) = 0 := zget_out (by omega)
theorem fails_of {τ σ : ZSt} {k p : Int} (hk : 1 ≤ k) : Fails2 τ σ (xfail τ k p) (mfail σ k p) := ⟨k, p, hk, ⟨rfl, rfl, rfl⟩, rfl, rfl⟩
theorem step_opd {τ σ : ZSt} (w : WO τ) (so : SO τ σ) (r : RX τ) (q : SQ τ σ) (h8 : τ 25 8 = 1) : Goes2 τ σ (xrdop τ) (mrdop σ) ∨ Fails2 τ σ (xrdop τ) (mrdop σ) := by
  have hc := sq_chr q r
  have q3 : σ 31 35 = τ 25 7 := q.2.1
  have r1 := r.1
  have r2 := r.2.1
  have r7 := r.2.2.2.2.2.2
  rw [zif_neg (by omega)] at r7
  have hz := xnsz_m1 (τ := τ) (k := 13) r2.2.1
  by_cases hp : τ 25 7 < τ 23 1
  · have ec := hc.1 hp
    obtain ⟨s, es⟩ : ∃ s, s = xat τ 23 (τ 25 7) := ⟨_, rfl⟩
    rw [← es] at ec
    unfold xrdop mrdop
    rw [← es, ec]
    by_cases hl : 97 ≤ s ∧ s ≤ 122
    · left
      rw [zif_pos hl, zif_pos hl]
      exact sq_add r q hp (Or.inl ⟨rfl, hl, rfl, rfl⟩) (by omega) ⟨rfl, rfl, rfl⟩ ⟨rfl, rfl, rfl, rfl, rfl, rfl, rfl⟩ ⟨rfl, fun i => by
        have := (mrd_arr (σ := σ) (o := -10) (l := s) (a := -10) (b := -10)).2 i
        rw [show zd s = s from if_neg (by omega)]
        exact this⟩
    · rw [zif_neg hl, zif_neg hl]
      by_cases h40 : s = 40
      · left
        have e1 : xfind τ s 1 = -1 := w.nofind (by omega) (by unfold xcan; omega)
        rw [zif_pos (Or.inl h40), zif_pos h40, e1]
        exact sq_open w so r q hp (Or.inl ⟨rfl, rfl⟩) (by omega) rfl rfl rfl xmin_m1.symm
      · rw [zif_neg h40]
        have ep : mpre σ = zd (xfind τ s 1) := by
          unfold mpre
          rw [ec, so.find]
          by_cases hn : s < 0
          · rw [zif_pos hn, w.nofind (by omega) (by unfold xcan; omega)]; rfl
          · rw [zif_neg hn]
        rw [ep]
        by_cases hx : xfind τ s 1 = -1
        · right
          rw [zif_neg (by omega), hx, zif_neg (by decide), q3]
          exact fails_of (by decide)
        · left
          have hb := (xfind_b w.1.1 s 1).resolve_left hx
          have hk := xfind_kind hx
          have hk1 : τ 3 (xfind τ s 1).toNat = 1 := by
            by_cases hh : τ 3 (xfind τ s 1).toNat = 1
            · exact hh
            · rw [if_neg hh] at hk; omega
          rw [zif_pos (Or.inr hx), show zd (xfind τ s 1) = xfind τ s 1 from if_neg hx, zif_pos hb.1]
          exact sq_open w so r q hp (Or.inr ⟨hb, Or.inl ⟨hk1, rfl⟩⟩) (by omega) (by rw [if_neg hx]; exact hk1.symm) (if_neg hx).symm rfl (by rw [so.2.2.2.1]; exact (xmin_pre w hb (by omega)).symm)
  · right
    obtain ⟨e1, e2⟩ := hc.2 hp
    unfold xrdop mrdop
    have ep : mpre σ = -10 := by unfold mpre; rw [e1, zif_pos (by decide)]
    have e3 : xfind τ (-1) 1 = -1 := w.nofind (by decide) (by unfold xcan; omega)
    rw [e2, e1, ep, e3, zif_neg (by omega), zif_neg (by omega), zif_neg (by omega), zif_neg (by decide), zif_neg (by decide), q3]
    exact fails_of (by decide)
