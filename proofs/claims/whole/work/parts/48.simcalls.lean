/-! ===== every call, side by side ===== -/
section CALLS
variable {τ σ : ZSt}
theorem Sim.cnt (s : Sim τ σ) : σ 31 3 = τ 1 5 ∧ σ 31 11 = τ 7 5 ∧ (0 ≤ τ 1 5 ∧ τ 1 5 ≤ 16) ∧ (0 ≤ τ 7 5 ∧ τ 7 5 ≤ 100) ∧ (σ 31 13 = τ 21 1 ∧ σ 42 = τ 22) ∧ (σ 31 16 = τ 19 1 ∧ σ 43 = τ 20) := by
  obtain ⟨⟨h0, h1⟩, h2, h3, h4, h5, -⟩ := s
  exact ⟨h2.2.1, h3.1.1, h0.1, ⟨h0.2.1.1, h3.2.2⟩, h4.1, h5.1⟩
theorem Sim.tt (s : Sim τ σ) : TT τ σ := ⟨s.2.1.1, s.2.1.2, s.2.2.1.1, s.2.2.1.2.1, s.2.2.1.2.2⟩
/-- only the operators have changed -/
theorem Sim.ops (s : Sim τ σ) {ρ ς : ZSt} (hx : IX ρ) (hm : IM ς) (ho : OpS ρ ς) (x : ∀ c, ¬ (1 ≤ c ∧ c ≤ 6) → ρ c = τ c) (x5 : τ 1 5 ≤ ρ 1 5) (k3 : ∀ i : Nat, (i : Int) < τ 1 5 → ρ 3 i = τ 3 i) (m : ∀ c, c ≠ 31 ∧ ¬ (32 ≤ c ∧ c ≤ 36) → ς c = σ c) (m3 : ∀ j, j ≠ 3 → ς 31 j = σ 31 j) : Sim ρ ς := by
  obtain ⟨⟨h0, h1⟩, h2, h3, h4, h5, h6, h7, h8⟩ := s
  have w7 : W7 ρ := by
    obtain ⟨⟨w1, w2⟩, w3⟩ := h3.2.1
    have e7 := x 7 (by decide)
    have e8 := x 8 (by decide)
    have e9 := x 9 (by decide)
    have e10 := x 10 (by decide)
    have e11 := x 11 (by decide)
    have e12 := x 12 (by decide)
    refine ⟨⟨by rw [e7]; exact w1, fun i hi => ?_⟩, fun i hi => ?_⟩
    · rw [e7] at hi
      obtain ⟨⟨n1, n2⟩, n3, n4⟩ := w2 i hi
      simp only [Nat.reduceAdd] at n1 n2 n3 n4
      refine ⟨⟨?_, ?_⟩, ?_, ?_⟩
      · simp only [Nat.reduceAdd]
        rw [e8, e9, e10, e11]
        rcases n1 with n1 | ⟨q1, q2, q3⟩
        · exact Or.inl n1
        · exact Or.inr ⟨by omega, q2, by rw [k3 _ (by omega)]; exact q3⟩
      · simp only [Nat.reduceAdd]
        rw [e10, e11, e12, xnsz_row e7 e12, xnsz_row e7 e12]
        exact n2
      · simp only [Nat.reduceAdd]; rw [e12]; exact n3
      · simp only [Nat.reduceAdd]; rw [e12]; exact n4
    · rw [e7] at hi
      rw [e12]
      exact w3 i hi
  refine ⟨⟨hx, hm⟩, ho, ⟨h3.1.same (fun c hc => x c (by omega)) (m3 11 (by decide)) (fun c hc => m c (by omega)), w7, by rw [x 7 (by decide)]; exact h3.2.2⟩, h4.same (by rw [x 21 (by decide)]) (x 22 (by decide)) (m3 13 (by decide)) (m 42 (by decide)), h5.same (by rw [x 19 (by decide)]) (x 20 (by decide)) (m3 16 (by decide)) (m 43 (by decide)), h6.same (by rw [x 0 (by decide)]) (by rw [x 7 (by decide)]; exact Int.le_refl _) (m3 14 (by decide)), h7.same (by rw [x 0 (by decide)]) (by rw [x 0 (by decide)]) (m3 17 (by decide)) (m3 18 (by decide)), ?_⟩
  rw [x 30 (by decide)]
  exact h8
theorem sim_define (s : Sim τ σ) {a b c : Int} (hb : 0 ≤ b ∧ b ≤ 2) : (mdefine σ a b c).1 = (xdefine τ a b c).1 ∧ Sim (xdefine τ a b c).2 (mdefine σ a b c).2 := by
  have so := s.2.1.2
  have hc := s.cnt
  unfold mdefine xdefine
  rw [so.find, hc.1]
  by_cases c1 : xcan a
  · rw [if_neg (not_not_intro c1), if_neg (not_not_intro c1)]
    by_cases c2 : 1 ≤ c ∧ c ≤ 9
    · rw [if_neg (not_not_intro c2), if_neg (not_not_intro c2)]
      by_cases c3 : xfind τ a (if b = 1 then 1 else 0) ≠ -1
      · rw [if_pos c3, if_pos c3]; exact ⟨rfl, s⟩
      · rw [if_neg c3, if_neg c3]
        by_cases c4 : 16 ≤ τ 1 5
        · rw [if_pos c4, if_pos c4]; exact ⟨rfl, s⟩
        · rw [if_neg c4, if_neg c4]
          refine ⟨rfl, ?_⟩
          have e0 : xopadd τ a b c = zup (zup (zup (zup τ 2 (τ 1 5).toNat a) 3 (τ 1 5).toNat b) 4 (τ 1 5).toNat c) 1 5 (τ 1 5 + 1) := by unfold xopadd; rw [if_neg c4]
          have hIX := s.1.1
          have hIM := s.1.2
          show Sim (xopadd τ a b c) (mopadd σ a b c)
          have r1 : xopadd τ a b c 1 5 = τ 1 5 + 1 := by rw [e0, zup_same]
          have r2 : xopadd τ a b c 2 = fup (τ 2) (τ 1 5).toNat a := by rw [e0, zup_row (by decide), zup_row (by decide), zup_row (by decide), zup_fup]
          have r3 : xopadd τ a b c 3 = fup (τ 3) (τ 1 5).toNat b := by rw [e0, zup_row (by decide), zup_row (by decide), zup_fup, zup_row (by decide)]
          have r4 : xopadd τ a b c 4 = fup (τ 4) (τ 1 5).toNat c := by rw [e0, zup_row (by decide), zup_fup, zup_row (by decide), zup_row (by decide)]
          have rr : ∀ q, ¬ (1 ≤ q ∧ q ≤ 4) → xopadd τ a b c q = τ q := fun q hq => by rw [e0, zup_row (by omega), zup_row (by omega), zup_row (by omega), zup_row (by omega)]
          have hm : mopadd σ a b c = zup (zup (zup (zup σ 32 (τ 1 5).toNat a) 33 (τ 1 5).toNat b) 34 (τ 1 5).toNat c) 31 3 (τ 1 5 + 1) := by unfold mopadd; rw [hc.1]
          refine s.ops ?_ ?_ ⟨?_, ?_⟩ (fun q hq => rr q (by omega)) (by rw [r1]; omega) (fun i hi => ?_) (fun q hq => ?_) (fun j hj => ?_)
          · rw [e0]; exact (((hIX.upA rfl).upA rfl).up4 (by omega)).up15 (by omega)
          · rw [hm]; exact (((hIM.upA rfl).upA rfl).up34 (by omega)).up3 (by omega)
          · obtain ⟨w1, w2, w3, w4, w5, w6, w7⟩ := s.2.1.1
            unfold WO
            rw [r1, r2, r3, r4, rr 5 (by decide), rr 6 (by decide)]
            refine ⟨by omega, fun i => ?_, fun i => ?_, fun i => ?_, fun i hi => ?_, w6, w7⟩
            · unfold fup
              by_cases e : i = (τ 1 5).toNat
              · rw [if_pos e]; exact Or.inr c1
              · rw [if_neg e]; exact w2 i
            · unfold fup
              by_cases e : i = (τ 1 5).toNat
              · rw [if_pos e]; exact hb
              · rw [if_neg e]; exact w3 i
            · unfold fup
              by_cases e : i = (τ 1 5).toNat
              · rw [if_pos e]; omega
              · rw [if_neg e]; exact w4 i
            · unfold fup
              by_cases e : i = (τ 1 5).toNat
              · rw [if_pos e, if_pos e]; exact ⟨c2.1, c1⟩
              · rw [if_neg e, if_neg e]; exact w5 i (by omega)
          · obtain ⟨o1, o2, o3, o4, o5, o6⟩ := so
            unfold SO
            rw [r1, r2, r3, r4, rr 5 (by decide), rr 6 (by decide), hm]
            refine ⟨zup_same _ _ _ _, ?_, ?_, ?_, ?_, ?_⟩
            · rw [zup_row (by decide), zup_row (by decide), zup_row (by decide), zup_fup, o2]
            · rw [zup_row (by decide), zup_row (by decide), zup_fup, zup_row (by decide), o3]
            · rw [zup_row (by decide), zup_fup, zup_row (by decide), zup_row (by decide), o4]
            · rw [zup_row (by decide), zup_row (by decide), zup_row (by decide), zup_row (by decide), o5]
            · rw [zup_row (by decide), zup_row (by decide), zup_row (by decide), zup_row (by decide), o6]
          · rw [r3]; exact if_neg (by omega)
          · rw [hm, zup_row (by omega), zup_row (by omega), zup_row (by omega), zup_row (by omega)]
          · rw [hm, zup_place hj, zup_row (by decide), zup_row (by decide), zup_row (by decide)]
    · rw [if_pos c2, if_pos c2]; exact ⟨rfl, s⟩
  · rw [if_pos c1, if_pos c1]; exact ⟨rfl, s⟩
theorem sim_setlev (s : Sim τ σ) {a b : Int} : (msetlev σ a b).1 = (xsetlev τ a b).1 ∧ Sim (xsetlev τ a b).2 (msetlev σ a b).2 := by
  have hc := s.cnt
  obtain ⟨w1, w2, w3, w4, w5, w6, w7⟩ := s.2.1.1
  obtain ⟨o1, o2, o3, o4, o5, o6⟩ := s.2.1.2
  unfold msetlev xsetlev
  rw [hc.1]
  by_cases c1 : 0 ≤ a ∧ a < τ 1 5
  · rw [if_neg (not_not_intro c1), if_neg (not_not_intro c1)]
    by_cases c2 : 1 ≤ b ∧ b ≤ 9
    · rw [if_neg (not_not_intro c2), if_neg (not_not_intro c2), xlev_in c1, o4]
      refine ⟨rfl, ?_⟩
      show Sim (zup τ 4 a.toNat b) (zup σ 34 a.toNat b)
      refine s.ops (s.1.1.up4 (by omega)) (s.1.2.up34 (by omega)) ⟨?_, ?_⟩ (fun q hq => zup_row (by omega)) (by rw [zup_row (by decide)]; exact Int.le_refl _) (fun i _ => by rw [zup_row (by decide)]) (fun q hq => zup_row (by omega)) (fun j hj => by rw [zup_row (by decide)])
      · unfold WO
        rw [zup_fup, zup_row (by decide), zup_row (by decide), zup_row (by decide), zup_row (by decide), zup_row (by decide)]
        refine ⟨w1, w2, w3, fun i => ?_, fun i hi => ?_, w6, w7⟩
        · unfold fup
          by_cases e : i = a.toNat
          · rw [if_pos e]; omega
          · rw [if_neg e]; exact w4 i
        · unfold fup
          by_cases e : i = a.toNat
          · rw [if_pos e]; exact ⟨c2.1, (w5 i hi).2⟩
          · rw [if_neg e]; exact w5 i hi
      · unfold SO
        rw [zup_fup, zup_fup, zup_row (by decide), zup_row (by decide), zup_row (by decide), zup_row (by decide), zup_row (by decide), zup_row (by decide), zup_row (by decide), zup_row (by decide), zup_row (by decide), zup_row (by decide), o4]
        exact ⟨o1, o2, o3, rfl, o5, o6⟩
    · rw [if_pos c2, if_pos c2]; exact ⟨rfl, s⟩
  · rw [if_pos c1, if_pos c1]; exact ⟨rfl, s⟩
theorem sim_setasc (s : Sim τ σ) {a b : Int} : (msetasc σ a b).1 = (xsetasc τ a b).1 ∧ Sim (xsetasc τ a b).2 (msetasc σ a b).2 := by
  obtain ⟨w1, w2, w3, w4, w5, w6, w7⟩ := s.2.1.1
  obtain ⟨o1, o2, o3, o4, o5, o6⟩ := s.2.1.2
  unfold msetasc xsetasc
  by_cases c1 : (1 ≤ a ∧ a ≤ 9) ∧ 0 ≤ b ∧ b ≤ 2
  · rw [if_neg (not_not_intro c1), if_neg (not_not_intro c1), o5, show xasc τ a = τ 5 a.toNat from if_pos c1.1]
    refine ⟨rfl, ?_⟩
    show Sim (zup τ 5 a.toNat b) (zup σ 35 a.toNat b)
    refine s.ops (s.1.1.upA rfl) (s.1.2.upA rfl) ⟨?_, ?_⟩ (fun q hq => zup_row (by omega)) (by rw [zup_row (by decide)]; exact Int.le_refl _) (fun i _ => by rw [zup_row (by decide)]) (fun q hq => zup_row (by omega)) (fun j hj => by rw [zup_row (by decide)])
    · unfold WO
      rw [zup_fup, zup_row (by decide), zup_row (by decide), zup_row (by decide), zup_row (by decide), zup_row (by decide)]
      refine ⟨w1, w2, w3, w4, w5, fun i => ?_, w7⟩
      unfold fup
      by_cases e : i = a.toNat
      · rw [if_pos e]; exact c1.2
      · rw [if_neg e]; exact w6 i
    · unfold SO
      rw [zup_fup, zup_fup, zup_row (by decide), zup_row (by decide), zup_row (by decide), zup_row (by decide), zup_row (by decide), zup_row (by decide), zup_row (by decide), zup_row (by decide), zup_row (by decide), zup_row (by decide), o5]
      exact ⟨o1, o2, o3, o4, rfl, o6⟩
  · rw [if_pos c1, if_pos c1]; exact ⟨rfl, s⟩
theorem sim_setforb (s : Sim τ σ) {a b c : Int} (hcc : c = 0 ∨ c = 1) : (msetforb σ a b c).1 = (xsetforb τ a b c).1 ∧ Sim (xsetforb τ a b c).2 (msetforb σ a b c).2 := by
  have hc := s.cnt
  obtain ⟨w1, w2, w3, w4, w5, w6, w7⟩ := s.2.1.1
  obtain ⟨o1, o2, o3, o4, o5, o6⟩ := s.2.1.2
  unfold msetforb xsetforb
  rw [hc.1]
  by_cases c1 : (0 ≤ a ∧ a < τ 1 5) ∧ (0 ≤ b ∧ b < τ 1 5)
  · rw [if_neg (not_not_intro c1), if_neg (not_not_intro c1), o6, show 16 * a + b = a * 16 + b by omega]
    refine ⟨?_, ?_⟩
    · show zb (τ 6 (a * 16 + b).toNat ≠ 0) = zb (xfb τ a b)
      have e : (τ 6 (a * 16 + b).toNat ≠ 0) = xfb τ a b := propext ⟨fun q => ⟨c1.1, c1.2, q⟩, fun q => q.2.2⟩
      rw [e]
    · show Sim (zup τ 6 (a * 16 + b).toNat c) (zup σ 36 (a * 16 + b).toNat c)
      refine s.ops (s.1.1.upA rfl) (s.1.2.upA rfl) ⟨?_, ?_⟩ (fun q hq => zup_row (by omega)) (by rw [zup_row (by decide)]; exact Int.le_refl _) (fun i _ => by rw [zup_row (by decide)]) (fun q hq => zup_row (by omega)) (fun j hj => by rw [zup_row (by decide)])
      · unfold WO
        rw [zup_fup, zup_row (by decide), zup_row (by decide), zup_row (by decide), zup_row (by decide), zup_row (by decide)]
        refine ⟨w1, w2, w3, w4, w5, w6, fun i => ?_⟩
        unfold fup
        by_cases e : i = (a * 16 + b).toNat
        · rw [if_pos e]; exact hcc
        · rw [if_neg e]; exact w7 i
      · unfold SO
        rw [zup_fup, zup_fup, zup_row (by decide), zup_row (by decide), zup_row (by decide), zup_row (by decide), zup_row (by decide), zup_row (by decide), zup_row (by decide), zup_row (by decide), zup_row (by decide), zup_row (by decide), o6]
        exact ⟨o1, o2, o3, o4, o5, rfl⟩
  · rw [if_pos c1, if_pos c1]; exact ⟨rfl, s⟩
/-- a node more -/
theorem Sim.node (s : Sim τ σ) {o l b a : Int} (h100 : τ 7 5 < 100) (hw : Nw7 τ o l b a) (hz : 1 + xnsz τ 7 b + xnsz τ 7 a ≤ 40) : Sim (xnadd τ 7 o l b a) (mnadd σ (zd o) (zd l) (yfst b a) (ysnd b a)) := by
  have hc := s.cnt
  have kb : b = -1 ∨ (0 ≤ b ∧ b < τ 7 5) := by unfold Nw7 at hw; omega
  have ka : a = -1 ∨ (0 ≤ a ∧ a < τ 7 5) := by unfold Nw7 at hw; omega
  obtain ⟨⟨h0, h1⟩, h2, h3, h4, h5, h6, h7, h8⟩ := s
  have x : ∀ c, ¬ (7 ≤ c ∧ c ≤ 12) → xnadd τ 7 o l b a c = τ c := fun c hq => xnadd_row (by omega)
  have m := fun c (hq : ¬ (37 ≤ c ∧ c ≤ 41) ∧ c ≠ 31) => mnadd_row (σ := σ) (o := zd o) (l := zd l) (a := yfst b a) (b := ysnd b a) hq
  have m3 := fun j (hq : j ≠ 11) => mnadd_31 (σ := σ) (o := zd o) (l := zd l) (a := yfst b a) (b := ysnd b a) hq
  have c7 : xnadd τ 7 o l b a 7 5 = τ 7 5 + 1 := add7_cnt (by omega)
  have sn := h3.1.add (o := o) (l := l) (by omega) kb ka
  refine ⟨⟨h0.nadd (Or.inl rfl), ?_⟩, h2.same (fun c hq => x c (by omega)) (m3 3 (by decide)) (fun c hq => m c (by omega)), ⟨sn, h3.2.1.add h100 hw hz, by rw [c7]; omega⟩, h4.same (by rw [x 21 (by decide)]) (x 22 (by decide)) (m3 13 (by decide)) (m 42 (by decide)), h5.same (by rw [x 19 (by decide)]) (x 20 (by decide)) (m3 16 (by decide)) (m 43 (by decide)), h6.same (by rw [x 0 (by decide)]) (by rw [c7]; omega) (m3 14 (by decide)), h7.same (by rw [x 0 (by decide)]) (by rw [x 0 (by decide)]) (m3 17 (by decide)) (m3 18 (by decide)), ?_⟩
  · have e11 := sn.1
    rw [c7] at e11
    unfold IM at h1 ⊢
    rw [m3 3 (by decide), m3 13 (by decide), m3 16 (by decide), m3 25 (by decide), m 34 (by decide), e11]
    exact ⟨h1.1, by omega, h1.2.2⟩
  · rw [x 30 (by decide)]
    exact h8
theorem sim_leaf (s : Sim τ σ) {a : Int} : (mleaf σ a).1 = (xleaf τ a).1 ∧ Sim (xleaf τ a).2 (mleaf σ a).2 := by
  have hc := s.cnt
  unfold mleaf xleaf
  rw [hc.2.1]
  by_cases c1 : 97 ≤ a ∧ a ≤ 122
  · rw [if_neg (not_not_intro c1), if_neg (not_not_intro c1)]
    by_cases c2 : 100 ≤ τ 7 5
    · rw [if_pos c2, if_pos c2]; exact ⟨rfl, s⟩
    · rw [if_neg c2, if_neg c2]
      refine ⟨rfl, ?_⟩
      have := s.node (o := -1) (l := a) (b := -1) (a := -1) (by omega) (Or.inl ⟨rfl, c1, rfl, rfl⟩) (by rw [(xn_none rfl).2.2.2.2]; decide)
      rw [show zd a = a from if_neg (by omega)] at this
      exact this
  · rw [if_pos c1, if_pos c1]; exact ⟨rfl, s⟩
theorem Sim.size (s : Sim τ σ) {v : Int} (hv : 0 ≤ v ∧ v < τ 7 5) : σ 41 v.toNat = xnsz τ 7 v := by
  rw [(xn_in hv).2.2.2.2]
  exact s.2.2.1.1.2.2 v.toNat (by omega)
theorem sim_unary (s : Sim τ σ) {o n : Int} : (munary σ o n).1 = (xunary τ o n).1 ∧ Sim (xunary τ o n).2 (munary σ o n).2 := by
  have hc := s.cnt
  have t := s.tt
  unfold munary xunary
  rw [hc.1, hc.2.1]
  by_cases c1 : 0 ≤ o ∧ o < τ 1 5
  · rw [if_neg (not_not_intro c1), if_neg (not_not_intro c1), (t.op c1).1]
    have hk : 0 ≤ xkind τ o ∧ xkind τ o ≤ 2 := by rw [xkind_in c1]; exact s.2.1.1.2.2.1 _
    by_cases c2 : xkind τ o = 0
    · rw [if_pos c2, if_pos c2]; exact ⟨rfl, s⟩
    · rw [if_neg c2, if_neg c2]
      by_cases c3 : 0 ≤ n ∧ n < τ 7 5
      · rw [if_neg (not_not_intro c3), if_neg (not_not_intro c3), s.size c3]
        have z := s.2.2.1.2.1.szr n
        by_cases c4 : xkind τ o = 1
        · rw [if_pos c4]
          unfold xadd3
          rw [(xn_none (τ := τ) (a := -1) rfl).2.2.2.2]
          by_cases c5 : 40 < xnsz τ 7 n + 1
          · rw [if_pos c5, if_pos (c := 40 < 1 + 0 + xnsz τ 7 n) (by omega)]; exact ⟨rfl, s⟩
          · rw [if_neg c5, if_neg (c := 40 < 1 + 0 + xnsz τ 7 n) (by omega)]
            by_cases c6 : 100 ≤ τ 7 5
            · rw [if_pos c6, if_pos c6]; exact ⟨rfl, s⟩
            · rw [if_neg c6, if_neg c6]
              refine ⟨rfl, ?_⟩
              have := s.node (o := o) (l := -1) (b := -1) (a := n) (by omega) (Or.inr ⟨c1, rfl, Or.inr (Or.inl ⟨by rw [← xkind_in c1]; exact c4, rfl, c3⟩)⟩) (by rw [(xn_none (τ := τ) (a := -1) rfl).2.2.2.2]; omega)
              rw [show zd o = o from if_neg (by omega), show yfst (-1) n = n by unfold yfst zd; rw [if_pos rfl, if_neg (by omega)], show ysnd (-1) n = -10 from if_pos rfl] at this
              exact this
        · rw [if_neg c4]
          unfold xadd3
          rw [(xn_none (τ := τ) (a := -1) rfl).2.2.2.2]
          by_cases c5 : 40 < xnsz τ 7 n + 1
          · rw [if_pos c5, if_pos (c := 40 < 1 + xnsz τ 7 n + 0) (by omega)]; exact ⟨rfl, s⟩
          · rw [if_neg c5, if_neg (c := 40 < 1 + xnsz τ 7 n + 0) (by omega)]
            by_cases c6 : 100 ≤ τ 7 5
            · rw [if_pos c6, if_pos c6]; exact ⟨rfl, s⟩
            · rw [if_neg c6, if_neg c6]
              refine ⟨rfl, ?_⟩
              have := s.node (o := o) (l := -1) (b := n) (a := -1) (by omega) (Or.inr ⟨c1, rfl, Or.inr (Or.inr ⟨by rw [← xkind_in c1]; omega, c3, rfl⟩)⟩) (by rw [(xn_none (τ := τ) (a := -1) rfl).2.2.2.2]; omega)
              rw [show zd o = o from if_neg (by omega), show yfst n (-1) = n from if_neg (by omega), show ysnd n (-1) = -10 by unfold ysnd zd; rw [if_neg (by omega), if_pos rfl]] at this
              exact this
      · rw [if_pos c3, if_pos c3]; exact ⟨rfl, s⟩
  · rw [if_pos c1, if_pos c1]; exact ⟨rfl, s⟩
theorem sim_binary (s : Sim τ σ) {o a b : Int} : (mbinary σ o a b).1 = (xbinary τ o a b).1 ∧ Sim (xbinary τ o a b).2 (mbinary σ o a b).2 := by
  have hc := s.cnt
  have t := s.tt
  unfold mbinary xbinary
  rw [hc.1, hc.2.1]
  by_cases c1 : 0 ≤ o ∧ o < τ 1 5
  · rw [if_neg (not_not_intro c1), if_neg (not_not_intro c1), (t.op c1).1]
    by_cases c2 : xkind τ o ≠ 0
    · rw [if_pos c2, if_pos c2]; exact ⟨rfl, s⟩
    · rw [if_neg c2, if_neg c2]
      by_cases c3 : (0 ≤ a ∧ a < τ 7 5) ∧ (0 ≤ b ∧ b < τ 7 5)
      · rw [if_neg (not_not_intro c3), if_neg (not_not_intro c3), s.size c3.1, s.size c3.2]
        unfold xadd3
        by_cases c5 : 40 < xnsz τ 7 a + xnsz τ 7 b + 1
        · rw [if_pos c5, if_pos (c := 40 < 1 + xnsz τ 7 a + xnsz τ 7 b) (by omega)]; exact ⟨rfl, s⟩
        · rw [if_neg c5, if_neg (c := 40 < 1 + xnsz τ 7 a + xnsz τ 7 b) (by omega)]
          by_cases c6 : 100 ≤ τ 7 5
          · rw [if_pos c6, if_pos c6]; exact ⟨rfl, s⟩
          · rw [if_neg c6, if_neg c6]
            refine ⟨rfl, ?_⟩
            have := s.node (o := o) (l := -1) (b := a) (a := b) (by omega) (Or.inr ⟨c1, rfl, Or.inl ⟨by rw [← xkind_in c1]; omega, c3⟩⟩) (by omega)
            rw [show zd o = o from if_neg (by omega), show yfst a b = a from if_neg (by omega), show ysnd a b = b by unfold ysnd zd; rw [if_neg (by omega), if_neg (by omega)]] at this
            exact this
      · rw [if_pos c3, if_pos c3]; exact ⟨rfl, s⟩
  · rw [if_pos c1, if_pos c1]; exact ⟨rfl, s⟩
/-- only the input has changed -/
theorem Sim.inp (s : Sim τ σ) {ρ ς : ZSt} (hx : IX ρ) (hm : IM ς) (hi : InS ρ ς) (x : ∀ c, c ≠ 19 ∧ c ≠ 20 → ρ c = τ c) (m : ∀ c, c ≠ 31 ∧ c ≠ 43 → ς c = σ c) (m3 : ∀ j, j ≠ 16 → ς 31 j = σ 31 j) : Sim ρ ς := by
  obtain ⟨⟨h0, h1⟩, h2, h3, h4, h5, h6, h7, h8⟩ := s
  exact ⟨⟨hx, hm⟩, h2.same (fun c hc => x c (by omega)) (m3 3 (by decide)) (fun c hc => m c (by omega)), h3.same (fun c hc => x c (by omega)) (m3 11 (by decide)) (fun c hc => m c (by omega)), h4.same (by rw [x 21 (by decide)]) (x 22 (by decide)) (m3 13 (by decide)) (m 42 (by decide)), hi, h6.same (by rw [x 0 (by decide)]) (by rw [x 7 (by decide)]; exact Int.le_refl _) (m3 14 (by decide)), h7.same (by rw [x 0 (by decide)]) (by rw [x 0 (by decide)]) (m3 17 (by decide)) (m3 18 (by decide)), by rw [x 30 (by decide)]; exact h8⟩
theorem sim_append (s : Sim τ σ) {a : Int} : (mappend σ a).1 = (xappend τ a).1 ∧ Sim (xappend τ a).2 (mappend σ a).2 := by
  have hc := s.cnt
  have hin := s.2.2.2.2.1
  have hb := s.1.2.inp
  unfold mappend xappend
  rw [hc.2.2.2.2.2.1]
  by_cases c1 : 33 ≤ a ∧ a ≤ 126
  · rw [if_neg (not_not_intro c1), if_neg (not_not_intro c1)]
    by_cases c2 : 120 ≤ τ 19 1
    · rw [if_pos c2, if_pos c2]; exact ⟨rfl, s⟩
    · rw [if_neg c2, if_neg c2]
      refine ⟨rfl, ?_⟩
      show Sim (xput τ 19 a) (zup (zup σ 43 (τ 19 1).toNat a) 31 16 (τ 19 1 + 1))
      have e0 : xput τ 19 a = zup (zup τ 20 (τ 19 1).toNat a) 19 1 (τ 19 1 + 1) := by unfold xput; rw [if_neg c2]
      rw [e0]
      refine s.inp ((s.1.1.upA rfl).upTX (Or.inl rfl) (by omega)) ((s.1.2.upA rfl).up16 (by omega)) ⟨⟨?_, ?_⟩, fun j hj => ?_⟩ (fun c hq => by rw [zup_row (by omega), zup_row (by omega)]) (fun c hq => by rw [zup_row (by omega), zup_row (by omega)]) (fun j hj => by rw [zup_place hj, zup_row (by decide)])
      · rw [zup_same, zup_same]
      · rw [zup_row (by decide), zup_fup, zup_row (by decide), zup_fup, hin.1.2]
      · rw [zup_same] at hj
        rw [zup_row (by decide), zup_fup]
        unfold fup
        by_cases e : j = (τ 19 1).toNat
        · rw [if_pos e]; omega
        · rw [if_neg e]; exact hin.2 j (by omega)
  · rw [if_pos c1, if_pos c1]; exact ⟨rfl, s⟩
theorem sim_clear (s : Sim τ σ) : Sim (zup τ 19 1 0) (zup σ 31 16 0) := by
  refine s.inp (s.1.1.upTX (Or.inl rfl) (by decide)) (s.1.2.up16 (by decide)) ⟨⟨?_, ?_⟩, fun j hj => ?_⟩ (fun c hq => by rw [zup_row (by omega)]) (fun c hq => by rw [zup_row (by omega)]) (fun j hj => by rw [zup_place hj])
  · rw [zup_same, zup_same]
  · rw [zup_row (by decide), zup_row (by decide)]; exact s.2.2.2.2.1.1.2
  · rw [zup_same] at hj; omega
theorem sim_copy (s : Sim τ σ) : Sim (xcopy τ 19 21) (mcopyOut σ) := by
  obtain ⟨⟨o1, o2⟩, o3⟩ := s.2.2.2.1
  obtain ⟨⟨i1, i2⟩, i3⟩ := s.2.2.2.2.1
  have hb := s.1.2.out
  have hl : xcopy τ 19 21 19 1 = τ 21 1 := by unfold xcopy; rw [zst_len]; omega
  have hr : xcopy τ 19 21 20 = fun j => if j < (τ 21 1).toNat then τ 22 j else τ 20 j := by
    funext j
    unfold xcopy zst
    by_cases q : j < (τ 21 1).toNat
    · rw [if_pos ⟨rfl, q⟩, if_pos q]
    · rw [if_neg (fun w9 => q w9.2), if_neg (by omega), if_neg q]
  have hx : ∀ c, c ≠ 19 ∧ c ≠ 20 → xcopy τ 19 21 c = τ c := fun c hc => zst_row hc
  refine s.inp (s.1.1.zst (Or.inl rfl) (by omega)) ?_ ⟨⟨?_, ?_⟩, fun j hj => ?_⟩ hx (fun c hq => ?_) (fun j hj => ?_)
  · exact (s.1.2.up16 hb).mrow ⟨by decide, by decide⟩
  · rw [hl]; unfold mcopyOut; rw [mrow_row (by decide), zup_same, o1]
  · rw [hr]
    funext j
    unfold mcopyOut mrow
    rw [o1, o2]
    by_cases q : j < (τ 21 1).toNat
    · rw [if_pos ⟨rfl, q⟩, if_pos q]
    · rw [if_neg (fun w9 => q w9.2), if_neg q, zup_row (by decide), i2]
  · rw [hl] at hj
    rw [hr]
    show 0 < (if j < (τ 21 1).toNat then τ 22 j else τ 20 j)
    rw [if_pos (by omega)]
    exact o3.1 j hj
  · unfold mcopyOut; rw [mrow_row (by omega), zup_row (by omega)]
  · unfold mcopyOut; rw [mrow_row (by decide), zup_place hj]
end CALLS
