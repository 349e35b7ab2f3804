/-! ===== printing and reading, side by side ===== -/
def PrPost (τ σ : ZSt) (a z r : Int) (ς : ZSt) : Prop := ((0 ≤ a ∧ a < τ 7 5) ∧ r = (YT τ z a 0 0).length ∧ (ς 42 = putf (σ 42) (YT τ z a 0 0) ∧ ς 31 13 = (YT τ z a 0 0).length ∧ ς 31 14 = a) ∧ SameT σ ς) ∨ (¬ (0 ≤ a ∧ a < τ 7 5) ∧ r = -1 ∧ ς = σ)

set_option maxRecDepth 20000 in
theorem C_X6_print (E : ZE) (σ : ZSt) (hR : zRs σ) (a : Int) (ha : zRg a) (τ : ZSt) (hI : IM σ) (ht : TT τ σ) : ZMi E 7 yX6_print cX6_print 2 (some .int) [zrf E 31, ziv a] σ (fun r σ' => PrPost τ σ a 0 r σ') := by
  refine ZMi.intro (by decide) rfl (Nat.le_of_ble_eq_true rfl) (fun Γ C hN hret => ?_)
  show ZG E Γ 0 [some (zrf E 31), some (ziv a)] [] σ
  have h16 := ht.n16
  refine z_aload_nZ (pc := 0) C dX6_print_0 rfl rfl ?_
  refine z_iload_n (pc := 1) C dX6_print_1 rfl rfl ?_
  refine z_callVp (pc := 2) (rest := []) C (C_X6_isNode E σ hR a ha hI) vX6_116 (by decide) sh31 rfl rfl rfl (Nat.le_of_ble_eq_true rfl) dX6_print_2 (fun r_2 g_2 hp_2 => ?_)
  refine z_if_eq (pc := 5) C 17 g_2 dX6_print_5 rfl (fun c_5 => ?_) (fun c_5 => ?_)
  · have c_5 := zb0 hp_2 c_5
    refine z_iconst (pc := 17) C dX6_print_17 ?_
    refine hret 18 _ _ _ dX6_print_18 (zRgL rfl) hR ?_
    first
    | exact Or.inl ⟨by omega, hp_11⟩
    | exact Or.inr ⟨by omega, rfl, rfl⟩
  · have c_5 := zb1 hp_2 c_5
    refine z_aload_nZ (pc := 8) C dX6_print_8 rfl rfl ?_
    refine z_iload_n (pc := 9) C dX6_print_9 rfl rfl ?_
    refine z_iconst (pc := 10) C dX6_print_10 ?_
    refine z_callVi (pc := 11) (rest := []) C (C_X6_printTree E σ hR a ha 0 (Or.inl rfl) τ hI ht (by omega)) vX6_172 (by decide) sh31 rfl rfl rfl (Nat.le_of_ble_eq_true rfl) dX6_print_11 (fun r_11 σ_11 g_11 hR_11 hp_11 => ?_)
    refine z_goto (pc := 14) C 18 dX6_print_14 rfl ?_
    refine hret 18 _ _ _ dX6_print_18 g_11 hR_11 ?_
    first
    | exact Or.inl ⟨by omega, hp_11⟩
    | exact Or.inr ⟨by omega, rfl, rfl⟩
set_option maxRecDepth 20000 in
theorem C_X6_printFull (E : ZE) (σ : ZSt) (hR : zRs σ) (a : Int) (ha : zRg a) (τ : ZSt) (hI : IM σ) (ht : TT τ σ) : ZMi E 7 yX6_printFull cX6_printFull 2 (some .int) [zrf E 31, ziv a] σ (fun r σ' => PrPost τ σ a 1 r σ') := by
  refine ZMi.intro (by decide) rfl (Nat.le_of_ble_eq_true rfl) (fun Γ C hN hret => ?_)
  show ZG E Γ 0 [some (zrf E 31), some (ziv a)] [] σ
  have h16 := ht.n16
  refine z_aload_nZ (pc := 0) C dX6_printFull_0 rfl rfl ?_
  refine z_iload_n (pc := 1) C dX6_printFull_1 rfl rfl ?_
  refine z_callVp (pc := 2) (rest := []) C (C_X6_isNode E σ hR a ha hI) vX6_116 (by decide) sh31 rfl rfl rfl (Nat.le_of_ble_eq_true rfl) dX6_printFull_2 (fun r_2 g_2 hp_2 => ?_)
  refine z_if_eq (pc := 5) C 17 g_2 dX6_printFull_5 rfl (fun c_5 => ?_) (fun c_5 => ?_)
  · have c_5 := zb0 hp_2 c_5
    refine z_iconst (pc := 17) C dX6_printFull_17 ?_
    refine hret 18 _ _ _ dX6_printFull_18 (zRgL rfl) hR ?_
    first
    | exact Or.inl ⟨by omega, hp_11⟩
    | exact Or.inr ⟨by omega, rfl, rfl⟩
  · have c_5 := zb1 hp_2 c_5
    refine z_aload_nZ (pc := 8) C dX6_printFull_8 rfl rfl ?_
    refine z_iload_n (pc := 9) C dX6_printFull_9 rfl rfl ?_
    refine z_iconst (pc := 10) C dX6_printFull_10 ?_
    refine z_callVi (pc := 11) (rest := []) C (C_X6_printTree E σ hR a ha 1 (Or.inr rfl) τ hI ht (by omega)) vX6_172 (by decide) sh31 rfl rfl rfl (Nat.le_of_ble_eq_true rfl) dX6_printFull_11 (fun r_11 σ_11 g_11 hR_11 hp_11 => ?_)
    refine z_goto (pc := 14) C 18 dX6_printFull_14 rfl ?_
    refine hret 18 _ _ _ dX6_printFull_18 g_11 hR_11 ?_
    first
    | exact Or.inl ⟨by omega, hp_11⟩
    | exact Or.inr ⟨by omega, rfl, rfl⟩
section CALLS2
variable {τ σ : ZSt}
theorem sim_print (s : Sim τ σ) {a z r : Int} {ς : ZSt} (h : PrPost τ σ a z r ς) : r = (xprint τ a z).1 ∧ Sim (xprint τ a z).2 ς := by
  unfold xprint
  rcases h with ⟨ha, hr, ⟨m1, m2, m3⟩, k1, k2⟩ | ⟨ha, hr, hs⟩
  · rw [zif_pos ha]
    obtain ⟨⟨h0, h1⟩, h2, h3, h4, h5, h6, h7, h8⟩ := s
    have w := h3.2.1
    have wo := h2.1
    obtain ⟨σ1, e1⟩ : ∃ q, q = zup τ 21 1 0 := ⟨_, rfl⟩
    rw [← e1]
    have r1 : ∀ c, c ≠ 21 → σ1 c = τ c := fun c hc => by rw [e1, zup_row hc]
    obtain ⟨p1, p2, p3, p4⟩ := xprep_ok w wo h3.2.2 (σ := σ1) (z := z) (fun c hc => r1 c (by omega)) (fun i => by rw [r1 30 (by decide)]; exact h8 i) ha
    rw [p1]
    have hT := YT_ok (z := z) w wo 40 a ha (w.node ha).1.2 0 0
    have hT2 := YT_len (z := z) w wo ha
    obtain ⟨T, eT⟩ : ∃ T, T = YT τ z a 0 0 := ⟨_, rfl⟩
    rw [← eT] at hT hT2 hr m1 m2 ⊢
    obtain ⟨P, eP⟩ : ∃ P, P = xprep σ1 a z := ⟨_, rfl⟩
    have hIP : IX (xprep σ1 a z) := IX.xprep (by rw [e1]; exact h0.upTX (Or.inr (Or.inl rfl)) (by decide))
    rw [← eP] at p2 p3 p4 hIP ⊢
    obtain ⟨q1, q2, q3, q4⟩ := xputs_put (f := τ 22) T [] P (by rw [p3 22 (by decide), r1 22 (by decide), putf_nil]) (by rw [p3 21 (by decide), e1, zup_same]; rfl) (by simp only [List.length_nil]; omega)
    rw [List.nil_append] at q1 q2
    have hIQ : IX (xputs P T) := IX.xputs T hIP
    obtain ⟨Q, eQ⟩ : ∃ Q, Q = xputs P T := ⟨_, rfl⟩
    rw [← eQ] at q1 q2 q3 q4 hIQ ⊢
    have rQ : ∀ c, c ≠ 21 ∧ c ≠ 22 ∧ c ≠ 29 ∧ c ≠ 30 → Q c = τ c := fun c hc => by rw [q3 c (by omega), p3 c (by omega), r1 c (by omega)]
    have rX : ∀ c, c ≠ 0 → zup Q 0 8 a c = Q c := fun c hc => zup_row hc
    refine ⟨by show r = zup Q 0 8 a 21 1; rw [rX 21 (by decide), q2, hr], ?_⟩
    show Sim (zup Q 0 8 a) ς
    refine ⟨⟨hIQ.upA rfl, ?_⟩, h2.same (fun c hc => by rw [rX c (by omega)]; exact rQ c (by omega)) (k2 3 (by decide)) (fun c hc => k1 c (by omega)), h3.same (fun c hc => by rw [rX c (by omega)]; exact rQ c (by omega)) (k2 11 (by decide)) (fun c hc => k1 c (by omega)), ⟨⟨?_, ?_⟩, ?_⟩, h5.same (by rw [rX 19 (by decide), rQ 19 (by decide)]) (by rw [rX 20 (by decide)]; exact rQ 20 (by decide)) (k2 16 (by decide)) (k1 43 (by decide)), ⟨?_, ?_⟩, h7.same ?_ ?_ (k2 17 (by decide)) (k2 18 (by decide)), ?_⟩
    · unfold IM at h1 ⊢
      rw [k2 3 (by decide), k2 11 (by decide), k2 16 (by decide), k2 25 (by decide), k1 34 (by decide), m2]
      exact ⟨h1.1, h1.2.1, by omega, h1.2.2.2⟩
    · rw [rX 21 (by decide), q2, m2]
    · rw [rX 22 (by decide), q1, m1, h4.1.2]
    · exact outB_put (g := τ 22) (T := T) (by rw [rX 22 (by decide)]; exact q1) (by rw [rX 21 (by decide)]; exact q2) hT.2.1 hT.2.2
    · rw [zup_same, m3]; unfold zd; rw [if_neg (by omega)]
    · rw [zup_same, rX 7 (by decide), rQ 7 (by decide)]; exact Or.inr ha
    · rw [zup_place (by decide), rQ 0 (by decide)]
    · rw [zup_place (by decide), rQ 0 (by decide)]
    · intro i
      rw [rX 30 (by decide), q3 30 (by decide)]
      exact p2 i
  · rw [zif_neg ha, hs]
    exact ⟨hr, s⟩
theorem Sim.out0 (s : Sim τ σ) : Out0 τ σ := by
  obtain ⟨⟨h0, h1⟩, h2, h3, h4, h5, h6, h7, h8⟩ := s
  exact ⟨h2.1, h2.2, h0.2.2.2.2.1, h4.1, h4.2.1, h4.2.2, h3, h6⟩
theorem Sim.in0 (s : Sim τ σ) : In0 τ σ := by
  obtain ⟨⟨h0, h1⟩, h2, h3, h4, h5, h6, h7, h8⟩ := s
  exact ⟨h2.1, h2.2, h0.2.2.2.1, h5.1, h5.2, h3.1, h3.2.1, h3.2.2⟩
theorem IM.samew {σ ς : ZSt} (h : IM σ) (s : SameW σ ς) (hl : 0 ≤ ς 31 25 ∧ ς 31 25 ≤ 120) : IM ς := by
  unfold IM at h ⊢
  rw [s.2 3 (by decide), s.2 11 (by decide), s.2 13 (by decide), s.2 16 (by decide), s.1 34 (by decide)]
  exact ⟨h.1, h.2.1, h.2.2.1, h.2.2.2.1, hl, h.2.2.2.2.2⟩
theorem Sim.rd (s : Sim τ σ) {ρ ς : ZSt} (hx : IX ρ) (hm : IM ς) (x : ∀ c, ¬ (13 ≤ c ∧ c ≤ 18) ∧ ¬ (23 ≤ c ∧ c ≤ 28) → ρ c = τ c) (m : SameW σ ς) : Sim ρ ς := by
  obtain ⟨⟨h0, h1⟩, h2, h3, h4, h5, h6, h7, h8⟩ := s
  exact ⟨⟨hx, hm⟩, h2.same (fun c hc => x c (by omega)) (m.2 3 (by decide)) (fun c hc => m.1 c (by omega)), h3.same (fun c hc => x c (by omega)) (m.2 11 (by decide)) (fun c hc => m.1 c (by omega)), h4.same (by rw [x 21 (by decide)]) (x 22 (by decide)) (m.2 13 (by decide)) (m.1 42 (by decide)), h5.same (by rw [x 19 (by decide)]) (x 20 (by decide)) (m.2 16 (by decide)) (m.1 43 (by decide)), h6.same (by rw [x 0 (by decide)]) (by rw [x 7 (by decide)]; exact Int.le_refl _) (m.2 14 (by decide)), h7.same (by rw [x 0 (by decide)]) (by rw [x 0 (by decide)]) (m.2 17 (by decide)) (m.2 18 (by decide)), by rw [x 30 (by decide)]; exact h8⟩
theorem xskip_le (hI : IX τ) {a : Int} : IX (xskip τ 23 21 a) := hI.zst (Or.inr (Or.inr rfl)) (Nat.le_trans (zskn_le _ _ _) (by have := hI.tx (k := 21) (Or.inr (Or.inl rfl)); omega))
theorem sim_without (s : Sim τ σ) {a : Int} {ς : ZSt} (hm : IM ς) (h : SameW σ ς) : Sim (xwithout τ a).2 ς := by
  unfold xwithout
  have hI := s.1.1
  by_cases c1 : τ 0 8 = -1
  · rw [zif_pos c1]; exact s.rd hI hm (fun _ _ => rfl) h
  · rw [zif_neg c1]
    by_cases c2 : ¬ (0 ≤ a ∧ a < zcnt (τ 22) 40 (τ 21 1).toNat)
    · rw [zif_pos c2]; exact s.rd hI hm (fun _ _ => rfl) h
    · rw [zif_neg c2]
      by_cases c3 : xreadOk (xreads (xskip τ 23 21 a))
      · rw [zif_pos c3]; exact s.rd (xskip_le hI).xreads hm (fun c hc => xsk_row (by omega)) h
      · rw [zif_neg c3]; exact s.rd (xskip_le hI).xreads hm (fun c hc => xsk_row (by omega)) h
theorem xadds_up (ρ : ZSt) : ∀ n : Nat, ρ 7 5 ≤ xadds ρ n 7 5 := by
  intro n
  induction n with
  | zero => exact Int.le_refl _
  | succ n ih =>
    refine Int.le_trans ih ?_
    show _ ≤ xnadd (xadds ρ n) 7 _ _ _ _ 7 5
    by_cases c : 120 ≤ xadds ρ n 7 5
    · unfold xnadd
      rw [if_pos c]
      exact Int.le_refl _
    · rw [xnadd_cnt (by omega)]; omega
theorem xparse_row : (∀ c, ¬ (7 ≤ c ∧ c ≤ 18) ∧ ¬ (23 ≤ c ∧ c ≤ 28) ∧ c ≠ 0 → (xparse τ).2 c = τ c) ∧ (xparse τ).2 0 8 = τ 0 8 ∧ τ 7 5 ≤ (xparse τ).2 7 5 := by
  unfold xparse
  have r : ∀ c, ¬ (13 ≤ c ∧ c ≤ 18) ∧ ¬ (23 ≤ c ∧ c ≤ 28) → xreads (xcopy τ 23 19) c = τ c := fun c hc => xpr_row (by omega)
  by_cases c1 : xreadOk (xreads (xcopy τ 23 19))
  · rw [zif_pos c1]
    by_cases c2 : 40 < xreads (xcopy τ 23 19) 13 5
    · rw [zif_pos c2]; exact ⟨fun c hc => r c (by omega), by show xreads (xcopy τ 23 19) 0 8 = _; rw [r 0 (by decide)], by show _ ≤ xreads (xcopy τ 23 19) 7 5; rw [r 7 (by decide)]; exact Int.le_refl _⟩
    · rw [zif_neg c2]
      by_cases c3 : 100 < xreads (xcopy τ 23 19) 7 5 + xreads (xcopy τ 23 19) 13 5
      · rw [zif_pos c3]; exact ⟨fun c hc => r c (by omega), by show xreads (xcopy τ 23 19) 0 8 = _; rw [r 0 (by decide)], by show _ ≤ xreads (xcopy τ 23 19) 7 5; rw [r 7 (by decide)]; exact Int.le_refl _⟩
      · rw [zif_neg c3]
        refine ⟨fun c hc => ?_, ?_, ?_⟩
        · show xadds (xreads (xcopy τ 23 19)) _ c = _
          rw [xadds_row (by omega), r c (by omega)]
        · show xadds (xreads (xcopy τ 23 19)) _ 0 8 = _
          rw [xadds_row (by decide), r 0 (by decide)]
        · have := xadds_up (xreads (xcopy τ 23 19)) (xreads (xcopy τ 23 19) 13 5).toNat
          rw [r 7 (by decide)] at this
          exact this
  · rw [zif_neg c1]
    refine ⟨fun c hc => ?_, ?_, ?_⟩
    · show zup (zup (xreads (xcopy τ 23 19)) 0 9 _) 0 10 _ c = _
      rw [zup_row (by omega), zup_row (by omega), r c (by omega)]
    · show zup (zup (xreads (xcopy τ 23 19)) 0 9 (xreads (xcopy τ 23 19) 25 12)) 0 10 (xreads (xcopy τ 23 19) 25 13) 0 8 = _
      rw [zup_place (by decide), zup_place (by decide), r 0 (by decide)]
    · show _ ≤ zup (zup (xreads (xcopy τ 23 19)) 0 9 (xreads (xcopy τ 23 19) 25 12)) 0 10 (xreads (xcopy τ 23 19) 25 13) 7 5
      rw [zup_row (by decide), zup_row (by decide), r 7 (by decide)]
      exact Int.le_refl _
theorem ixparse (hI : IX τ) : IX (xparse τ).2 := by
  unfold xparse
  have h : IX (xreads (xcopy τ 23 19)) := IX.xreads (IX.zst (σ := τ) (k := 23) (n := (τ 19 1).toNat) (f := τ 20) hI (Or.inr (Or.inr rfl)) (by have := hI.tx (k := 19) (Or.inl rfl); omega))
  by_cases c1 : xreadOk (xreads (xcopy τ 23 19))
  · rw [zif_pos c1]
    by_cases c2 : 40 < xreads (xcopy τ 23 19) 13 5
    · rw [zif_pos c2]; exact h
    · rw [zif_neg c2]
      by_cases c3 : 100 < xreads (xcopy τ 23 19) 7 5 + xreads (xcopy τ 23 19) 13 5
      · rw [zif_pos c3]; exact h
      · rw [zif_neg c3]; exact h.xadds _
  · rw [zif_neg c1]; exact (h.upA rfl).upA rfl
theorem sim_parse (s : Sim τ σ) {r : Int} {ς : ZSt} (hm : IM ς) (h : PPost τ σ r ς) : r = (xparse τ).1 ∧ Sim (xparse τ).2 ς := by
  obtain ⟨p1, p2, p3, p4, p5, k1, k2⟩ := h
  obtain ⟨x, x8, x7⟩ := xparse_row (τ := τ)
  obtain ⟨⟨h0, h1⟩, h2, h3, h4, h5, h6, h7, h8⟩ := s
  exact ⟨p1, ⟨ixparse h0, hm⟩, h2.same (fun c hc => x c (by omega)) (k2 3 (by decide)) (fun c hc => k1 c (by omega)), ⟨p2, p3, p4⟩, h4.same (by rw [x 21 (by decide)]) (x 22 (by decide)) (k2 13 (by decide)) (k1 42 (by decide)), h5.same (by rw [x 19 (by decide)]) (x 20 (by decide)) (k2 16 (by decide)) (k1 43 (by decide)), h6.same x8 x7 (k2 14 (by decide)), p5, by rw [x 30 (by decide)]; exact h8⟩
-- what only answers
theorem g_sym (s : Sim τ σ) (a : Int) : (if 0 ≤ a ∧ a < σ 31 3 then σ 32 a.toNat else -2) = (if 0 ≤ a ∧ a < τ 1 5 then xsym τ a else -2) := by
  rw [s.cnt.1]
  by_cases c : 0 ≤ a ∧ a < τ 1 5
  · rw [if_pos c, if_pos c, (s.tt.op c).2.2.1]
  · rw [if_neg c, if_neg c]
theorem g_kind (s : Sim τ σ) (a : Int) : (if 0 ≤ a ∧ a < σ 31 3 then σ 33 a.toNat else -2) = (if 0 ≤ a ∧ a < τ 1 5 then xkind τ a else -2) := by
  rw [s.cnt.1]
  by_cases c : 0 ≤ a ∧ a < τ 1 5
  · rw [if_pos c, if_pos c, (s.tt.op c).1]
  · rw [if_neg c, if_neg c]
theorem g_op (s : Sim τ σ) (a : Int) : (if 0 ≤ a ∧ a < σ 31 11 then σ 37 a.toNat else -1) = (if 0 ≤ a ∧ a < τ 7 5 then (if xnop τ 7 a = -1 then -10 else xnop τ 7 a) else -1) := by
  rw [s.cnt.2.1]
  by_cases c : 0 ≤ a ∧ a < τ 7 5
  · rw [if_pos c, if_pos c, (s.tt.node c).1]; rfl
  · rw [if_neg c, if_neg c]
theorem g_let (s : Sim τ σ) (a : Int) : (if 0 ≤ a ∧ a < σ 31 11 then σ 38 a.toNat else -1) = (if 0 ≤ a ∧ a < τ 7 5 then (if xnlet τ 7 a = -1 then -10 else xnlet τ 7 a) else -1) := by
  rw [s.cnt.2.1]
  by_cases c : 0 ≤ a ∧ a < τ 7 5
  · rw [if_pos c, if_pos c, (s.tt.node c).2.1]; rfl
  · rw [if_neg c, if_neg c]
theorem g_size (s : Sim τ σ) (a : Int) : (if 0 ≤ a ∧ a < σ 31 11 then σ 41 a.toNat else -1) = (if 0 ≤ a ∧ a < τ 7 5 then xnsz τ 7 a else -1) := by
  rw [s.cnt.2.1]
  by_cases c : 0 ≤ a ∧ a < τ 7 5
  · rw [if_pos c, if_pos c, s.size c]
  · rw [if_neg c, if_neg c]
theorem g_out (s : Sim τ σ) (a : Int) : (if 0 ≤ a ∧ a < σ 31 13 then σ 42 a.toNat else -9) = (if xat τ 21 a = -1 then -9 else xat τ 21 a) := by
  obtain ⟨⟨o1, o2⟩, o3, -⟩ := s.2.2.2.1
  rw [o1, o2]
  unfold xat
  by_cases c : 0 ≤ a ∧ a < τ 21 1
  · rw [if_pos c, zget_in c]
    have := o3 a.toNat (by omega)
    rw [if_neg (by show ¬ τ 22 a.toNat = -1; omega)]
  · rw [if_neg c, zget_out c, if_pos rfl]
theorem g_pairs (s : Sim τ σ) : zcnt (σ 42) 40 (σ 31 13).toNat = zcnt (τ 22) 40 (τ 21 1).toNat := by
  obtain ⟨⟨o1, o2⟩, -⟩ := s.2.2.2.1
  rw [o1, o2]
theorem g_operand (s : Sim τ σ) (a b : Int) : (if 0 ≤ a ∧ a < σ 31 11 then (if b = 0 then σ 39 a.toNat else if b = 1 then σ 40 a.toNat else -10) else -1) = (if 0 ≤ a ∧ a < τ 7 5 then (if (if b = 0 then (if xnbef τ 7 a = -1 then xnaft τ 7 a else xnbef τ 7 a) else if b = 1 ∧ xnbef τ 7 a ≠ -1 then xnaft τ 7 a else -1) = -1 then -10 else (if b = 0 then (if xnbef τ 7 a = -1 then xnaft τ 7 a else xnbef τ 7 a) else if b = 1 ∧ xnbef τ 7 a ≠ -1 then xnaft τ 7 a else -1)) else -1) := by
  rw [s.cnt.2.1]
  by_cases c : 0 ≤ a ∧ a < τ 7 5
  · rw [if_pos c, if_pos c, (s.tt.node c).2.2.1, (s.tt.node c).2.2.2]
    unfold yfst ysnd zd
    by_cases b0 : b = 0
    · rw [if_pos b0, if_pos b0]
      by_cases e : xnbef τ 7 a = -1
      · rw [if_pos e, if_pos e]
      · rw [if_neg e, if_neg e, if_neg e]
    · rw [if_neg b0, if_neg b0]
      by_cases b1 : b = 1
      · rw [if_pos b1]
        by_cases e : xnbef τ 7 a = -1
        · rw [if_pos e, if_neg (c := b = 1 ∧ xnbef τ 7 a ≠ -1) (fun q => q.2 e), if_pos rfl]
        · rw [if_neg e, if_pos (c := b = 1 ∧ xnbef τ 7 a ≠ -1) ⟨b1, e⟩]
      · rw [if_neg b1, if_neg (c := b = 1 ∧ xnbef τ 7 a ≠ -1) (fun q => b1 q.1), if_pos rfl]
  · rw [if_neg c, if_neg c]
end CALLS2

