/-! ===== printing in the reference ===== -/
def Only46 (σ ρ : ZSt) : Prop := ∀ c, c ≠ 46 → ρ c = σ c
theorem TT.same {τ σ ρ : ZSt} (t : TT τ σ) (h1 : ρ 31 3 = σ 31 3) (h2 : ρ 31 11 = σ 31 11) (h : ∀ c, 32 ≤ c ∧ c ≤ 41 → ρ c = σ c) : TT τ ρ := by
  obtain ⟨t1, t2, t3, t4, t5⟩ := t
  refine ⟨t1, ?_, t3.same (fun _ _ => rfl) h2 (fun c hc => h c (by omega)), t4, t5⟩
  unfold SO at t2 ⊢
  rw [h1, h 32 (by decide), h 33 (by decide), h 34 (by decide), h 35 (by decide), h 36 (by decide)]
  exact t2
theorem TT.o46 {τ σ ρ : ZSt} (t : TT τ σ) (o : Only46 σ ρ) : TT τ ρ := t.same (by rw [o 31 (by decide)]) (by rw [o 31 (by decide)]) (fun c hc => o c (by omega))
theorem IM.o46 {σ ρ : ZSt} (h : IM σ) (o : Only46 σ ρ) : IM ρ := h.of (by rw [o 31 (by decide)]) (by rw [o 31 (by decide)]) (by rw [o 31 (by decide)]) (by rw [o 31 (by decide)]) (by rw [o 31 (by decide)]) (fun i => by rw [o 34 (by decide)])
theorem Only46.up {σ ρ : ZSt} {j : Nat} {v : Int} (o : Only46 σ ρ) : Only46 σ (zup ρ 46 j v) := fun c hc => by rw [zup_row hc]; exact o c hc
theorem LY.zero (τ ρ : ZSt) : LY τ ρ 0 := fun u m x _ _ h => by omega

set_option maxRecDepth 20000 in
theorem C_X6_layCosts (E : ZE) (σ : ZSt) (hR : zRs σ) (a : Int) (ha : zRg a) (τ : ZSt) (hI : IM σ) (ht : TT τ σ) (ha1 : 0 ≤ a ∧ a < τ 7 5) : ZMv E 5 yX6_layCosts cX6_layCosts 6 [zrf E 31, ziv a] σ (fun σ' => LY τ σ' (121 * (a + 1)) ∧ Only46 σ σ') := by
  refine ZMv.intro (by decide) rfl (Nat.le_of_ble_eq_true rfl) (fun Γ C hN hret => ?_)
  show ZG E Γ 0 [some (zrf E 31), some (ziv a), none, none, none, none] [] σ
  have hwo := ht.1
  have hw7 := ht.2.2.2.1
  have h16 := ht.n16
  refine z_iconst (pc := 0) C dX6_layCosts_0 ?_
  refine z_istore_n (pc := 1) (lv' := [some (zrf E 31), some (ziv a), some (ziv 0), none, none, none]) C hN dX6_layCosts_1 rfl (by decide) rfl ?_
  have L2 : ∀ (n : Nat) (u : Int) (ρ : ZSt), zRg u → 0 ≤ u ∧ u ≤ a + 1 → LY τ ρ (121 * u) → Only46 σ ρ → zRs ρ → (a + 1 - u).toNat < n → ZG E Γ 2 [some (zrf E 31), some (ziv a), some (ziv u), none, none, none] [] ρ := by
    intro n
    induction n with
    | zero => intro u ρ hu hu0 hy ho6 hRr hm; exact absurd hm (by omega)
    | succ n ih =>
      intro u ρ hu hu0 hy ho6 hRr hm
      have hIr : IM ρ := hI.o46 ho6
      have ih2 := ih
      refine z_iload_n (pc := 2) C dX6_layCosts_2 rfl rfl ?_
      refine z_iload_n (pc := 3) C dX6_layCosts_3 rfl rfl ?_
      refine z_icmp_gt (pc := 4) C 81 hu ha dX6_layCosts_4 rfl (fun c_4 => ?_) (fun c_4 => ?_)
      · refine hret 81 _ _ dX6_layCosts_81 hRr ?_
        exact ⟨hy.mono (by omega), ho6⟩
      · refine z_iconst (pc := 7) C dX6_layCosts_7 ?_
        refine z_istore_n (pc := 8) (lv' := [some (zrf E 31), some (ziv a), some (ziv u), some (ziv 0), none, none]) C hN dX6_layCosts_8 rfl (by decide) rfl ?_
        have L9 : ∀ (n : Nat) (p : Int) (ρ1 : ZSt), zRg p → 0 ≤ p ∧ p ≤ 11 → LY τ ρ1 (121 * u + 11 * p) → Only46 σ ρ1 → zRs ρ1 → (11 - p).toNat < n → ZG E Γ 9 [some (zrf E 31), some (ziv a), some (ziv u), some (ziv p), none, none] [] ρ1 := by
          intro n
          induction n with
          | zero => intro p ρ1 hp hp0 hy1 ho7 hR1 hm; exact absurd hm (by omega)
          | succ n ih =>
            intro p ρ1 hp hp0 hy1 ho7 hR1 hm
            have hI1 : IM ρ1 := hI.o46 ho7
            have ih9 := ih
            refine z_iload_n (pc := 9) C dX6_layCosts_9 rfl rfl ?_
            refine z_bipush (pc := 10) C dX6_layCosts_10 (by decide) ?_
            refine z_icmp_ge (pc := 12) C 75 hp (zRgL rfl) dX6_layCosts_12 rfl (fun c_12 => ?_) (fun c_12 => ?_)
            · refine z_iinc (pc := 75) (lv' := [some (zrf E 31), some (ziv a), some (ziv (u + 1)), some (ziv p), none, none]) C hN dX6_layCosts_75 (by decide) rfl rfl ?_
              refine z_goto (pc := 78) C 2 dX6_layCosts_78 rfl ?_
              refine z_weak (lv' := [some (zrf E 31), some (ziv a), some (ziv (u + 1)), none, none, none]) ⟨rfl, rfl, rfl, trivial⟩ ?_
              exact ih2 _ _ (by (try unfold zRg at *); (try simp only [IX, IM] at *); omega) (by omega) (hy1.mono (by omega)) ho7 hR1 (by omega)
            · refine z_iconst (pc := 15) C dX6_layCosts_15 ?_
              refine z_istore (pc := 16) (lv' := [some (zrf E 31), some (ziv a), some (ziv u), some (ziv p), some (ziv 0), none]) C hN dX6_layCosts_16 (by decide) rfl ?_
              have L18 : ∀ (n : Nat) (q : Int) (ρ2 : ZSt), zRg q → 0 ≤ q ∧ q ≤ 11 → LY τ ρ2 (121 * u + 11 * p + q) → Only46 σ ρ2 → zRs ρ2 → (11 - q).toNat < n → ZG E Γ 18 [some (zrf E 31), some (ziv a), some (ziv u), some (ziv p), some (ziv q), none] [] ρ2 := by
                intro n
                induction n with
                | zero => intro q ρ2 hq hq0 hy2 ho8 hR2 hm; exact absurd hm (by omega)
                | succ n ih =>
                  intro q ρ2 hq hq0 hy2 ho8 hR2 hm
                  have hI2 : IM ρ2 := hI.o46 ho8
                  refine z_iload (pc := 18) C dX6_layCosts_18 rfl ?_
                  refine z_bipush (pc := 20) C dX6_layCosts_20 (by decide) ?_
                  refine z_icmp_ge (pc := 22) C 69 hq (zRgL rfl) dX6_layCosts_22 rfl (fun c_22 => ?_) (fun c_22 => ?_)
                  · refine z_iinc (pc := 69) (lv' := [some (zrf E 31), some (ziv a), some (ziv u), some (ziv (p + 1)), some (ziv q), none]) C hN dX6_layCosts_69 (by decide) rfl rfl ?_
                    refine z_goto (pc := 72) C 9 dX6_layCosts_72 rfl ?_
                    refine z_weak (lv' := [some (zrf E 31), some (ziv a), some (ziv u), some (ziv (p + 1)), none, none]) ⟨rfl, rfl, rfl, rfl, trivial⟩ ?_
                    exact ih9 _ _ (by (try unfold zRg at *); (try simp only [IX, IM] at *); omega) (by omega) (hy2.mono (by omega)) ho8 hR2 (by omega)
                  · refine z_aload_nZ (pc := 25) C dX6_layCosts_25 rfl rfl ?_
                    refine z_iload_n (pc := 26) C dX6_layCosts_26 rfl rfl ?_
                    refine z_iload_n (pc := 27) C dX6_layCosts_27 rfl rfl ?_
                    refine z_iload (pc := 28) C dX6_layCosts_28 rfl ?_
                    refine z_callVp (pc := 30) (rest := []) C (C_X6_costOf E ρ2 hR2 u hu p hp q hq τ hI2 (ht.o46 ho8) (by omega) (by omega) (hy2.mono (by omega))) vX6_144 (by decide) sh31 rfl rfl rfl (Nat.le_of_ble_eq_true rfl) dX6_layCosts_30 (fun r_30 g_30 hp_30 => ?_)
                    have hyr := (YC_rg hw7 hwo (v := u) (by omega)).1 p q
                    refine z_istore (pc := 33) (lv' := [some (zrf E 31), some (ziv a), some (ziv u), some (ziv p), some (ziv q), some (ziv r_30)]) C hN dX6_layCosts_33 (by decide) rfl ?_
                    refine z_aload_nZ (pc := 35) C dX6_layCosts_35 rfl rfl ?_
                    refine z_getR (pc := 36) C fX6_63 sh31 rfl dX6_layCosts_36 ?_
                    refine z_iload_n (pc := 39) C dX6_layCosts_39 rfl rfl ?_
                    refine z_iload_n (pc := 40) C dX6_layCosts_40 rfl rfl ?_
                    refine z_iload (pc := 41) C dX6_layCosts_41 rfl ?_
                    refine z_callSp (pc := 43) (rest := [zrf E 46]) C (C_X6_cell E ρ2 hR2 u hu p hp q hq (by omega)) vX6_130 (by decide) rfl rfl (Nat.le_of_ble_eq_true rfl) dX6_layCosts_43 (fun r_43 g_43 hp_43 => ?_)
                    refine z_iload (pc := 46) C dX6_layCosts_46 rfl ?_
                    refine z_sipush (pc := 48) C dX6_layCosts_48 (by decide) ?_
                    refine z_icmp_le (pc := 51) C 60 g_30 (zRgL rfl) dX6_layCosts_51 rfl (fun c_51 => ?_) (fun c_51 => ?_)
                    · refine z_iload (pc := 60) C dX6_layCosts_60 rfl ?_
                      refine z_iast (pc := 62) C hR2 sh46 (by (try unfold zRg at *); (try simp only [IX, IM] at *); omega) (by (try unfold zRg at *); (try simp only [IX, IM] at *); omega) g_30 dX6_layCosts_62 (fun σ_62 e_62 hR_62 => ?_)
                      have hI_62 : IM σ_62 := by rw [e_62]; exact hI2.upA rfl
                      refine z_iinc (pc := 63) (lv' := [some (zrf E 31), some (ziv a), some (ziv u), some (ziv p), some (ziv (q + 1)), some (ziv r_30)]) C hN dX6_layCosts_63 (by decide) rfl rfl ?_
                      refine z_goto (pc := 66) C 18 dX6_layCosts_66 rfl ?_
                      refine z_weak (lv' := [some (zrf E 31), some (ziv a), some (ziv u), some (ziv p), some (ziv (q + 1)), none]) ⟨rfl, rfl, rfl, rfl, rfl, trivial⟩ ?_
                      exact ih _ _ (by (try unfold zRg at *); (try simp only [IX, IM] at *); omega) (by omega) (by rw [e_62, hp_30]; exact hy2.st (by omega) (by omega) (by omega) hp_43) (by rw [e_62]; exact ho8.up) hR_62 (by omega)
                    · exfalso; omega
              exact L18 _ 0 ρ1 (zRgL rfl) (by omega) (hy1.mono (by omega)) ho7 hR1 (Nat.lt_succ_self _)
        exact L9 _ 0 ρ (zRgL rfl) (by omega) (hy.mono (by omega)) ho6 hRr (Nat.lt_succ_self _)
  exact L2 _ 0 σ (zRgL rfl) (by omega) (LY.zero τ σ) (fun c _ => rfl) hR (Nat.lt_succ_self _)
def mpush (σ : ZSt) (a b c e : Int) : ZSt := zup (zup (zup (zup (zup σ 47 (4 * σ 31 23).toNat a) 47 (4 * σ 31 23 + 1).toNat b) 47 (4 * σ 31 23 + 2).toNat c) 47 (4 * σ 31 23 + 3).toNat e) 31 23 (σ 31 23 + 1)
def mwrite (σ : ZSt) (a : Int) : ZSt := zup (zup σ 42 (σ 31 13).toNat a) 31 13 (σ 31 13 + 1)
/-- what waits: the uppermost first -/
def Stk (f : Nat → Int) : List (Int × Int × Int × Int) → Prop
  | [] => True
  | e :: l => (f (4 * l.length) = e.1 ∧ f (4 * l.length + 1) = e.2.1 ∧ f (4 * l.length + 2) = e.2.2.1 ∧ f (4 * l.length + 3) = e.2.2.2) ∧ Stk f l
def WS (σ : ZSt) (l : List (Int × Int × Int × Int)) : Prop := σ 31 23 = l.length ∧ Stk (σ 47) l
def OnlyS (σ ρ : ZSt) : Prop := (∀ c, c ≠ 31 ∧ c ≠ 47 → ρ c = σ c) ∧ ∀ j, j ≠ 23 → ρ 31 j = σ 31 j
theorem OnlyS.rf (σ : ZSt) : OnlyS σ σ := ⟨fun _ _ => rfl, fun _ _ => rfl⟩
theorem OnlyS.trans {σ ρ ς : ZSt} (h : OnlyS σ ρ) (k : OnlyS ρ ς) : OnlyS σ ς := ⟨fun c hc => by rw [k.1 c hc, h.1 c hc], fun j hj => by rw [k.2 j hj, h.2 j hj]⟩
theorem Stk.ext {f g : Nat → Int} : ∀ l : List (Int × Int × Int × Int), (∀ j, j < 4 * l.length → g j = f j) → Stk f l → Stk g l := by
  intro l
  induction l with
  | nil => intro _ _; trivial
  | cons e l ih =>
    intro h s
    obtain ⟨⟨s1, s2, s3, s4⟩, s5⟩ := s
    have hl : (e :: l).length = l.length + 1 := rfl
    refine ⟨⟨?_, ?_, ?_, ?_⟩, ih (fun j hj => h j (by omega)) s5⟩
    · rw [h _ (by omega)]; exact s1
    · rw [h _ (by omega)]; exact s2
    · rw [h _ (by omega)]; exact s3
    · rw [h _ (by omega)]; exact s4
theorem WS.push {σ : ZSt} {l : List (Int × Int × Int × Int)} (h : WS σ l) (a b c e : Int) : WS (mpush σ a b c e) ((a, b, c, e) :: l) := by
  obtain ⟨h1, h2⟩ := h
  have hl : ((a, b, c, e) :: l).length = l.length + 1 := rfl
  unfold mpush
  refine ⟨by rw [zup_same, h1, hl]; omega, ?_⟩
  rw [zup_row (by decide)]
  refine ⟨⟨?_, ?_, ?_, ?_⟩, Stk.ext l (fun j hj => ?_) h2⟩
  · rw [zup_place (by omega), zup_place (by omega), zup_place (by omega), show 4 * l.length = (4 * σ 31 23).toNat by omega, zup_same]
  · rw [zup_place (by omega), zup_place (by omega), show 4 * l.length + 1 = (4 * σ 31 23 + 1).toNat by omega, zup_same]
  · rw [zup_place (by omega), show 4 * l.length + 2 = (4 * σ 31 23 + 2).toNat by omega, zup_same]
  · rw [show 4 * l.length + 3 = (4 * σ 31 23 + 3).toNat by omega, zup_same]
  · rw [zup_place (by omega), zup_place (by omega), zup_place (by omega), zup_place (by omega)]
theorem OnlyS.push (σ : ZSt) (a b c e : Int) : OnlyS σ (mpush σ a b c e) := by
  unfold mpush
  refine ⟨fun q hq => ?_, fun j hj => ?_⟩
  · rw [zup_row (by omega), zup_row (by omega), zup_row (by omega), zup_row (by omega), zup_row (by omega)]
  · rw [zup_place hj, zup_row (by decide), zup_row (by decide), zup_row (by decide), zup_row (by decide)]
theorem IM.oS {σ ρ : ZSt} (h : IM σ) (o : OnlyS σ ρ) : IM ρ := h.of (o.2 3 (by decide)) (o.2 11 (by decide)) (o.2 13 (by decide)) (o.2 16 (by decide)) (o.2 25 (by decide)) (fun i => by rw [o.1 34 (by decide)])
theorem TT.oS {τ σ ρ : ZSt} (t : TT τ σ) (o : OnlyS σ ρ) : TT τ ρ := t.same (o.2 3 (by decide)) (o.2 11 (by decide)) (fun c hc => o.1 c (by omega))
theorem LY.oS {τ σ ρ : ZSt} {t : Int} (h : LY τ σ t) (o : OnlyS σ ρ) : LY τ ρ t := fun u m x hm hx hl => by rw [o.1 46 (by decide)]; exact h u m x hm hx hl
/-- what is pushed for an operand -/
noncomputable def ypo (τ : ZSt) (z o b m x : Int) : List (Int × Int × Int × Int) := zif (xnop τ 7 b = -1) [(b, -10, 0, 0)] (zif (z ≠ 0 ∨ 1 + YC τ b 0 0 < xpi τ (YC τ) o b m x) [(-10, 40, 0, 0), (b, -10, 0, 0), (-10, 41, 0, 0)] [(b, -10, m, x)])
noncomputable def yeo (τ : ZSt) (z o b m x : Int) : List (Int × Int × Int × Int) := zif (b = -1) [] (ypo τ z o b m x)
theorem yeo_in {τ : ZSt} {z o b m x : Int} (h : b ≠ -1) : yeo τ z o b m x = ypo τ z o b m x := by unfold yeo; rw [zif_neg h]
theorem yeo_none {τ : ZSt} {z o b m x : Int} (h : b = -1) : yeo τ z o b m x = [] := by unfold yeo; rw [zif_pos h]
theorem ypo_len (τ : ZSt) (z o b m x : Int) : (ypo τ z o b m x).length ≤ 3 := by
  unfold ypo
  by_cases c : xnop τ 7 b = -1
  · rw [zif_pos c]; simp
  · rw [zif_neg c]
    by_cases d : z ≠ 0 ∨ 1 + YC τ b 0 0 < xpi τ (YC τ) o b m x
    · rw [zif_pos d]; simp
    · rw [zif_neg d]; simp
noncomputable def ypp (τ : ZSt) (z b m x : Int) : List (Int × Int × Int × Int) := yeo τ z (xnop τ 7 b) (xnbef τ 7 b) m (xlev τ (xnop τ 7 b)) ++ ((-10, xsym τ (xnop τ 7 b), 0, 0) :: yeo τ z (xnop τ 7 b) (xnaft τ 7 b) (xmin τ (xnop τ 7 b)) x)

set_option maxRecDepth 20000 in
theorem C_X6_push (E : ZE) (σ : ZSt) (hR : zRs σ) (a : Int) (ha : zRg a) (b : Int) (hb : zRg b) (c : Int) (hc : zRg c) (e : Int) (he : zRg e) (hI : IM σ) (hn : 0 ≤ σ 31 23 ∧ σ 31 23 < 300) : ZMv E 0 yX6_push cX6_push 5 [zrf E 31, ziv a, ziv b, ziv c, ziv e] σ (fun σ' => σ' = mpush σ a b c e) := by
  refine ZMv.intro (by decide) rfl (Nat.le_of_ble_eq_true rfl) (fun Γ C hN hret => ?_)
  show ZG E Γ 0 [some (zrf E 31), some (ziv a), some (ziv b), some (ziv c), some (ziv e)] [] σ
  refine z_aload_nZ (pc := 0) C dX6_push_0 rfl rfl ?_
  refine z_getR (pc := 1) C fX6_66 sh31 rfl dX6_push_1 ?_
  refine z_iconst (pc := 4) C dX6_push_4 ?_
  refine z_aload_nZ (pc := 5) C dX6_push_5 rfl rfl ?_
  refine z_getI (pc := 6) C fX6_147 sh31 rfl dX6_push_6 ?_
  refine z_imul (pc := 9) C dX6_push_9 ?_
  refine z_iload_n (pc := 10) C dX6_push_10 rfl rfl ?_
  refine z_iast (pc := 11) C hR sh47 (by (try unfold zRg at *); (try simp only [IX, IM] at *); omega) (by (try unfold zRg at *); (try simp only [IX, IM] at *); omega) ha dX6_push_11 (fun σ_11 e_11 hR_11 => ?_)
  have hI_11 : IM σ_11 := by rw [e_11]; exact hI.upA rfl
  refine z_aload_nZ (pc := 12) C dX6_push_12 rfl rfl ?_
  refine z_getR (pc := 13) C fX6_66 sh31 rfl dX6_push_13 ?_
  refine z_iconst (pc := 16) C dX6_push_16 ?_
  refine z_aload_nZ (pc := 17) C dX6_push_17 rfl rfl ?_
  refine z_getIe (pc := 18) (v := σ 31 23) C fX6_147 sh31 rfl dX6_push_18 (by rw [e_11, zup_cell (by omega)]) ?_
  refine z_imul (pc := 21) C dX6_push_21 ?_
  refine z_iconst (pc := 22) C dX6_push_22 ?_
  refine z_iadd (pc := 23) C dX6_push_23 ?_
  refine z_iload_n (pc := 24) C dX6_push_24 rfl rfl ?_
  refine z_iast (pc := 25) C hR_11 sh47 (by (try unfold zRg at *); (try simp only [IX, IM] at *); omega) (by (try unfold zRg at *); (try simp only [IX, IM] at *); omega) hb dX6_push_25 (fun σ_25 e_25 hR_25 => ?_)
  have hI_25 : IM σ_25 := by rw [e_25]; exact hI_11.upA rfl
  refine z_aload_nZ (pc := 26) C dX6_push_26 rfl rfl ?_
  refine z_getR (pc := 27) C fX6_66 sh31 rfl dX6_push_27 ?_
  refine z_iconst (pc := 30) C dX6_push_30 ?_
  refine z_aload_nZ (pc := 31) C dX6_push_31 rfl rfl ?_
  refine z_getIe (pc := 32) (v := σ 31 23) C fX6_147 sh31 rfl dX6_push_32 (by rw [e_25, zup_cell (by omega), e_11, zup_cell (by omega)]) ?_
  refine z_imul (pc := 35) C dX6_push_35 ?_
  refine z_iconst (pc := 36) C dX6_push_36 ?_
  refine z_iadd (pc := 37) C dX6_push_37 ?_
  refine z_iload_n (pc := 38) C dX6_push_38 rfl rfl ?_
  refine z_iast (pc := 39) C hR_25 sh47 (by (try unfold zRg at *); (try simp only [IX, IM] at *); omega) (by (try unfold zRg at *); (try simp only [IX, IM] at *); omega) hc dX6_push_39 (fun σ_39 e_39 hR_39 => ?_)
  have hI_39 : IM σ_39 := by rw [e_39]; exact hI_25.upA rfl
  refine z_aload_nZ (pc := 40) C dX6_push_40 rfl rfl ?_
  refine z_getR (pc := 41) C fX6_66 sh31 rfl dX6_push_41 ?_
  refine z_iconst (pc := 44) C dX6_push_44 ?_
  refine z_aload_nZ (pc := 45) C dX6_push_45 rfl rfl ?_
  refine z_getIe (pc := 46) (v := σ 31 23) C fX6_147 sh31 rfl dX6_push_46 (by rw [e_39, zup_cell (by omega), e_25, zup_cell (by omega), e_11, zup_cell (by omega)]) ?_
  refine z_imul (pc := 49) C dX6_push_49 ?_
  refine z_iconst (pc := 50) C dX6_push_50 ?_
  refine z_iadd (pc := 51) C dX6_push_51 ?_
  refine z_iload (pc := 52) C dX6_push_52 rfl ?_
  refine z_iast (pc := 54) C hR_39 sh47 (by (try unfold zRg at *); (try simp only [IX, IM] at *); omega) (by (try unfold zRg at *); (try simp only [IX, IM] at *); omega) he dX6_push_54 (fun σ_54 e_54 hR_54 => ?_)
  have hI_54 : IM σ_54 := by rw [e_54]; exact hI_39.upA rfl
  refine z_aload_nZ (pc := 55) C dX6_push_55 rfl rfl ?_
  refine z_dup (pc := 56) C dX6_push_56 rfl ?_
  refine z_getIe (pc := 57) (v := σ 31 23) C fX6_147 sh31 rfl dX6_push_57 (by rw [e_54, zup_cell (by omega), e_39, zup_cell (by omega), e_25, zup_cell (by omega), e_11, zup_cell (by omega)]) ?_
  refine z_iconst (pc := 60) C dX6_push_60 ?_
  refine z_iadd (pc := 61) C dX6_push_61 ?_
  refine z_putI (pc := 62) C hR_54 fX6_147 sh31 rfl (by (try unfold zRg at *); (try simp only [IX, IM] at *); omega) dX6_push_62 (fun σ_62 e_62 hR_62 => ?_)
  have hI_62 : IM σ_62 := by rw [e_62]; exact hI_54.upF rfl
  refine hret 65 _ _ dX6_push_65 hR_62 ?_
  subst_vars; rfl
set_option maxRecDepth 20000 in
theorem C_X6_write (E : ZE) (σ : ZSt) (hR : zRs σ) (a : Int) (ha : zRg a) (hI : IM σ) (hn : σ 31 13 < 120) : ZMv E 0 yX6_write cX6_write 2 [zrf E 31, ziv a] σ (fun σ' => σ' = mwrite σ a) := by
  refine ZMv.intro (by decide) rfl (Nat.le_of_ble_eq_true rfl) (fun Γ C hN hret => ?_)
  show ZG E Γ 0 [some (zrf E 31), some (ziv a)] [] σ
  refine z_aload_nZ (pc := 0) C dX6_write_0 rfl rfl ?_
  refine z_getR (pc := 1) C fX6_41 sh31 rfl dX6_write_1 ?_
  refine z_aload_nZ (pc := 4) C dX6_write_4 rfl rfl ?_
  refine z_getI (pc := 5) C fX6_154 sh31 rfl dX6_write_5 ?_
  refine z_iload_n (pc := 8) C dX6_write_8 rfl rfl ?_
  refine z_iast (pc := 9) C hR sh42 (by (try unfold zRg at *); (try simp only [IX, IM] at *); omega) (by (try unfold zRg at *); (try simp only [IX, IM] at *); omega) ha dX6_write_9 (fun σ_9 e_9 hR_9 => ?_)
  have hI_9 : IM σ_9 := by rw [e_9]; exact hI.upA rfl
  refine z_aload_nZ (pc := 10) C dX6_write_10 rfl rfl ?_
  refine z_dup (pc := 11) C dX6_write_11 rfl ?_
  refine z_getIe (pc := 12) (v := σ 31 13) C fX6_154 sh31 rfl dX6_write_12 (by rw [e_9, zup_cell (by omega)]) ?_
  refine z_iconst (pc := 15) C dX6_write_15 ?_
  refine z_iadd (pc := 16) C dX6_write_16 ?_
  refine z_putI (pc := 17) C hR_9 fX6_154 sh31 rfl (by (try unfold zRg at *); (try simp only [IX, IM] at *); omega) dX6_write_17 (fun σ_17 e_17 hR_17 => ?_)
  have hI_17 : IM σ_17 := by rw [e_17]; exact hI_9.up13 (by (try unfold zRg at *); (try simp only [IX, IM] at *); omega)
  refine hret 20 _ _ dX6_write_20 hR_17 ?_
  subst_vars; rfl
set_option maxRecDepth 20000 in
theorem C_X6_pushOperand (E : ZE) (σ : ZSt) (hR : zRs σ) (a : Int) (ha : zRg a) (b : Int) (hb : zRg b) (m : Int) (hm : zRg m) (x : Int) (hx : zRg x) (l : Int) (hl : l = 0 ∨ l = 1) (z : Int) (hz : z = 0 ∨ z = 1) (τ : ZSt) (lst : List (Int × Int × Int × Int)) (hI : IM σ) (ht : TT τ σ) (ho : 0 ≤ a ∧ a < τ 1 5) (hb1 : 0 ≤ b ∧ b < τ 7 5) (hmx : (0 ≤ m ∧ m ≤ 10) ∧ (0 ≤ x ∧ x ≤ 10)) (hLY : LY τ σ (121 * (b + 1))) (hlf : l = 1 ∨ (xkind τ a = 0 → m = xmin τ a)) (hws : WS σ lst) (hln : lst.length < 290) : ZMv E 3 yX6_pushOperand cX6_pushOperand 8 [zrf E 31, ziv a, ziv b, ziv m, ziv x, ziv l, ziv z] σ (fun σ' => WS σ' (ypo τ z a b m x ++ lst) ∧ OnlyS σ σ') := by
  refine ZMv.intro (by decide) rfl (Nat.le_of_ble_eq_true rfl) (fun Γ C hN hret => ?_)
  show ZG E Γ 0 [some (zrf E 31), some (ziv a), some (ziv b), some (ziv m), some (ziv x), some (ziv l), some (ziv z), none] [] σ
  have hwo := ht.1
  have hw7 := ht.2.2.2.1
  have h16 := ht.n16
  have hq := ht.opz hb1
  have hyr := (YC_rg hw7 hwo hb1).1 0 0
  have hpr := xpi_rg hw7 hwo (a := a) (m := m) (x := x) hb1
  have hy9 := (YC_rg hw7 hwo hb1).2
  have hwl := hws.1
  refine z_aload_nZ (pc := 0) C dX6_pushOperand_0 rfl rfl ?_
  refine z_getR (pc := 1) C fX6_26 sh31 rfl dX6_pushOperand_1 ?_
  refine z_iload_n (pc := 4) C dX6_pushOperand_4 rfl rfl ?_
  refine z_iald (pc := 5) C sh37 (by (try unfold zRg at *); (try simp only [IX, IM] at *); omega) (by (try unfold zRg at *); (try simp only [IX, IM] at *); omega) dX6_pushOperand_5 ?_
  refine z_if_ge (pc := 6) C 19 (hR 37 _) dX6_pushOperand_6 rfl (fun c_6 => ?_) (fun c_6 => ?_)
  · have L56 : ∀ (t : Int), t = 0 ∨ t = 1 → t = zb (¬ (z ≠ 0 ∨ 1 + YC τ b 0 0 < xpi τ (YC τ) a b m x)) → ZG E Γ 56 [some (zrf E 31), some (ziv a), some (ziv b), some (ziv m), some (ziv x), some (ziv l), some (ziv z), none] [ziv t] σ := by
      intro t ht1 et
      refine z_istore (pc := 56) (lv' := [some (zrf E 31), some (ziv a), some (ziv b), some (ziv m), some (ziv x), some (ziv l), some (ziv z), some (ziv t)]) C hN dX6_pushOperand_56 (by decide) rfl ?_
      refine z_iload (pc := 58) C dX6_pushOperand_58 rfl ?_
      refine z_if_eq (pc := 60) C 76 (zRg01 ht1) dX6_pushOperand_60 rfl (fun c_60 => ?_) (fun c_60 => ?_)
      · refine z_aload_nZ (pc := 76) C dX6_pushOperand_76 rfl rfl ?_
        refine z_bipush (pc := 77) C dX6_pushOperand_77 (by decide) ?_
        refine z_bipush (pc := 79) C dX6_pushOperand_79 (by decide) ?_
        refine z_iconst (pc := 81) C dX6_pushOperand_81 ?_
        refine z_iconst (pc := 82) C dX6_pushOperand_82 ?_
        refine z_callVv (pc := 83) (rest := []) C (C_X6_push E σ hR (-10) (zRgL rfl) 41 (zRgL rfl) 0 (zRgL rfl) 0 (zRgL rfl) hI (by omega)) vX6_150 (by decide) sh31 rfl rfl rfl (Nat.le_of_ble_eq_true rfl) dX6_pushOperand_83 (fun σ_83 hR_83 hp_83 => ?_)
        have hw83 : WS σ_83 ((-10, 41, 0, 0) :: lst) := by rw [hp_83]; exact hws.push _ _ _ _
        have hI_83 : IM σ_83 := by rw [hp_83]; exact hI.oS (OnlyS.push _ _ _ _ _)
        have hlc : (((-10, 41, 0, 0) : Int × Int × Int × Int) :: lst).length = lst.length + 1 := rfl
        refine z_aload_nZ (pc := 86) C dX6_pushOperand_86 rfl rfl ?_
        refine z_iload_n (pc := 87) C dX6_pushOperand_87 rfl rfl ?_
        refine z_bipush (pc := 88) C dX6_pushOperand_88 (by decide) ?_
        refine z_iconst (pc := 90) C dX6_pushOperand_90 ?_
        refine z_iconst (pc := 91) C dX6_pushOperand_91 ?_
        refine z_callVv (pc := 92) (rest := []) C (C_X6_push E σ_83 hR_83 b hb (-10) (zRgL rfl) 0 (zRgL rfl) 0 (zRgL rfl) hI_83 (by have h9 := hw83.1; rw [hlc] at h9; omega)) vX6_150 (by decide) sh31 rfl rfl rfl (Nat.le_of_ble_eq_true rfl) dX6_pushOperand_92 (fun σ_92 hR_92 hp_92 => ?_)
        have hw92 : WS σ_92 ((b, -10, 0, 0) :: (-10, 41, 0, 0) :: lst) := by rw [hp_92]; exact hw83.push _ _ _ _
        have hI_92 : IM σ_92 := by rw [hp_92]; exact hI_83.oS (OnlyS.push _ _ _ _ _)
        have hlc2 : (((b, -10, 0, 0) : Int × Int × Int × Int) :: (-10, 41, 0, 0) :: lst).length = lst.length + 2 := rfl
        refine z_aload_nZ (pc := 95) C dX6_pushOperand_95 rfl rfl ?_
        refine z_bipush (pc := 96) C dX6_pushOperand_96 (by decide) ?_
        refine z_bipush (pc := 98) C dX6_pushOperand_98 (by decide) ?_
        refine z_iconst (pc := 100) C dX6_pushOperand_100 ?_
        refine z_iconst (pc := 101) C dX6_pushOperand_101 ?_
        refine z_callVv (pc := 102) (rest := []) C (C_X6_push E σ_92 hR_92 (-10) (zRgL rfl) 40 (zRgL rfl) 0 (zRgL rfl) 0 (zRgL rfl) hI_92 (by have h9 := hw92.1; rw [hlc2] at h9; omega)) vX6_150 (by decide) sh31 rfl rfl rfl (Nat.le_of_ble_eq_true rfl) dX6_pushOperand_102 (fun σ_102 hR_102 hp_102 => ?_)
        refine hret 105 _ _ dX6_pushOperand_105 hR_102 ?_
        unfold ypo
        rw [zif_neg (c := xnop τ 7 b = -1) (by omega)]
        by_cases hc9 : z ≠ 0 ∨ 1 + YC τ b 0 0 < xpi τ (YC τ) a b m x
        · first
          | (exfalso; have := zb1 et (by omega); contradiction)
          | (rw [zif_pos hc9, hp_102]; exact ⟨hw92.push _ _ _ _, ((by rw [hp_83]; exact OnlyS.push _ _ _ _ _ : OnlyS σ σ_83).trans (by rw [hp_92]; exact OnlyS.push _ _ _ _ _)).trans (OnlyS.push _ _ _ _ _)⟩)
        · first
          | (exfalso; have := zb0 et (by omega); contradiction)
          | (rw [zif_neg hc9, hp_70]; exact ⟨hws.push _ _ _ _, OnlyS.push _ _ _ _ _⟩)
      · refine z_aload_nZ (pc := 63) C dX6_pushOperand_63 rfl rfl ?_
        refine z_iload_n (pc := 64) C dX6_pushOperand_64 rfl rfl ?_
        refine z_bipush (pc := 65) C dX6_pushOperand_65 (by decide) ?_
        refine z_iload_n (pc := 67) C dX6_pushOperand_67 rfl rfl ?_
        refine z_iload (pc := 68) C dX6_pushOperand_68 rfl ?_
        refine z_callVv (pc := 70) (rest := []) C (C_X6_push E σ hR b hb (-10) (zRgL rfl) m hm x hx hI (by omega)) vX6_150 (by decide) sh31 rfl rfl rfl (Nat.le_of_ble_eq_true rfl) dX6_pushOperand_70 (fun σ_70 hR_70 hp_70 => ?_)
        refine z_goto (pc := 73) C 105 dX6_pushOperand_73 rfl ?_
        refine hret 105 _ _ dX6_pushOperand_105 hR_70 ?_
        unfold ypo
        rw [zif_neg (c := xnop τ 7 b = -1) (by omega)]
        by_cases hc9 : z ≠ 0 ∨ 1 + YC τ b 0 0 < xpi τ (YC τ) a b m x
        · first
          | (exfalso; have := zb1 et (by omega); contradiction)
          | (rw [zif_pos hc9, hp_102]; exact ⟨hw92.push _ _ _ _, ((by rw [hp_83]; exact OnlyS.push _ _ _ _ _ : OnlyS σ σ_83).trans (by rw [hp_92]; exact OnlyS.push _ _ _ _ _)).trans (OnlyS.push _ _ _ _ _)⟩)
        · first
          | (exfalso; have := zb0 et (by omega); contradiction)
          | (rw [zif_neg hc9, hp_70]; exact ⟨hws.push _ _ _ _, OnlyS.push _ _ _ _ _⟩)
    refine z_iload (pc := 19) C dX6_pushOperand_19 rfl ?_
    refine z_if_ne (pc := 21) C 55 (zRg01 hz) dX6_pushOperand_21 rfl (fun c_21 => ?_) (fun c_21 => ?_)
    · refine z_iconst (pc := 55) C dX6_pushOperand_55 ?_
      exact L56 _ (by omega) (by first | exact zb_one (fun q => by omega) | exact zb_zero (fun q => q (Or.inl (by omega))) | exact zb_zero (fun q => q (Or.inr (by omega))))
    · refine z_aload_nZ (pc := 24) C dX6_pushOperand_24 rfl rfl ?_
      refine z_iload_n (pc := 25) C dX6_pushOperand_25 rfl rfl ?_
      refine z_iload_n (pc := 26) C dX6_pushOperand_26 rfl rfl ?_
      refine z_iload_n (pc := 27) C dX6_pushOperand_27 rfl rfl ?_
      refine z_iload (pc := 28) C dX6_pushOperand_28 rfl ?_
      refine z_iload (pc := 30) C dX6_pushOperand_30 rfl ?_
      refine z_callVp (pc := 32) (rest := []) C (C_X6_bareCost E σ hR a ha b hb m hm x hx l hl τ hI ht ho hb1 (by omega) hmx hLY hlf) vX6_133 (by decide) sh31 rfl rfl rfl (Nat.le_of_ble_eq_true rfl) dX6_pushOperand_32 (fun r_32 g_32 hp_32 => ?_)
      refine z_iconst (pc := 35) C dX6_pushOperand_35 ?_
      refine z_aload_nZ (pc := 36) C dX6_pushOperand_36 rfl rfl ?_
      refine z_getR (pc := 37) C fX6_63 sh31 rfl dX6_pushOperand_37 ?_
      refine z_iload_n (pc := 40) C dX6_pushOperand_40 rfl rfl ?_
      refine z_iconst (pc := 41) C dX6_pushOperand_41 ?_
      refine z_iconst (pc := 42) C dX6_pushOperand_42 ?_
      refine z_callSp (pc := 43) (rest := [zrf E 46, ziv 1, ziv r_32]) C (C_X6_cell E σ hR b hb 0 (zRgL rfl) 0 (zRgL rfl) (by omega)) vX6_130 (by decide) rfl rfl (Nat.le_of_ble_eq_true rfl) dX6_pushOperand_43 (fun r_43 g_43 hp_43 => ?_)
      refine z_ialde (pc := 46) (v := YC τ b 0 0) C sh46 (by (try unfold zRg at *); (try simp only [IX, IM] at *); omega) (by (try unfold zRg at *); (try simp only [IX, IM] at *); omega) dX6_pushOperand_46 (hLY.get (by omega) ⟨by decide, by decide⟩ ⟨by decide, by decide⟩ hp_43 (by omega)) ?_
      refine z_iadd (pc := 47) C dX6_pushOperand_47 ?_
      refine z_icmp_gt (pc := 48) C 55 g_32 (by (try unfold zRg at *); (try simp only [IX, IM] at *); omega) dX6_pushOperand_48 rfl (fun c_48 => ?_) (fun c_48 => ?_)
      · refine z_iconst (pc := 55) C dX6_pushOperand_55 ?_
        exact L56 _ (by omega) (by first | exact zb_one (fun q => by omega) | exact zb_zero (fun q => q (Or.inl (by omega))) | exact zb_zero (fun q => q (Or.inr (by omega))))
      · refine z_iconst (pc := 51) C dX6_pushOperand_51 ?_
        refine z_goto (pc := 52) C 56 dX6_pushOperand_52 rfl ?_
        exact L56 _ (by omega) (by first | exact zb_one (fun q => by omega) | exact zb_zero (fun q => q (Or.inl (by omega))) | exact zb_zero (fun q => q (Or.inr (by omega))))
  · refine z_aload_nZ (pc := 9) C dX6_pushOperand_9 rfl rfl ?_
    refine z_iload_n (pc := 10) C dX6_pushOperand_10 rfl rfl ?_
    refine z_bipush (pc := 11) C dX6_pushOperand_11 (by decide) ?_
    refine z_iconst (pc := 13) C dX6_pushOperand_13 ?_
    refine z_iconst (pc := 14) C dX6_pushOperand_14 ?_
    refine z_callVv (pc := 15) (rest := []) C (C_X6_push E σ hR b hb (-10) (zRgL rfl) 0 (zRgL rfl) 0 (zRgL rfl) hI (by omega)) vX6_150 (by decide) sh31 rfl rfl rfl (Nat.le_of_ble_eq_true rfl) dX6_pushOperand_15 (fun σ_15 hR_15 hp_15 => ?_)
    refine hret 18 _ _ dX6_pushOperand_18 hR_15 ?_
    unfold ypo
    rw [zif_pos (by omega), hp_15]
    exact ⟨hws.push _ _ _ _, OnlyS.push _ _ _ _ _⟩
