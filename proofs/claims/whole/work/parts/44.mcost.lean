/-! ===== costs in the reference ===== -/
def TT (τ σ : ZSt) : Prop := WO τ ∧ SO τ σ ∧ SN τ σ ∧ W7 τ ∧ τ 7 5 ≤ 100
theorem TT.node {τ σ : ZSt} (t : TT τ σ) {v : Int} (hv : 0 ≤ v ∧ v < τ 7 5) : σ 37 v.toNat = zd (xnop τ 7 v) ∧ σ 38 v.toNat = zd (xnlet τ 7 v) ∧ σ 39 v.toNat = yfst (xnbef τ 7 v) (xnaft τ 7 v) ∧ σ 40 v.toNat = ysnd (xnbef τ 7 v) (xnaft τ 7 v) := by
  obtain ⟨-, -, ⟨-, s, -⟩, -, -⟩ := t
  have h := s v.toNat (by omega)
  obtain ⟨e1, e2, e3, e4, -⟩ := xn_in (τ := τ) (q := 7) hv
  rw [e1, e2, e3, e4]
  exact h
theorem TT.opz {τ σ : ZSt} (t : TT τ σ) {v : Int} (hv : 0 ≤ v ∧ v < τ 7 5) : (σ 37 v.toNat = -10 ∧ xnop τ 7 v = -1) ∨ (σ 37 v.toNat = xnop τ 7 v ∧ 0 ≤ xnop τ 7 v ∧ xnop τ 7 v < τ 1 5) := by
  rw [(t.node hv).1]
  unfold zd
  have h := (t.2.2.2.1.node hv).2.2.2.2
  split <;> omega
theorem TT.n16 {τ σ : ZSt} (t : TT τ σ) : τ 1 5 ≤ 16 ∧ σ 31 3 = τ 1 5 ∧ σ 31 11 = τ 7 5 ∧ τ 7 5 ≤ 100 := ⟨t.1.1.2, t.2.1.1, t.2.2.1.1, t.2.2.2.2⟩
theorem TT.op {τ σ : ZSt} (t : TT τ σ) {o : Int} (ho : 0 ≤ o ∧ o < τ 1 5) : σ 33 o.toNat = xkind τ o ∧ σ 34 o.toNat = xlev τ o ∧ σ 32 o.toNat = xsym τ o ∧ (xkind τ o = 0 → mright σ o = xmin τ o) := by
  obtain ⟨w, ⟨-, s2, s3, s4, s5, s6⟩, -⟩ := t
  rw [s2, s3, s4, xkind_in ho, xlev_in ho, xsym_in ho]
  refine ⟨rfl, rfl, rfl, fun hk => ?_⟩
  rw [xmin_in w ho]
  unfold mright
  rw [s4, s5]
  by_cases c : τ 5 (τ 4 o.toNat).toNat = 1
  · rw [if_pos c, if_neg (fun q => q.2 c)]
  · rw [if_neg c, if_pos ⟨hk, c⟩]
theorem TT.bar {τ σ : ZSt} (t : TT τ σ) {o i : Int} (ho : 0 ≤ o ∧ o < τ 1 5) (hi : 0 ≤ i ∧ i < τ 1 5) : mbar σ o i ↔ xfb τ o i := by
  obtain ⟨w, ⟨-, s2, s3, s4, s5, s6⟩, -⟩ := t
  unfold mbar xfb
  rw [s6, show 16 * o + i = o * 16 + i by omega]
  exact ⟨fun q => ⟨ho, hi, q.2⟩, fun q => ⟨hi.1, q.2.2⟩⟩
theorem TT.clash {τ σ : ZSt} (t : TT τ σ) {o i : Int} (ho : 0 ≤ o ∧ o < τ 1 5) (hi : 0 ≤ i ∧ i < τ 1 5) (hk : xkind τ o = 0) : mclash σ o i ↔ xna τ o i := by
  have hl := (t.1.lev ho).2.2.2.1
  unfold mclash xna
  rw [(t.op ho).2.1, (t.op hi).1, (t.op hi).2.1, t.2.1.2.2.2.2.1]
  unfold xasc
  rw [if_pos hl]
  exact ⟨fun q => ⟨hk, q.2⟩, fun q => ⟨hi.1, q.2⟩⟩
def LY (τ ρ : ZSt) (t : Int) : Prop := ∀ u m x : Nat, m ≤ 10 → x ≤ 10 → ((121 * u + 11 * m + x : Nat) : Int) < t → ρ 46 (121 * u + 11 * m + x) = YC τ u m x
theorem LY.get {τ ρ : ZSt} {t : Int} (h : LY τ ρ t) {u m x r : Int} (hu : 0 ≤ u) (hm : 0 ≤ m ∧ m ≤ 10) (hx : 0 ≤ x ∧ x ≤ 10) (hr : r = 121 * u + 11 * m + x) (hl : r < t) : ρ 46 r.toNat = YC τ u m x := by
  have := h u.toNat m.toNat x.toNat (by omega) (by omega) (by omega)
  rw [show ((u.toNat : Nat) : Int) = u by omega, show ((m.toNat : Nat) : Int) = m by omega, show ((x.toNat : Nat) : Int) = x by omega] at this
  rw [← this]
  congr 1
  omega
theorem LY.mono {τ ρ : ZSt} {t s : Int} (h : LY τ ρ t) (hs : s ≤ t) : LY τ ρ s := fun u m x hm hx hl => h u m x hm hx (by omega)
theorem LY.st {τ ρ : ZSt} {u m x r : Int} (h : LY τ ρ (121 * u + 11 * m + x)) (hu : 0 ≤ u) (hm : 0 ≤ m ∧ m ≤ 10) (hx : 0 ≤ x ∧ x ≤ 10) (hr : r = 121 * u + 11 * m + x) : LY τ (zup ρ 46 r.toNat (YC τ u m x)) (121 * u + 11 * m + (x + 1)) := by
  intro a b c hb hc hl
  by_cases e : ((121 * a + 11 * b + c : Nat) : Int) = r
  · have e1 : (a : Int) = u := by omega
    have e2 : (b : Int) = m := by omega
    have e3 : (c : Int) = x := by omega
    rw [show r.toNat = 121 * a + 11 * b + c by omega, zup_same, e1, e2, e3]
  · rw [zup_place (by omega)]
    exact h a b c hb hc (by omega)
theorem bare_yes {τ σ : ZSt} (t : TT τ σ) {a b m x l : Int} (ho : 0 ≤ a ∧ a < τ 1 5) (hb : 0 ≤ b ∧ b < τ 7 5) (hop : 0 ≤ xnop τ 7 b ∧ xnop τ 7 b < τ 1 5) (hlf : l = 1 ∨ (xkind τ a = 0 → m = xmin τ a)) (h : ¬ xfb τ a (xnop τ 7 b) ∧ ¬ (l = 1 ∧ xna τ a (xnop τ 7 b))) : YC τ b m x = xpi τ (YC τ) a b m x := by
  unfold xpi
  by_cases c : xna τ a (xnop τ 7 b)
  · rw [zif_pos (Or.inr c)]
    obtain ⟨c1, c2, c3, c4⟩ := id c
    have hm := hlf.resolve_left (fun q => h.2 ⟨q, c⟩) c1
    have hl := (t.1.lev ho).2.2.2.2.2.2 c1 c4
    rw [YC_eq t.2.2.2.1 hb, zif_neg (by omega), zif_neg]
    rintro ⟨q1, -⟩
    omega
  · rw [zif_neg (fun q => q.elim h.1 c)]
theorem bare_no {τ : ZSt} {a b m x l : Int} (h : ¬ (¬ xfb τ a (xnop τ 7 b) ∧ ¬ (l = 1 ∧ xna τ a (xnop τ 7 b)))) : 1000 = xpi τ (YC τ) a b m x := by
  unfold xpi
  rw [zif_pos]
  by_cases c : xfb τ a (xnop τ 7 b)
  · exact Or.inl c
  · by_cases d : xna τ a (xnop τ 7 b)
    · exact Or.inr d
    · exact absurd ⟨c, fun q => d q.2⟩ h
theorem xpi_rg {τ : ZSt} (w : W7 τ) (wo : WO τ) {a b m x : Int} (hb : 0 ≤ b ∧ b < τ 7 5) : 0 ≤ xpi τ (YC τ) a b m x ∧ xpi τ (YC τ) a b m x ≤ 1000 := by
  unfold xpi
  by_cases c : xfb τ a (xnop τ 7 b) ∨ xna τ a (xnop τ 7 b)
  · rw [zif_pos c]; decide
  · rw [zif_neg c]; exact (YC_rg w wo hb).1 m x
theorem yo_none {τ : ZSt} {f : Int → Int → Int → Int} {o a m x : Int} (h : a = -1) : yo τ f o a m x = 0 := by
  unfold yo
  rw [zif_pos (xn_none h).1]

set_option maxRecDepth 20000 in
theorem C_X6_cell (E : ZE) (σ : ZSt) (hR : zRs σ) (a : Int) (ha : zRg a) (b : Int) (hb : zRg b) (c : Int) (hc : zRg c) (hbd : (0 ≤ a ∧ a < 100) ∧ (0 ≤ b ∧ b ≤ 10) ∧ (0 ≤ c ∧ c ≤ 10)) : ZMi E 0 yX6_cell cX6_cell 3 (some .int) [ziv a, ziv b, ziv c] σ (fun r σ' => (r = 121 * a + 11 * b + c) ∧ σ' = σ) := by
  refine ZMi.intro (by decide) rfl (Nat.le_of_ble_eq_true rfl) (fun Γ C hN hret => ?_)
  show ZG E Γ 0 [some (ziv a), some (ziv b), some (ziv c)] [] σ
  refine z_bipush (pc := 0) C dX6_cell_0 (by decide) ?_
  refine z_iload_n (pc := 2) C dX6_cell_2 rfl rfl ?_
  refine z_imul (pc := 3) C dX6_cell_3 ?_
  refine z_bipush (pc := 4) C dX6_cell_4 (by decide) ?_
  refine z_iload_n (pc := 6) C dX6_cell_6 rfl rfl ?_
  refine z_imul (pc := 7) C dX6_cell_7 ?_
  refine z_iadd (pc := 8) C dX6_cell_8 ?_
  refine z_iload_n (pc := 9) C dX6_cell_9 rfl rfl ?_
  refine z_iadd (pc := 10) C dX6_cell_10 ?_
  refine hret 11 _ _ _ dX6_cell_11 (by (try unfold zRg at *); (try simp only [IX, IM] at *); omega) hR ?_
  exact ⟨by (first | rfl | omega | (split <;> first | rfl | omega) | (simp_all; done) | (split <;> split <;> first | rfl | omega) | grind), rfl⟩
set_option maxRecDepth 20000 in
theorem C_X6_mayBeBare (E : ZE) (σ : ZSt) (hR : zRs σ) (a : Int) (ha : zRg a) (b : Int) (hb : zRg b) (l : Int) (hl : l = 0 ∨ l = 1) (τ : ZSt) (hI : IM σ) (ht : TT τ σ) (ho : 0 ≤ a ∧ a < τ 1 5) (hb1 : 0 ≤ b ∧ b < τ 7 5) (hop : xnop τ 7 b ≠ -1) : ZMi E 1 yX6_mayBeBare cX6_mayBeBare 5 (some .boolean) [zrf E 31, ziv a, ziv b, ziv l] σ (fun r σ' => (r = zb (¬ xfb τ a (xnop τ 7 b) ∧ ¬ (l = 1 ∧ xna τ a (xnop τ 7 b)))) ∧ σ' = σ) := by
  refine ZMi.introZ (by decide) rfl (Nat.le_of_ble_eq_true rfl) (fun Γ C hN hret => ?_)
  show ZG E Γ 0 [some (zrf E 31), some (ziv a), some (ziv b), some (ziv l), none] [] σ
  have hwo := ht.1
  have hw7 := ht.2.2.2.1
  have h16 := ht.n16
  have hq := ht.opz hb1
  have hq2 : 0 ≤ xnop τ 7 b ∧ xnop τ 7 b < τ 1 5 := by omega
  refine z_aload_nZ (pc := 0) C dX6_mayBeBare_0 rfl rfl ?_
  refine z_getR (pc := 1) C fX6_26 sh31 rfl dX6_mayBeBare_1 ?_
  refine z_iload_n (pc := 4) C dX6_mayBeBare_4 rfl rfl ?_
  refine z_ialde (pc := 5) (v := xnop τ 7 b) C sh37 (by (try unfold zRg at *); (try simp only [IX, IM] at *); omega) (by (try unfold zRg at *); (try simp only [IX, IM] at *); omega) dX6_mayBeBare_5 (by omega) ?_
  refine z_istore (pc := 6) (lv' := [some (zrf E 31), some (ziv a), some (ziv b), some (ziv l), some (ziv (xnop τ 7 b))]) C hN dX6_mayBeBare_6 (by decide) rfl ?_
  refine z_aload_nZ (pc := 8) C dX6_mayBeBare_8 rfl rfl ?_
  refine z_iload_n (pc := 9) C dX6_mayBeBare_9 rfl rfl ?_
  refine z_iload (pc := 10) C dX6_mayBeBare_10 rfl ?_
  refine z_callVp (pc := 12) (rest := []) C (C_X6_isBarred E σ hR a ha (xnop τ 7 b) (by unfold zRg; omega) hI (by omega) (by omega)) vX6_119 (by decide) sh31 rfl rfl rfl (Nat.le_of_ble_eq_true rfl) dX6_mayBeBare_12 (fun r_12 g_12 hp_12 => ?_)
  refine z_if_ne (pc := 15) C 45 g_12 dX6_mayBeBare_15 rfl (fun c_15 => ?_) (fun c_15 => ?_)
  · have c_15 := zb1 hp_12 c_15
    refine z_iconst (pc := 45) C dX6_mayBeBare_45 ?_
    refine hret 46 _ _ _ dX6_mayBeBare_46 (Or.inl rfl) hR ?_
    refine ⟨?_, rfl⟩
    first
    | exact zb_one ⟨fun q => c_15 ((ht.bar ho hq2).mpr q), fun q => by omega⟩
    | exact zb_one ⟨fun q => c_15 ((ht.bar ho hq2).mpr q), fun q => absurd q.2.1 (by omega)⟩
    | exact zb_one ⟨fun q => c_15 ((ht.bar ho hq2).mpr q), fun q => c_38 ((ht.clash ho hq2 (by omega)).mpr q.2)⟩
    | exact zb_zero (fun q => q.1 ((ht.bar ho hq2).mp c_15))
    | exact zb_zero (fun q => q.2 ⟨by omega, (ht.clash ho hq2 (by omega)).mp c_38⟩)
  · have c_15 := zb0 hp_12 c_15
    refine z_iload_n (pc := 18) C dX6_mayBeBare_18 rfl rfl ?_
    refine z_if_eq (pc := 19) C 41 (zRg01 hl) dX6_mayBeBare_19 rfl (fun c_19 => ?_) (fun c_19 => ?_)
    · refine z_iconst (pc := 41) C dX6_mayBeBare_41 ?_
      refine z_goto (pc := 42) C 46 dX6_mayBeBare_42 rfl ?_
      refine hret 46 _ _ _ dX6_mayBeBare_46 (Or.inr rfl) hR ?_
      refine ⟨?_, rfl⟩
      first
      | exact zb_one ⟨fun q => c_15 ((ht.bar ho hq2).mpr q), fun q => by omega⟩
      | exact zb_one ⟨fun q => c_15 ((ht.bar ho hq2).mpr q), fun q => absurd q.2.1 (by omega)⟩
      | exact zb_one ⟨fun q => c_15 ((ht.bar ho hq2).mpr q), fun q => c_38 ((ht.clash ho hq2 (by omega)).mpr q.2)⟩
      | exact zb_zero (fun q => q.1 ((ht.bar ho hq2).mp c_15))
      | exact zb_zero (fun q => q.2 ⟨by omega, (ht.clash ho hq2 (by omega)).mp c_38⟩)
    · refine z_aload_nZ (pc := 22) C dX6_mayBeBare_22 rfl rfl ?_
      refine z_getR (pc := 23) C fX6_13 sh31 rfl dX6_mayBeBare_23 ?_
      refine z_iload_n (pc := 26) C dX6_mayBeBare_26 rfl rfl ?_
      refine z_ialde (pc := 27) (v := xkind τ a) C sh33 (by (try unfold zRg at *); (try simp only [IX, IM] at *); omega) (by (try unfold zRg at *); (try simp only [IX, IM] at *); omega) dX6_mayBeBare_27 (ht.op ho).1 ?_
      refine z_if_ne (pc := 28) C 41 (by rw [← (ht.op ho).1]; exact hR 33 _) dX6_mayBeBare_28 rfl (fun c_28 => ?_) (fun c_28 => ?_)
      · refine z_iconst (pc := 41) C dX6_mayBeBare_41 ?_
        refine z_goto (pc := 42) C 46 dX6_mayBeBare_42 rfl ?_
        refine hret 46 _ _ _ dX6_mayBeBare_46 (Or.inr rfl) hR ?_
        refine ⟨?_, rfl⟩
        first
        | exact zb_one ⟨fun q => c_15 ((ht.bar ho hq2).mpr q), fun q => by omega⟩
        | exact zb_one ⟨fun q => c_15 ((ht.bar ho hq2).mpr q), fun q => absurd q.2.1 (by omega)⟩
        | exact zb_one ⟨fun q => c_15 ((ht.bar ho hq2).mpr q), fun q => c_38 ((ht.clash ho hq2 (by omega)).mpr q.2)⟩
        | exact zb_zero (fun q => q.1 ((ht.bar ho hq2).mp c_15))
        | exact zb_zero (fun q => q.2 ⟨by omega, (ht.clash ho hq2 (by omega)).mp c_38⟩)
      · refine z_aload_nZ (pc := 31) C dX6_mayBeBare_31 rfl rfl ?_
        refine z_iload_n (pc := 32) C dX6_mayBeBare_32 rfl rfl ?_
        refine z_iload (pc := 33) C dX6_mayBeBare_33 rfl ?_
        refine z_callVp (pc := 35) (rest := []) C (C_X6_isClash E σ hR a ha (xnop τ 7 b) (by unfold zRg; omega) hI (by omega) (by omega)) vX6_123 (by decide) sh31 rfl rfl rfl (Nat.le_of_ble_eq_true rfl) dX6_mayBeBare_35 (fun r_35 g_35 hp_35 => ?_)
        refine z_if_ne (pc := 38) C 45 g_35 dX6_mayBeBare_38 rfl (fun c_38 => ?_) (fun c_38 => ?_)
        · have c_38 := zb1 hp_35 c_38
          refine z_iconst (pc := 45) C dX6_mayBeBare_45 ?_
          refine hret 46 _ _ _ dX6_mayBeBare_46 (Or.inl rfl) hR ?_
          refine ⟨?_, rfl⟩
          first
          | exact zb_one ⟨fun q => c_15 ((ht.bar ho hq2).mpr q), fun q => by omega⟩
          | exact zb_one ⟨fun q => c_15 ((ht.bar ho hq2).mpr q), fun q => absurd q.2.1 (by omega)⟩
          | exact zb_one ⟨fun q => c_15 ((ht.bar ho hq2).mpr q), fun q => c_38 ((ht.clash ho hq2 (by omega)).mpr q.2)⟩
          | exact zb_zero (fun q => q.1 ((ht.bar ho hq2).mp c_15))
          | exact zb_zero (fun q => q.2 ⟨by omega, (ht.clash ho hq2 (by omega)).mp c_38⟩)
        · have c_38 := zb0 hp_35 c_38
          refine z_iconst (pc := 41) C dX6_mayBeBare_41 ?_
          refine z_goto (pc := 42) C 46 dX6_mayBeBare_42 rfl ?_
          refine hret 46 _ _ _ dX6_mayBeBare_46 (Or.inr rfl) hR ?_
          refine ⟨?_, rfl⟩
          first
          | exact zb_one ⟨fun q => c_15 ((ht.bar ho hq2).mpr q), fun q => by omega⟩
          | exact zb_one ⟨fun q => c_15 ((ht.bar ho hq2).mpr q), fun q => absurd q.2.1 (by omega)⟩
          | exact zb_one ⟨fun q => c_15 ((ht.bar ho hq2).mpr q), fun q => c_38 ((ht.clash ho hq2 (by omega)).mpr q.2)⟩
          | exact zb_zero (fun q => q.1 ((ht.bar ho hq2).mp c_15))
          | exact zb_zero (fun q => q.2 ⟨by omega, (ht.clash ho hq2 (by omega)).mp c_38⟩)
set_option maxRecDepth 20000 in
theorem C_X6_bareCost (E : ZE) (σ : ZSt) (hR : zRs σ) (a : Int) (ha : zRg a) (b : Int) (hb : zRg b) (m : Int) (hm : zRg m) (x : Int) (hx : zRg x) (l : Int) (hl : l = 0 ∨ l = 1) (τ : ZSt) (hI : IM σ) (ht : TT τ σ) (ho : 0 ≤ a ∧ a < τ 1 5) (hb1 : 0 ≤ b ∧ b < τ 7 5) (hop : xnop τ 7 b ≠ -1) (hmx : (0 ≤ m ∧ m ≤ 10) ∧ (0 ≤ x ∧ x ≤ 10)) (hLY : LY τ σ (121 * (b + 1))) (hlf : l = 1 ∨ (xkind τ a = 0 → m = xmin τ a)) : ZMi E 2 yX6_bareCost cX6_bareCost 6 (some .int) [zrf E 31, ziv a, ziv b, ziv m, ziv x, ziv l] σ (fun r σ' => (r = xpi τ (YC τ) a b m x) ∧ σ' = σ) := by
  refine ZMi.intro (by decide) rfl (Nat.le_of_ble_eq_true rfl) (fun Γ C hN hret => ?_)
  show ZG E Γ 0 [some (zrf E 31), some (ziv a), some (ziv b), some (ziv m), some (ziv x), some (ziv l)] [] σ
  have hwo := ht.1
  have hw7 := ht.2.2.2.1
  have h16 := ht.n16
  have hq := ht.opz hb1
  have hyr := (YC_rg hw7 hwo hb1).1 m x
  refine z_aload_nZ (pc := 0) C dX6_bareCost_0 rfl rfl ?_
  refine z_iload_n (pc := 1) C dX6_bareCost_1 rfl rfl ?_
  refine z_iload_n (pc := 2) C dX6_bareCost_2 rfl rfl ?_
  refine z_iload (pc := 3) C dX6_bareCost_3 rfl ?_
  refine z_callVp (pc := 5) (rest := []) C (C_X6_mayBeBare E σ hR a ha b hb l hl τ hI ht ho hb1 hop) vX6_126 (by decide) sh31 rfl rfl rfl (Nat.le_of_ble_eq_true rfl) dX6_bareCost_5 (fun r_5 g_5 hp_5 => ?_)
  refine z_if_eq (pc := 8) C 26 g_5 dX6_bareCost_8 rfl (fun c_8 => ?_) (fun c_8 => ?_)
  · have c_8 := zb0 hp_5 c_8
    refine z_sipush (pc := 26) C dX6_bareCost_26 (by decide) ?_
    refine hret 29 _ _ _ dX6_bareCost_29 (zRgL rfl) hR ?_
    refine ⟨?_, rfl⟩
    first
    | exact bare_yes ht ho hb1 (by omega) hlf c_8
    | exact bare_no c_8
  · have c_8 := zb1 hp_5 c_8
    refine z_aload_nZ (pc := 11) C dX6_bareCost_11 rfl rfl ?_
    refine z_getR (pc := 12) C fX6_63 sh31 rfl dX6_bareCost_12 ?_
    refine z_iload_n (pc := 15) C dX6_bareCost_15 rfl rfl ?_
    refine z_iload_n (pc := 16) C dX6_bareCost_16 rfl rfl ?_
    refine z_iload (pc := 17) C dX6_bareCost_17 rfl ?_
    refine z_callSp (pc := 19) (rest := [zrf E 46]) C (C_X6_cell E σ hR b hb m hm x hx (by omega)) vX6_130 (by decide) rfl rfl (Nat.le_of_ble_eq_true rfl) dX6_bareCost_19 (fun r_19 g_19 hp_19 => ?_)
    refine z_ialde (pc := 22) (v := YC τ b m x) C sh46 (by (try unfold zRg at *); (try simp only [IX, IM] at *); omega) (by (try unfold zRg at *); (try simp only [IX, IM] at *); omega) dX6_bareCost_22 (hLY.get (by omega) hmx.1 hmx.2 hp_19 (by omega)) ?_
    refine z_goto (pc := 23) C 29 dX6_bareCost_23 rfl ?_
    refine hret 29 _ _ _ dX6_bareCost_29 (by unfold zRg; omega) hR ?_
    refine ⟨?_, rfl⟩
    first
    | exact bare_yes ht ho hb1 (by omega) hlf c_8
    | exact bare_no c_8
set_option maxRecDepth 20000 in
theorem C_X6_operandCost (E : ZE) (σ : ZSt) (hR : zRs σ) (a : Int) (ha : zRg a) (b : Int) (hb : zRg b) (m : Int) (hm : zRg m) (x : Int) (hx : zRg x) (l : Int) (hl : l = 0 ∨ l = 1) (τ : ZSt) (hI : IM σ) (ht : TT τ σ) (ho : 0 ≤ a ∧ a < τ 1 5) (hb1 : 0 ≤ b ∧ b < τ 7 5) (hmx : (0 ≤ m ∧ m ≤ 10) ∧ (0 ≤ x ∧ x ≤ 10)) (hLY : LY τ σ (121 * (b + 1))) (hlf : l = 1 ∨ (xkind τ a = 0 → m = xmin τ a)) : ZMi E 3 yX6_operandCost cX6_operandCost 8 (some .int) [zrf E 31, ziv a, ziv b, ziv m, ziv x, ziv l] σ (fun r σ' => (r = yo τ (YC τ) a b m x) ∧ σ' = σ) := by
  refine ZMi.intro (by decide) rfl (Nat.le_of_ble_eq_true rfl) (fun Γ C hN hret => ?_)
  show ZG E Γ 0 [some (zrf E 31), some (ziv a), some (ziv b), some (ziv m), some (ziv x), some (ziv l), none, none] [] σ
  have hwo := ht.1
  have hw7 := ht.2.2.2.1
  have h16 := ht.n16
  have hq := ht.opz hb1
  have hyr := (YC_rg hw7 hwo hb1).1 0 0
  have hpr := xpi_rg hw7 hwo (a := a) (m := m) (x := x) hb1
  have hy9 := (YC_rg hw7 hwo hb1).2
  refine z_aload_nZ (pc := 0) C dX6_operandCost_0 rfl rfl ?_
  refine z_getR (pc := 1) C fX6_26 sh31 rfl dX6_operandCost_1 ?_
  refine z_iload_n (pc := 4) C dX6_operandCost_4 rfl rfl ?_
  refine z_iald (pc := 5) C sh37 (by (try unfold zRg at *); (try simp only [IX, IM] at *); omega) (by (try unfold zRg at *); (try simp only [IX, IM] at *); omega) dX6_operandCost_5 ?_
  refine z_if_ge (pc := 6) C 11 (hR 37 _) dX6_operandCost_6 rfl (fun c_6 => ?_) (fun c_6 => ?_)
  · refine z_aload_nZ (pc := 11) C dX6_operandCost_11 rfl rfl ?_
    refine z_iload_n (pc := 12) C dX6_operandCost_12 rfl rfl ?_
    refine z_iload_n (pc := 13) C dX6_operandCost_13 rfl rfl ?_
    refine z_iload_n (pc := 14) C dX6_operandCost_14 rfl rfl ?_
    refine z_iload (pc := 15) C dX6_operandCost_15 rfl ?_
    refine z_iload (pc := 17) C dX6_operandCost_17 rfl ?_
    refine z_callVp (pc := 19) (rest := []) C (C_X6_bareCost E σ hR a ha b hb m hm x hx l hl τ hI ht ho hb1 (by omega) hmx hLY hlf) vX6_133 (by decide) sh31 rfl rfl rfl (Nat.le_of_ble_eq_true rfl) dX6_operandCost_19 (fun r_19 g_19 hp_19 => ?_)
    refine z_istore (pc := 22) (lv' := [some (zrf E 31), some (ziv a), some (ziv b), some (ziv m), some (ziv x), some (ziv l), some (ziv r_19), none]) C hN dX6_operandCost_22 (by decide) rfl ?_
    refine z_iconst (pc := 24) C dX6_operandCost_24 ?_
    refine z_aload_nZ (pc := 25) C dX6_operandCost_25 rfl rfl ?_
    refine z_getR (pc := 26) C fX6_63 sh31 rfl dX6_operandCost_26 ?_
    refine z_iload_n (pc := 29) C dX6_operandCost_29 rfl rfl ?_
    refine z_iconst (pc := 30) C dX6_operandCost_30 ?_
    refine z_iconst (pc := 31) C dX6_operandCost_31 ?_
    refine z_callSp (pc := 32) (rest := [zrf E 46, ziv 1]) C (C_X6_cell E σ hR b hb 0 (zRgL rfl) 0 (zRgL rfl) (by omega)) vX6_130 (by decide) rfl rfl (Nat.le_of_ble_eq_true rfl) dX6_operandCost_32 (fun r_32 g_32 hp_32 => ?_)
    refine z_ialde (pc := 35) (v := YC τ b 0 0) C sh46 (by (try unfold zRg at *); (try simp only [IX, IM] at *); omega) (by (try unfold zRg at *); (try simp only [IX, IM] at *); omega) dX6_operandCost_35 (hLY.get (by omega) ⟨by decide, by decide⟩ ⟨by decide, by decide⟩ hp_32 (by omega)) ?_
    refine z_iadd (pc := 36) C dX6_operandCost_36 ?_
    refine z_istore (pc := 37) (lv' := [some (zrf E 31), some (ziv a), some (ziv b), some (ziv m), some (ziv x), some (ziv l), some (ziv r_19), some (ziv (1 + (YC τ b 0 0)))]) C hN dX6_operandCost_37 (by decide) rfl ?_
    refine z_iload (pc := 39) C dX6_operandCost_39 rfl ?_
    refine z_iload (pc := 41) C dX6_operandCost_41 rfl ?_
    refine z_icmp_ge (pc := 43) C 51 g_19 (by (try unfold zRg at *); (try simp only [IX, IM] at *); omega) dX6_operandCost_43 rfl (fun c_43 => ?_) (fun c_43 => ?_)
    · refine z_iload (pc := 51) C dX6_operandCost_51 rfl ?_
      refine hret 53 _ _ _ dX6_operandCost_53 (by (try unfold zRg at *); (try simp only [IX, IM] at *); omega) hR ?_
      refine ⟨?_, rfl⟩
      unfold yo
      rw [zif_neg (by omega)]
      omega
    · refine z_iload (pc := 46) C dX6_operandCost_46 rfl ?_
      refine z_goto (pc := 48) C 53 dX6_operandCost_48 rfl ?_
      refine hret 53 _ _ _ dX6_operandCost_53 g_19 hR ?_
      refine ⟨?_, rfl⟩
      unfold yo
      rw [zif_neg (by omega)]
      omega
  · refine z_iconst (pc := 9) C dX6_operandCost_9 ?_
    refine hret 10 _ _ _ dX6_operandCost_10 (zRgL rfl) hR ?_
    exact ⟨by unfold yo; rw [zif_pos (by omega)], rfl⟩
theorem YC_leaf {τ : ZSt} (w : W7 τ) {b m x : Int} (hb : 0 ≤ b ∧ b < τ 7 5) (h : xnop τ 7 b = -1) : 0 = YC τ b m x := by rw [YC_eq w hb, zif_pos h]
theorem YC_no {τ : ZSt} (w : W7 τ) {b m x : Int} (hb : 0 ≤ b ∧ b < τ 7 5) (h : xnop τ 7 b ≠ -1) (c : ¬ xrw τ (xnop τ 7 b) m x) : 1000 = YC τ b m x := by rw [YC_eq w hb, zif_neg h, zif_neg c]
theorem YC_yes {τ : ZSt} (w : W7 τ) {b m x : Int} (hb : 0 ≤ b ∧ b < τ 7 5) (h : xnop τ 7 b ≠ -1) (c : xrw τ (xnop τ 7 b) m x) : YC τ b m x = yo τ (YC τ) (xnop τ 7 b) (xnbef τ 7 b) m (xlev τ (xnop τ 7 b)) + yo τ (YC τ) (xnop τ 7 b) (xnaft τ 7 b) (xmin τ (xnop τ 7 b)) x := by rw [YC_eq w hb, zif_neg h, zif_pos c]
theorem TT.kids {τ σ : ZSt} (t : TT τ σ) {v : Int} (hv : 0 ≤ v ∧ v < τ 7 5) (hop : xnop τ 7 v ≠ -1) : (xkind τ (xnop τ 7 v) = 1 ∧ σ 39 v.toNat = xnaft τ 7 v ∧ xnbef τ 7 v = -1 ∧ (0 ≤ xnaft τ 7 v ∧ xnaft τ 7 v < v)) ∨ (xkind τ (xnop τ 7 v) = 2 ∧ σ 39 v.toNat = xnbef τ 7 v ∧ xnaft τ 7 v = -1 ∧ (0 ≤ xnbef τ 7 v ∧ xnbef τ 7 v < v)) ∨ (xkind τ (xnop τ 7 v) = 0 ∧ σ 39 v.toNat = xnbef τ 7 v ∧ σ 40 v.toNat = xnaft τ 7 v ∧ (0 ≤ xnbef τ 7 v ∧ xnbef τ 7 v < v) ∧ (0 ≤ xnaft τ 7 v ∧ xnaft τ 7 v < v)) := by
  obtain ⟨-, -, e3, e4⟩ := t.node hv
  obtain ⟨-, -, l1, l2, l3⟩ := t.2.2.2.1.node hv
  rw [e3, e4]
  rcases l3 with ⟨q, -⟩ | ⟨-, ⟨q1, q2, q3⟩ | ⟨q1, q2, q3⟩ | ⟨q1, q2, q3⟩⟩
  · exact absurd q hop
  · right; right
    unfold yfst ysnd zd
    rw [if_neg q2, if_neg q2, if_neg q3]
    exact ⟨q1, rfl, rfl, by omega, by omega⟩
  · left
    unfold yfst zd
    rw [if_pos q2, if_neg q3]
    exact ⟨q1, rfl, q2, by omega⟩
  · right; left
    unfold yfst
    rw [if_neg q2]
    exact ⟨q1, rfl, q3, by omega⟩

set_option maxRecDepth 20000 in
theorem C_X6_costOf (E : ZE) (σ : ZSt) (hR : zRs σ) (b : Int) (hb : zRg b) (m : Int) (hm : zRg m) (x : Int) (hx : zRg x) (τ : ZSt) (hI : IM σ) (ht : TT τ σ) (hb1 : 0 ≤ b ∧ b < τ 7 5) (hmx : (0 ≤ m ∧ m ≤ 10) ∧ (0 ≤ x ∧ x ≤ 10)) (hLY : LY τ σ (121 * b)) : ZMi E 4 yX6_costOf cX6_costOf 7 (some .int) [zrf E 31, ziv b, ziv m, ziv x] σ (fun r σ' => (r = YC τ b m x) ∧ σ' = σ) := by
  refine ZMi.intro (by decide) rfl (Nat.le_of_ble_eq_true rfl) (fun Γ C hN hret => ?_)
  show ZG E Γ 0 [some (zrf E 31), some (ziv b), some (ziv m), some (ziv x), none, none, none] [] σ
  have hwo := ht.1
  have hw7 := ht.2.2.2.1
  have h16 := ht.n16
  have hq := ht.opz hb1
  refine z_aload_nZ (pc := 0) C dX6_costOf_0 rfl rfl ?_
  refine z_getR (pc := 1) C fX6_26 sh31 rfl dX6_costOf_1 ?_
  refine z_iload_n (pc := 4) C dX6_costOf_4 rfl rfl ?_
  refine z_iald (pc := 5) C sh37 (by (try unfold zRg at *); (try simp only [IX, IM] at *); omega) (by (try unfold zRg at *); (try simp only [IX, IM] at *); omega) dX6_costOf_5 ?_
  refine z_istore (pc := 6) (lv' := [some (zrf E 31), some (ziv b), some (ziv m), some (ziv x), some (ziv (σ 37 b.toNat)), none, none]) C hN dX6_costOf_6 (by decide) rfl ?_
  refine z_iload (pc := 8) C dX6_costOf_8 rfl ?_
  refine z_if_ge (pc := 10) C 15 (hR 37 _) dX6_costOf_10 rfl (fun c_10 => ?_) (fun c_10 => ?_)
  · have hop : σ 37 b.toNat = xnop τ 7 b := by omega
    have hne : xnop τ 7 b ≠ -1 := by omega
    have hq2 : 0 ≤ xnop τ 7 b ∧ xnop τ 7 b < τ 1 5 := by omega
    have hlv := hwo.lev hq2
    have hkd := ht.kids hb1 hne
    have hopp := ht.op hq2
    refine z_aload_nZ (pc := 15) C dX6_costOf_15 rfl rfl ?_
    refine z_getR (pc := 16) C fX6_13 sh31 rfl dX6_costOf_16 ?_
    refine z_iload (pc := 19) C dX6_costOf_19 rfl ?_
    refine z_ialde (pc := 21) (v := xkind τ (xnop τ 7 b)) C sh33 (by (try unfold zRg at *); (try simp only [IX, IM] at *); omega) (by (try unfold zRg at *); (try simp only [IX, IM] at *); omega) dX6_costOf_21 (by rw [hop]; exact hopp.1) ?_
    refine z_iconst (pc := 22) C dX6_costOf_22 ?_
    refine z_icmp_ne (pc := 23) C 65 (by rw [← hopp.1]; exact hR 33 _) (zRgL rfl) dX6_costOf_23 rfl (fun c_23 => ?_) (fun c_23 => ?_)
    · refine z_aload_nZ (pc := 65) C dX6_costOf_65 rfl rfl ?_
      refine z_getR (pc := 66) C fX6_16 sh31 rfl dX6_costOf_66 ?_
      refine z_iload (pc := 69) C dX6_costOf_69 rfl ?_
      refine z_ialde (pc := 71) (v := xlev τ (xnop τ 7 b)) C sh34 (by (try unfold zRg at *); (try simp only [IX, IM] at *); omega) (by (try unfold zRg at *); (try simp only [IX, IM] at *); omega) dX6_costOf_71 (by rw [hop]; exact hopp.2.1) ?_
      refine z_iload_n (pc := 72) C dX6_costOf_72 rfl rfl ?_
      refine z_icmp_ge (pc := 73) C 80 (by unfold zRg; omega) hm dX6_costOf_73 rfl (fun c_73 => ?_) (fun c_73 => ?_)
      · refine z_aload_nZ (pc := 80) C dX6_costOf_80 rfl rfl ?_
        refine z_iload (pc := 81) C dX6_costOf_81 rfl ?_
        refine z_aload_nZ (pc := 83) C dX6_costOf_83 rfl rfl ?_
        refine z_getR (pc := 84) C fX6_32 sh31 rfl dX6_costOf_84 ?_
        refine z_iload_n (pc := 87) C dX6_costOf_87 rfl rfl ?_
        refine z_ialde (pc := 88) (v := xnbef τ 7 b) C sh39 (by (try unfold zRg at *); (try simp only [IX, IM] at *); omega) (by (try unfold zRg at *); (try simp only [IX, IM] at *); omega) dX6_costOf_88 (by omega) ?_
        refine z_iload_n (pc := 89) C dX6_costOf_89 rfl rfl ?_
        refine z_aload_nZ (pc := 90) C dX6_costOf_90 rfl rfl ?_
        refine z_getR (pc := 91) C fX6_16 sh31 rfl dX6_costOf_91 ?_
        refine z_iload (pc := 94) C dX6_costOf_94 rfl ?_
        refine z_ialde (pc := 96) (v := xlev τ (xnop τ 7 b)) C sh34 (by (try unfold zRg at *); (try simp only [IX, IM] at *); omega) (by (try unfold zRg at *); (try simp only [IX, IM] at *); omega) dX6_costOf_96 (by rw [hop]; exact hopp.2.1) ?_
        refine z_iconst (pc := 97) C dX6_costOf_97 ?_
        refine z_callVp (pc := 98) (rest := []) C (C_X6_operandCost E σ hR (σ 37 b.toNat) (hR 37 _) (xnbef τ 7 b) (by unfold zRg; omega) m hm (xlev τ (xnop τ 7 b)) (by unfold zRg; omega) 1 (Or.inr rfl) τ hI ht (by omega) (by omega) (by omega) (hLY.mono (by omega)) (Or.inl rfl)) vX6_137 (by decide) sh31 rfl rfl rfl (Nat.le_of_ble_eq_true rfl) dX6_costOf_98 (fun r_98 g_98 hp_98 => ?_)
        refine z_istore (pc := 101) (lv' := [some (zrf E 31), some (ziv b), some (ziv m), some (ziv x), some (ziv (σ 37 b.toNat)), some (ziv r_98), none]) C hN dX6_costOf_101 (by decide) rfl ?_
        refine z_aload_nZ (pc := 103) C dX6_costOf_103 rfl rfl ?_
        refine z_getR (pc := 104) C fX6_13 sh31 rfl dX6_costOf_104 ?_
        refine z_iload (pc := 107) C dX6_costOf_107 rfl ?_
        refine z_ialde (pc := 109) (v := xkind τ (xnop τ 7 b)) C sh33 (by (try unfold zRg at *); (try simp only [IX, IM] at *); omega) (by (try unfold zRg at *); (try simp only [IX, IM] at *); omega) dX6_costOf_109 (by rw [hop]; exact hopp.1) ?_
        refine z_iconst (pc := 110) C dX6_costOf_110 ?_
        refine z_icmp_ne (pc := 111) C 117 (by rw [← hopp.1]; exact hR 33 _) (zRgL rfl) dX6_costOf_111 rfl (fun c_111 => ?_) (fun c_111 => ?_)
        · refine z_aload_nZ (pc := 117) C dX6_costOf_117 rfl rfl ?_
          refine z_iload (pc := 118) C dX6_costOf_118 rfl ?_
          refine z_callVp (pc := 120) (rest := []) C (C_X6_rightLevel E σ hR (σ 37 b.toNat) (hR 37 _) hI (by omega)) vX6_140 (by decide) sh31 rfl rfl rfl (Nat.le_of_ble_eq_true rfl) dX6_costOf_120 (fun r_120 g_120 hp_120 => ?_)
          refine z_istore (pc := 123) (lv' := [some (zrf E 31), some (ziv b), some (ziv m), some (ziv x), some (ziv (σ 37 b.toNat)), some (ziv r_98), some (ziv r_120)]) C hN dX6_costOf_123 (by decide) rfl ?_
          have hrl : r_120 = xmin τ (xnop τ 7 b) := by rw [hp_120, hop]; exact hopp.2.2.2 (by omega)
          refine z_iload_n (pc := 125) C dX6_costOf_125 rfl rfl ?_
          refine z_iload (pc := 126) C dX6_costOf_126 rfl ?_
          refine z_icmp_lt (pc := 128) C 137 hx g_120 dX6_costOf_128 rfl (fun c_128 => ?_) (fun c_128 => ?_)
          · refine z_iload (pc := 137) C dX6_costOf_137 rfl ?_
            refine z_aload_nZ (pc := 139) C dX6_costOf_139 rfl rfl ?_
            refine z_iload (pc := 140) C dX6_costOf_140 rfl ?_
            refine z_aload_nZ (pc := 142) C dX6_costOf_142 rfl rfl ?_
            refine z_getR (pc := 143) C fX6_35 sh31 rfl dX6_costOf_143 ?_
            refine z_iload_n (pc := 146) C dX6_costOf_146 rfl rfl ?_
            refine z_ialde (pc := 147) (v := xnaft τ 7 b) C sh40 (by (try unfold zRg at *); (try simp only [IX, IM] at *); omega) (by (try unfold zRg at *); (try simp only [IX, IM] at *); omega) dX6_costOf_147 (by omega) ?_
            refine z_iload (pc := 148) C dX6_costOf_148 rfl ?_
            refine z_iload_n (pc := 150) C dX6_costOf_150 rfl rfl ?_
            refine z_iconst (pc := 151) C dX6_costOf_151 ?_
            refine z_callVp (pc := 152) (rest := [ziv r_98]) C (C_X6_operandCost E σ hR (σ 37 b.toNat) (hR 37 _) (xnaft τ 7 b) (by unfold zRg; omega) r_120 g_120 x hx 0 (Or.inl rfl) τ hI ht (by omega) (by omega) (by omega) (hLY.mono (by omega)) (Or.inr (fun q => by rw [hp_120, hop]; exact hopp.2.2.2 (by omega)))) vX6_137 (by decide) sh31 rfl rfl rfl (Nat.le_of_ble_eq_true rfl) dX6_costOf_152 (fun r_152 g_152 hp_152 => ?_)
            refine z_iadd (pc := 155) C dX6_costOf_155 ?_
            refine hret 156 _ _ _ dX6_costOf_156 (by have h1 := yo_rg hw7 hwo (a := xnbef τ 7 b) (Or.inr (by omega)) (σ 37 b.toNat) m (xlev τ (xnop τ 7 b)); have h2 := yo_rg hw7 hwo (a := xnaft τ 7 b) (Or.inr (by omega)) (σ 37 b.toNat) r_120 x; rw [hp_98, hp_152]; unfold zRg; omega) hR ?_
            refine ⟨?_, rfl⟩
            first
            | exact YC_no hw7 hb1 hne (fun q => by unfold xrw at q; omega)
            | (rw [YC_yes hw7 hb1 hne (by unfold xrw; omega), hp_98, hp_152, hop, hrl])
          · refine z_sipush (pc := 131) C dX6_costOf_131 (by decide) ?_
            refine z_goto (pc := 134) C 156 dX6_costOf_134 rfl ?_
            refine hret 156 _ _ _ dX6_costOf_156 (zRgL rfl) hR ?_
            refine ⟨?_, rfl⟩
            first
            | exact YC_no hw7 hb1 hne (fun q => by unfold xrw at q; omega)
            | (rw [YC_yes hw7 hb1 hne (by unfold xrw; omega), hp_98, hp_152, hop, hrl])
        · refine z_iload (pc := 114) C dX6_costOf_114 rfl ?_
          refine hret 116 _ _ _ dX6_costOf_116 g_98 hR ?_
          refine ⟨?_, rfl⟩
          rw [YC_yes hw7 hb1 hne (by unfold xrw; omega), yo_none (a := xnaft τ 7 b) (by omega), hp_98, hop]; omega
      · refine z_sipush (pc := 76) C dX6_costOf_76 (by decide) ?_
        refine hret 79 _ _ _ dX6_costOf_79 (zRgL rfl) hR ?_
        exact ⟨YC_no hw7 hb1 hne (fun q => by unfold xrw at q; omega), rfl⟩
    · refine z_iload_n (pc := 26) C dX6_costOf_26 rfl rfl ?_
      refine z_aload_nZ (pc := 27) C dX6_costOf_27 rfl rfl ?_
      refine z_getR (pc := 28) C fX6_16 sh31 rfl dX6_costOf_28 ?_
      refine z_iload (pc := 31) C dX6_costOf_31 rfl ?_
      refine z_ialde (pc := 33) (v := xlev τ (xnop τ 7 b)) C sh34 (by (try unfold zRg at *); (try simp only [IX, IM] at *); omega) (by (try unfold zRg at *); (try simp only [IX, IM] at *); omega) dX6_costOf_33 (by rw [hop]; exact hopp.2.1) ?_
      refine z_icmp_lt (pc := 34) C 43 hx (by unfold zRg; omega) dX6_costOf_34 rfl (fun c_34 => ?_) (fun c_34 => ?_)
      · refine z_aload_nZ (pc := 43) C dX6_costOf_43 rfl rfl ?_
        refine z_iload (pc := 44) C dX6_costOf_44 rfl ?_
        refine z_aload_nZ (pc := 46) C dX6_costOf_46 rfl rfl ?_
        refine z_getR (pc := 47) C fX6_32 sh31 rfl dX6_costOf_47 ?_
        refine z_iload_n (pc := 50) C dX6_costOf_50 rfl rfl ?_
        refine z_ialde (pc := 51) (v := xnaft τ 7 b) C sh39 (by (try unfold zRg at *); (try simp only [IX, IM] at *); omega) (by (try unfold zRg at *); (try simp only [IX, IM] at *); omega) dX6_costOf_51 (by omega) ?_
        refine z_aload_nZ (pc := 52) C dX6_costOf_52 rfl rfl ?_
        refine z_getR (pc := 53) C fX6_16 sh31 rfl dX6_costOf_53 ?_
        refine z_iload (pc := 56) C dX6_costOf_56 rfl ?_
        refine z_ialde (pc := 58) (v := xlev τ (xnop τ 7 b)) C sh34 (by (try unfold zRg at *); (try simp only [IX, IM] at *); omega) (by (try unfold zRg at *); (try simp only [IX, IM] at *); omega) dX6_costOf_58 (by rw [hop]; exact hopp.2.1) ?_
        refine z_iload_n (pc := 59) C dX6_costOf_59 rfl rfl ?_
        refine z_iconst (pc := 60) C dX6_costOf_60 ?_
        refine z_callVp (pc := 61) (rest := []) C (C_X6_operandCost E σ hR (σ 37 b.toNat) (hR 37 _) (xnaft τ 7 b) (by unfold zRg; omega) (xlev τ (xnop τ 7 b)) (by unfold zRg; omega) x hx 0 (Or.inl rfl) τ hI ht (by omega) (by omega) (by omega) (hLY.mono (by omega)) (Or.inr (fun q => by rw [hop] at q; omega))) vX6_137 (by decide) sh31 rfl rfl rfl (Nat.le_of_ble_eq_true rfl) dX6_costOf_61 (fun r_61 g_61 hp_61 => ?_)
        refine hret 64 _ _ _ dX6_costOf_64 g_61 hR ?_
        refine ⟨?_, rfl⟩
        first
        | exact YC_no hw7 hb1 hne (fun q => by unfold xrw at q; omega)
        | (rw [YC_yes hw7 hb1 hne (by unfold xrw; omega), yo_none (a := xnbef τ 7 b) (by omega), hp_61, hop, show xmin τ (xnop τ 7 b) = xlev τ (xnop τ 7 b) by omega]; omega)
      · refine z_sipush (pc := 37) C dX6_costOf_37 (by decide) ?_
        refine z_goto (pc := 40) C 64 dX6_costOf_40 rfl ?_
        refine hret 64 _ _ _ dX6_costOf_64 (zRgL rfl) hR ?_
        refine ⟨?_, rfl⟩
        first
        | exact YC_no hw7 hb1 hne (fun q => by unfold xrw at q; omega)
        | (rw [YC_yes hw7 hb1 hne (by unfold xrw; omega), yo_none (a := xnbef τ 7 b) (by omega), hp_61, hop, show xmin τ (xnop τ 7 b) = xlev τ (xnop τ 7 b) by omega]; omega)
  · refine z_iconst (pc := 13) C dX6_costOf_13 ?_
    refine hret 14 _ _ _ dX6_costOf_14 (zRgL rfl) hR ?_
    exact ⟨YC_leaf hw7 hb1 (by omega), rfl⟩
