/-! ===== reading the text without a pair, in both ===== -/
theorem zopn_found {f : Nat → Int} {a : Int} : ∀ (n p : Nat), zcnt f 40 p ≤ a → a < zcnt f 40 (p + n) → ∃ r : Nat, zopn f a p n (zcnt f 40 p) = r ∧ p ≤ r ∧ r < p + n ∧ f r = 40 := by
  intro n
  induction n with
  | zero => intro p h1 h2; exact absurd h2 (by simp only [Nat.add_zero]; omega)
  | succ n ih =>
    intro p h1 h2
    have h2' : a < zcnt f 40 (p + 1 + n) := by rw [show p + 1 + n = p + (n + 1) by omega]; exact h2
    by_cases h : f p = 40
    · have e1 : zcnt f 40 (p + 1) = zcnt f 40 p + 1 := by
        show zcnt f 40 p + (if f p = 40 then 1 else 0) = _
        rw [if_pos h]
      by_cases hq : zcnt f 40 p = a
      · refine ⟨p, ?_, Nat.le_refl _, by omega, h⟩
        show (if f p = 40 then (if zcnt f 40 p = a then (p : Int) else _) else _) = _
        rw [if_pos h, if_pos hq]
      · obtain ⟨r, r1, r2, r3, r4⟩ := ih (p + 1) (by omega) h2'
        refine ⟨r, ?_, by omega, by omega, r4⟩
        show (if f p = 40 then (if zcnt f 40 p = a then (p : Int) else zopn f a (p + 1) n (zcnt f 40 p + 1)) else _) = _
        rw [if_pos h, if_neg hq, ← e1]
        exact r1
    · have e1 : zcnt f 40 (p + 1) = zcnt f 40 p := by
        show zcnt f 40 p + (if f p = 40 then 1 else 0) = _
        rw [if_neg h, Int.add_zero]
      obtain ⟨r, r1, r2, r3, r4⟩ := ih (p + 1) (by omega) h2'
      refine ⟨r, ?_, by omega, by omega, r4⟩
      show (if f p = 40 then (if zcnt f 40 p = a then (p : Int) else zopn f a (p + 1) n (zcnt f 40 p + 1)) else zopn f a (p + 1) n (zcnt f 40 p)) = _
      rw [if_neg h, ← e1]
      exact r1
theorem zskf_pos {f : Nat → Int} {o c : Int} : ∀ p : Nat, (∀ j, j < p → 0 < f j) → ∀ j, j < zskn o c p → 0 < zskf f o c p j := by
  intro p
  induction p with
  | zero => intro _ j hj; exact absurd hj (Nat.not_lt_zero _)
  | succ p ih =>
    intro hf j hj
    have ih2 := ih (fun j hj => hf j (by omega))
    by_cases h : (p : Int) ≠ o ∧ (p : Int) ≠ c
    · rw [(zsk_keep h).1]
      rw [(zsk_keep (f := f) h).2] at hj
      show 0 < (if j = zskn o c p then f p else zskf f o c p j)
      by_cases e : j = zskn o c p
      · rw [if_pos e]; exact hf p (by omega)
      · rw [if_neg e]; exact ih2 j (by omega)
    · rw [(zsk_drop h).1]
      rw [(zsk_drop (f := f) h).2] at hj
      exact ih2 j hj
theorem xsame_comm {τ : ZSt} : ∀ (n k q : Nat) (a b : Int), xsame τ k q n a b ↔ xsame τ q k n b a := by
  intro n
  induction n with
  | zero => intro k q a b; unfold xsame; constructor <;> (rintro ⟨h1, h2⟩; exact ⟨h1.symm, h2.symm⟩)
  | succ n ih =>
    intro k q a b
    unfold xsame
    by_cases h : a = -1 ∨ b = -1
    · rw [if_pos h, if_pos h.symm]; exact eq_comm
    · rw [if_neg h, if_neg (fun w => h w.symm), ih k q _ _, ih k q (xnaft τ k a) _, eq_comm (a := xnop τ k a), eq_comm (a := xnlet τ k a)]
/-- the output of both, and the tables -/
def Out0 (τ σ : ZSt) : Prop := WO τ ∧ SO τ σ ∧ (0 ≤ τ 21 1 ∧ τ 21 1 ≤ 120) ∧ (σ 31 13 = τ 21 1 ∧ σ 42 = τ 22) ∧ (∀ j : Nat, (j : Int) < τ 21 1 → 0 < τ 22 j) ∧ (∀ p : Nat, (p : Int) < τ 21 1 → τ 22 p = 40 → zclo (τ 22) (p + 1) (τ 21 1 - (p + 1)).toNat 1 ≠ -1) ∧ (SN τ σ ∧ W7 τ ∧ τ 7 5 ≤ 100) ∧ σ 31 14 = zd (τ 0 8) ∧ (τ 0 8 = -1 ∨ (0 ≤ τ 0 8 ∧ τ 0 8 < τ 7 5))
/-- the first i signs, without two places, in the reference -/
def Sk (σ : ZSt) (o c : Int) (i : Nat) (ρ : ZSt) : Prop := ρ 31 25 = zskn o c i ∧ (∀ j, j < zskn o c i → ρ 48 j = zskf (σ 42) o c i j) ∧ (∀ c, c ≠ 31 ∧ c ≠ 48 → ρ c = σ c) ∧ ∀ j, j ≠ 25 → ρ 31 j = σ 31 j
theorem Sk.zero (σ : ZSt) (o c : Int) : Sk σ o c 0 (zup σ 31 25 0) := ⟨zup_same _ _ _ _, fun j hj => absurd hj (Nat.not_lt_zero _), fun c hc => zup_row (by omega), fun j hj => zup_place hj⟩
theorem Sk.drop {σ ρ : ZSt} {o c : Int} {i : Nat} (h : Sk σ o c i ρ) (hd : ¬ ((i : Int) ≠ o ∧ (i : Int) ≠ c)) : Sk σ o c (i + 1) ρ := by
  unfold Sk
  rw [(zsk_drop (f := σ 42) hd).1, (zsk_drop (f := σ 42) hd).2]
  exact h
theorem Sk.keep {σ ρ : ZSt} {o c : Int} {i : Nat} (h : Sk σ o c i ρ) (hd : (i : Int) ≠ o ∧ (i : Int) ≠ c) : Sk σ o c (i + 1) (zup (zup ρ 48 (ρ 31 25).toNat (σ 42 i)) 31 25 (ρ 31 25 + 1)) := by
  obtain ⟨h1, h2, h3, h4⟩ := h
  unfold Sk
  rw [(zsk_keep (f := σ 42) hd).1, (zsk_keep (f := σ 42) hd).2]
  refine ⟨?_, fun j hj => ?_, fun c hc => ?_, fun j hj => ?_⟩
  · rw [zup_same, h1]; omega
  · rw [zup_row (by decide)]
    show _ = (if j = zskn o c i then σ 42 i else zskf (σ 42) o c i j)
    by_cases e : j = zskn o c i
    · rw [if_pos e, show (ρ 31 25).toNat = j by omega, zup_same]
    · rw [if_neg e, zup_place (by omega)]; exact h2 j (by omega)
  · rw [zup_row (by omega), zup_row (by omega)]; exact h3 c hc
  · rw [zup_place hj, zup_row (by decide)]; exact h4 j hj
theorem rd0_skip {τ σ ρ : ZSt} {a : Int} (h : Out0 τ σ) (s : Sk σ (xopen τ 21 a) (xclose τ 21 (xopen τ 21 a)) (τ 21 1).toNat ρ) : Rd0 (xskip τ 23 21 a) ρ := by
  obtain ⟨w, so, hl, ⟨i1, i2⟩, hp, -⟩ := h
  obtain ⟨s1, s2, s3, s4⟩ := s
  have rr : ∀ c, c ≠ 23 ∧ c ≠ 24 → xskip τ 23 21 a c = τ c := fun c hc => zst_row hc
  have hle := zskn_le (xopen τ 21 a) (xclose τ 21 (xopen τ 21 a)) (τ 21 1).toNat
  have l1 : xskip τ 23 21 a 23 1 = zskn (xopen τ 21 a) (xclose τ 21 (xopen τ 21 a)) (τ 21 1).toNat := by unfold xskip; rw [zst_len]
  have l2 : ∀ j : Nat, j < zskn (xopen τ 21 a) (xclose τ 21 (xopen τ 21 a)) (τ 21 1).toNat → xskip τ 23 21 a 24 j = zskf (τ 22) (xopen τ 21 a) (xclose τ 21 (xopen τ 21 a)) (τ 21 1).toNat j := fun j hj => zst_in hj
  have w2 : WO (xskip τ 23 21 a) := by
    unfold WO at w ⊢
    rw [rr 1 (by decide), rr 2 (by decide), rr 3 (by decide), rr 4 (by decide), rr 5 (by decide), rr 6 (by decide)]
    exact w
  have so2 : SO (xskip τ 23 21 a) ρ := by
    unfold SO at so ⊢
    rw [rr 1 (by decide), rr 2 (by decide), rr 3 (by decide), rr 4 (by decide), rr 5 (by decide), rr 6 (by decide), s4 3 (by decide), s3 32 (by decide), s3 33 (by decide), s3 34 (by decide), s3 35 (by decide), s3 36 (by decide)]
    exact so
  refine ⟨w2, so2, by rw [l1]; omega, ⟨?_, ?_⟩, ?_⟩
  · rw [l1, s1]
  · intro j hj
    rw [l1] at hj
    rw [l2 j (by omega), s2 j (by omega), i2]
  · intro j hj
    rw [l1] at hj
    rw [l2 j (by omega)]
    exact zskf_pos _ (fun j hj => hp j (by omega)) j (by omega)
/-- what of the reference such a reading leaves -/
def SameW (σ ς : ZSt) : Prop := (∀ c, c ≠ 31 ∧ c ≠ 44 ∧ c ≠ 45 ∧ ¬ (48 ≤ c ∧ c ≤ 53) → ς c = σ c) ∧ ∀ j, j ≠ 25 ∧ j ≠ 30 ∧ ¬ (32 ≤ j ∧ j ≤ 39) → ς 31 j = σ 31 j
theorem Sk.samew {σ ρ ς : ZSt} {o c : Int} {i : Nat} (h : Sk σ o c i ρ) (m : SameM ρ ς) : SameW σ ς := ⟨fun c hc => by rw [m.1 c (by omega), h.2.2.1 c (by omega)], fun j hj => by rw [m.2 j (by omega), h.2.2.2 j (by omega)]⟩
theorem SameW.only {σ ρ ς : ZSt} (h : SameW σ ρ) (o : Only45 ρ ς) : SameW σ ς := ⟨fun c hc => by rw [o c (by omega), h.1 c hc], fun j hj => by rw [o 31 (by decide), h.2 j hj]⟩
theorem xsk_row {τ : ZSt} {a : Int} {c : Nat} (hc : ¬ (13 ≤ c ∧ c ≤ 18) ∧ ¬ (25 ≤ c ∧ c ≤ 28) ∧ c ≠ 23 ∧ c ≠ 24) : xreads (xskip τ 23 21 a) c = τ c := by
  rw [xreads_same _ c (by omega)]
  exact zst_row (by omega)
theorem Out0.w7 {τ σ : ZSt} (h : Out0 τ σ) (a : Int) : W7 (xreads (xskip τ 23 21 a)) := h.2.2.2.2.2.2.1.2.1.same (xsk_row (by decide)) (xsk_row (by decide)) (fun c hc => xsk_row (by omega))
theorem Out0.sn {τ σ ς : ZSt} (h : Out0 τ σ) (a : Int) (s : SameW σ ς) : SN (xreads (xskip τ 23 21 a)) ς := h.2.2.2.2.2.2.1.1.same (fun c hc => xsk_row (by omega)) (s.2 11 (by decide)) (fun c hc => s.1 c (by omega))
theorem FinOK.wn {τ ς : ZSt} (f : FinOK τ ς) : WN τ 13 := ⟨⟨by have := f.2.2.1; omega, f.2.2.1.2⟩, fun i hi => ⟨(f.2.2.2 i hi).1, (f.2.2.2 i hi).2.1, by show τ 18 i ≤ 120; have := (f.2.2.2 i hi).2.2; have := f.2.2.1; omega⟩⟩
theorem xopen_in {τ σ : ZSt} (h : Out0 τ σ) {a : Int} (ha : 0 ≤ a ∧ a < zcnt (τ 22) 40 (τ 21 1).toNat) : ∃ r : Nat, xopen τ 21 a = r ∧ (r : Int) < τ 21 1 ∧ xclose τ 21 (xopen τ 21 a) = zclo (τ 22) (r + 1) (τ 21 1 - (r + 1)).toNat 1 ∧ zclo (τ 22) (r + 1) (τ 21 1 - (r + 1)).toNat 1 ≠ -1 := by
  obtain ⟨-, -, hl, -, -, hb, -⟩ := h
  obtain ⟨r, r1, -, r3, r4⟩ := zopn_found (f := τ 22) (a := a) (τ 21 1).toNat 0 ha.1 (by rw [Nat.zero_add]; exact ha.2)
  have e : xopen τ 21 a = r := r1
  have hr : (r : Int) < τ 21 1 := by omega
  refine ⟨r, e, hr, ?_, hb r hr r4⟩
  rw [e]
  unfold xclose
  rw [show max (r : Int) 0 = r by omega, zclo_st ⟨by omega, hr⟩, show ((r : Int)).toNat = r by omega, if_pos r4, show ((r : Int) + 1).toNat = r + 1 by omega]
  rfl

set_option maxRecDepth 20000 in
theorem C_X6_readWithout (E : ZE) (σ : ZSt) (hR : zRs σ) (a : Int) (ha : zRg a) (τ : ZSt) (hI : IM σ) (h0 : Out0 τ σ) : ZMi E 5 yX6_readWithout cX6_readWithout 5 (some .int) [zrf E 31, ziv a] σ (fun r σ' => r = (xwithout τ a).1 ∧ SameW σ σ' ∧ IM σ') := by
  refine ZMi.intro (by decide) rfl (Nat.le_of_ble_eq_true rfl) (fun Γ C hN hret => ?_)
  show ZG E Γ 0 [some (zrf E 31), some (ziv a), none, none, none] [] σ
  have hout := hI.out
  obtain ⟨hw, hso, hl, ⟨i1, i2⟩, hps, hbal, hsn, h14, h08⟩ := id h0
  have h14z : (σ 31 14 = -10 ∧ τ 0 8 = -1) ∨ (σ 31 14 = τ 0 8 ∧ 0 ≤ τ 0 8) := by rw [h14]; unfold zd; split <;> omega
  have hcb := zcnt_b (σ 42) 40 (σ 31 13).toNat
  have ecn : zcnt (σ 42) 40 (σ 31 13).toNat = zcnt (τ 22) 40 (τ 21 1).toNat := by rw [i1, i2]
  refine z_aload_nZ (pc := 0) C dX6_readWithout_0 rfl rfl ?_
  refine z_getI (pc := 1) C fX6_44 sh31 rfl dX6_readWithout_1 ?_
  refine z_if_ge (pc := 4) C 10 (hR 31 _) dX6_readWithout_4 rfl (fun c_4 => ?_) (fun c_4 => ?_)
  · refine z_iload_n (pc := 10) C dX6_readWithout_10 rfl rfl ?_
    refine z_iconst (pc := 11) C dX6_readWithout_11 ?_
    refine z_aload_nZ (pc := 12) C dX6_readWithout_12 rfl rfl ?_
    refine z_callVp (pc := 13) (rest := [ziv 0, ziv a]) C (C_X6_bracketPairs E σ hR hI) vX6_235 (by decide) sh31 rfl rfl rfl (Nat.le_of_ble_eq_true rfl) dX6_readWithout_13 (fun r_13 g_13 hp_13 => ?_)
    refine z_iconst (pc := 16) C dX6_readWithout_16 ?_
    refine z_isub (pc := 17) C dX6_readWithout_17 ?_
    refine z_callSp (pc := 18) (rest := []) C (C_X6_in E σ hR a ha 0 (zRgL rfl) (r_13 - 1) (by (try unfold zRg at *); (try simp only [IX, IM] at *); omega)) vX6_90 (by decide) rfl rfl (Nat.le_of_ble_eq_true rfl) dX6_readWithout_18 (fun r_18 g_18 hp_18 => ?_)
    refine z_if_ne (pc := 21) C 27 g_18 dX6_readWithout_21 rfl (fun c_21 => ?_) (fun c_21 => ?_)
    · have c_21 := zb1 hp_18 c_21
      obtain ⟨rr, hr0, hr2, hr3, hr4⟩ := xopen_in h0 (a := a) (by omega)
      refine z_aload_nZ (pc := 27) C dX6_readWithout_27 rfl rfl ?_
      refine z_iload_n (pc := 28) C dX6_readWithout_28 rfl rfl ?_
      refine z_callVp (pc := 29) (rest := []) C (C_X6_openingOf E σ hR a ha hI) vX6_239 (by decide) sh31 rfl rfl rfl (Nat.le_of_ble_eq_true rfl) dX6_readWithout_29 (fun r_29 g_29 hp_29 => ?_)
      have hr1 : r_29 = rr := by rw [hp_29, i1, i2]; exact (by unfold zd; rw [show zopn (τ 22) a 0 (τ 21 1).toNat 0 = (rr : Int) from hr0, if_neg (by omega)])
      refine z_istore_n (pc := 32) (lv' := [some (zrf E 31), some (ziv a), some (ziv r_29), none, none]) C hN dX6_readWithout_32 rfl (by decide) rfl ?_
      refine z_aload_nZ (pc := 33) C dX6_readWithout_33 rfl rfl ?_
      refine z_iload_n (pc := 34) C dX6_readWithout_34 rfl rfl ?_
      refine z_callVp (pc := 35) (rest := []) C (C_X6_closingOf E σ hR r_29 g_29 hI (by omega) (by rw [i1, i2, hr1]; exact hr4)) vX6_242 (by decide) sh31 rfl rfl rfl (Nat.le_of_ble_eq_true rfl) dX6_readWithout_35 (fun r_35 g_35 hp_35 => ?_)
      have hrA : r_29 = xopen τ 21 a := by rw [hr0, hr1]
      have hrB : r_35 = xclose τ 21 (xopen τ 21 a) := by rw [hr3, hp_35, i1, i2, hr1]; rfl
      refine z_istore_n (pc := 38) (lv' := [some (zrf E 31), some (ziv a), some (ziv r_29), some (ziv r_35), none]) C hN dX6_readWithout_38 rfl (by decide) rfl ?_
      refine z_aload_nZ (pc := 39) C dX6_readWithout_39 rfl rfl ?_
      refine z_iconst (pc := 40) C dX6_readWithout_40 ?_
      refine z_putI (pc := 41) C hR fX6_197 sh31 rfl (zRgL rfl) dX6_readWithout_41 (fun σ_41 e_41 hR_41 => ?_)
      have hI_41 : IM σ_41 := by rw [e_41]; exact hI.up25 (by (try unfold zRg at *); (try simp only [IX, IM] at *); omega)
      refine z_iconst (pc := 44) C dX6_readWithout_44 ?_
      refine z_istore (pc := 45) (lv' := [some (zrf E 31), some (ziv a), some (ziv r_29), some (ziv r_35), some (ziv 0)]) C hN dX6_readWithout_45 (by decide) rfl ?_
      have L47 : ∀ (n : Nat) (i : Int) (ρ : ZSt), zRg i → 0 ≤ i ∧ i ≤ σ 31 13 → Sk σ r_29 r_35 i.toNat ρ → zRs ρ → IM ρ → (σ 31 13 - i).toNat < n → ZG E Γ 47 [some (zrf E 31), some (ziv a), some (ziv r_29), some (ziv r_35), some (ziv i)] [] ρ := by
        intro n
        induction n with
        | zero => intro i ρ hi hi0 hs hRr hIr hm; exact absurd hm (by omega)
        | succ n ih =>
          intro i ρ hi hi0 hs hRr hIr hm
          have hle := zskn_le r_29 r_35 i.toNat
          have h25 := hs.1
          refine z_iload (pc := 47) C dX6_readWithout_47 rfl ?_
          refine z_aload_nZ (pc := 49) C dX6_readWithout_49 rfl rfl ?_
          refine z_getIe (pc := 50) (v := σ 31 13) C fX6_154 sh31 rfl dX6_readWithout_50 (hs.2.2.2 13 (by decide)) ?_
          refine z_icmp_ge (pc := 53) C 100 hi (hR 31 13) dX6_readWithout_53 rfl (fun c_53 => ?_) (fun c_53 => ?_)
          · have hrd : Rd0 (xskip τ 23 21 a) ρ := rd0_skip h0 (by have h9 := hs; rw [hrA, hrB, show i.toNat = (τ 21 1).toNat by omega] at h9; exact h9)
            refine z_aload_nZ (pc := 100) C dX6_readWithout_100 rfl rfl ?_
            refine z_callVi (pc := 101) (rest := []) C (C_X6_readAll E ρ hRr (xskip τ 23 21 a) hIr hrd) vX6_245 (by decide) sh31 rfl rfl rfl (Nat.le_of_ble_eq_true rfl) dX6_readWithout_101 (fun r_101 σ_101 g_101 hR_101 hp_101 => ?_)
            have hsw : SameW σ σ_101 := hs.samew hp_101.2.1
            have hI_101 : IM σ_101 := hIr.same hp_101.2.1
            refine z_if_ne (pc := 104) C 109 g_101 dX6_readWithout_104 rfl (fun c_104 => ?_) (fun c_104 => ?_)
            · have c_104 := zb1 hp_101.1 c_104
              have hfin : FinOK (xreads (xskip τ 23 21 a)) σ_101 := (hp_101.2.2.resolve_right (fun w9 => w9.1 c_104)).2.2
              have e14 : σ_101 31 14 = σ 31 14 := hsw.2 14 (by decide)
              refine z_aload_nZ (pc := 109) C dX6_readWithout_109 rfl rfl ?_
              refine z_aload_nZ (pc := 110) C dX6_readWithout_110 rfl rfl ?_
              refine z_getIe (pc := 111) (v := σ 31 14) C fX6_44 sh31 rfl dX6_readWithout_111 e14 ?_
              refine z_callVi (pc := 114) (rest := []) C (C_X6_isSameAs E σ_101 hR_101 (σ 31 14) (hR 31 14) (xreads (xskip τ 23 21 a)) hI_101 (h0.w7 a) hfin.wn (h0.sn a hsw).2.1 hfin.1.2 (h0.sn a hsw).1.symm (by rw [xsk_row (by decide)]; exact hsn.2.2) (by rw [xsk_row (by decide)]; omega) (by have h9 := hfin.2.1; have h8 := hfin.2.2.1; omega)) vX6_248 (by decide) sh31 rfl rfl rfl (Nat.le_of_ble_eq_true rfl) dX6_readWithout_114 (fun r_114 σ_114 g_114 hR_114 hp_114 => ?_)
              have hj37 := hfin.2.1
              have hsame : SM (xreads (xskip τ 23 21 a)) 13 (σ 31 14) (σ_101 31 37) → xsame (xreads (xskip τ 23 21 a)) 7 13 40 (xreads (xskip τ 23 21 a) 0 8) (xreads (xskip τ 23 21 a) 13 5 - 1) := fun w9 => by rw [hj37, show σ 31 14 = xreads (xskip τ 23 21 a) 0 8 by rw [xsk_row (by decide)]; omega] at w9; exact w9
              have hsame2 : xsame (xreads (xskip τ 23 21 a)) 7 13 40 (xreads (xskip τ 23 21 a) 0 8) (xreads (xskip τ 23 21 a) 13 5 - 1) → SM (xreads (xskip τ 23 21 a)) 13 (σ 31 14) (σ_101 31 37) := fun w9 => by rw [hj37, show σ 31 14 = xreads (xskip τ 23 21 a) 0 8 by rw [xsk_row (by decide)]; omega]; exact w9
              have L125 : ∀ (c : Int), zRg c → c = (xwithout τ a).1 → ZG E Γ 125 [some (zrf E 31), some (ziv a), some (ziv r_29), some (ziv r_35), some (ziv i)] [ziv c] σ_114 := by
                intro c hc ec
                refine hret 125 _ _ _ dX6_readWithout_125 hc hR_114 ?_
                exact ⟨ec, hsw.only hp_114.2, hI_101.only hp_114.2⟩
              refine z_if_eq (pc := 117) C 124 g_114 dX6_readWithout_117 rfl (fun c_117 => ?_) (fun c_117 => ?_)
              · have c_117 := zb0 hp_114.1 c_117
                refine z_iconst (pc := 124) C dX6_readWithout_124 ?_
                refine L125 _ (zRgL rfl) ?_
                unfold xwithout
                rw [zif_neg (by omega), zif_neg (fun w => w (by omega)), zif_pos c_104]
                first
                | (rw [zif_pos (by rw [xsame_comm]; exact hsame c_117)]; done)
                | (rw [zif_neg (fun w => c_117 (hsame2 (by rw [xsame_comm]; exact w)))]; done)
              · have c_117 := zb1 hp_114.1 c_117
                refine z_iconst (pc := 120) C dX6_readWithout_120 ?_
                refine z_goto (pc := 121) C 125 dX6_readWithout_121 rfl ?_
                refine L125 _ (zRgL rfl) ?_
                unfold xwithout
                rw [zif_neg (by omega), zif_neg (fun w => w (by omega)), zif_pos c_104]
                first
                | (rw [zif_pos (by rw [xsame_comm]; exact hsame c_117)]; done)
                | (rw [zif_neg (fun w => c_117 (hsame2 (by rw [xsame_comm]; exact w)))]; done)
            · have c_104 := zb0 hp_101.1 c_104
              refine z_iconst (pc := 107) C dX6_readWithout_107 ?_
              refine hret 108 _ _ _ dX6_readWithout_108 (zRgL rfl) hR_101 ?_
              exact ⟨by unfold xwithout; rw [zif_neg (by omega), zif_neg (fun w => w (by omega)), zif_neg c_104], hsw, hI_101⟩
          · refine z_iload (pc := 56) C dX6_readWithout_56 rfl ?_
            refine z_iload_n (pc := 58) C dX6_readWithout_58 rfl rfl ?_
            refine z_icmp_eq (pc := 59) C 94 hi g_29 dX6_readWithout_59 rfl (fun c_59 => ?_) (fun c_59 => ?_)
            · refine z_iinc (pc := 94) (lv' := [some (zrf E 31), some (ziv a), some (ziv r_29), some (ziv r_35), some (ziv (i + 1))]) C hN dX6_readWithout_94 (by decide) rfl rfl ?_
              refine z_goto (pc := 97) C 47 dX6_readWithout_97 rfl ?_
              first
              | exact ih _ _ (by (try unfold zRg at *); (try simp only [IX, IM] at *); omega) (by omega) (by rw [e_91, e_83, show (i + 1).toNat = i.toNat + 1 by omega]; exact hs.keep (by omega)) hRr hIr (by omega)
              | exact ih _ _ (by (try unfold zRg at *); (try simp only [IX, IM] at *); omega) (by omega) (by rw [show (i + 1).toNat = i.toNat + 1 by omega]; exact hs.drop (by omega)) hRr hIr (by omega)
            · refine z_iload (pc := 62) C dX6_readWithout_62 rfl ?_
              refine z_iload_n (pc := 64) C dX6_readWithout_64 rfl rfl ?_
              refine z_icmp_eq (pc := 65) C 94 hi g_35 dX6_readWithout_65 rfl (fun c_65 => ?_) (fun c_65 => ?_)
              · refine z_iinc (pc := 94) (lv' := [some (zrf E 31), some (ziv a), some (ziv r_29), some (ziv r_35), some (ziv (i + 1))]) C hN dX6_readWithout_94 (by decide) rfl rfl ?_
                refine z_goto (pc := 97) C 47 dX6_readWithout_97 rfl ?_
                first
                | exact ih _ _ (by (try unfold zRg at *); (try simp only [IX, IM] at *); omega) (by omega) (by rw [e_91, e_83, show (i + 1).toNat = i.toNat + 1 by omega]; exact hs.keep (by omega)) hRr hIr (by omega)
                | exact ih _ _ (by (try unfold zRg at *); (try simp only [IX, IM] at *); omega) (by omega) (by rw [show (i + 1).toNat = i.toNat + 1 by omega]; exact hs.drop (by omega)) hRr hIr (by omega)
              · refine z_aload_nZ (pc := 68) C dX6_readWithout_68 rfl rfl ?_
                refine z_getR (pc := 69) C fX6_69 sh31 rfl dX6_readWithout_69 ?_
                refine z_aload_nZ (pc := 72) C dX6_readWithout_72 rfl rfl ?_
                refine z_getI (pc := 73) C fX6_197 sh31 rfl dX6_readWithout_73 ?_
                refine z_aload_nZ (pc := 76) C dX6_readWithout_76 rfl rfl ?_
                refine z_getR (pc := 77) C fX6_41 sh31 rfl dX6_readWithout_77 ?_
                refine z_iload (pc := 80) C dX6_readWithout_80 rfl ?_
                refine z_ialde (pc := 82) (v := σ 42 i.toNat) C sh42 (by (try unfold zRg at *); (try simp only [IX, IM] at *); omega) (by (try unfold zRg at *); (try simp only [IX, IM] at *); omega) dX6_readWithout_82 (by rw [hs.2.2.1 42 (by decide)]) ?_
                refine z_iast (pc := 83) C hRr sh48 (by (try unfold zRg at *); (try simp only [IX, IM] at *); omega) (by (try unfold zRg at *); (try simp only [IX, IM] at *); omega) (hR 42 _) dX6_readWithout_83 (fun σ_83 e_83 hR_83 => ?_)
                have hI_83 : IM σ_83 := by rw [e_83]; exact hIr.upA rfl
                refine z_aload_nZ (pc := 84) C dX6_readWithout_84 rfl rfl ?_
                refine z_dup (pc := 85) C dX6_readWithout_85 rfl ?_
                refine z_getIe (pc := 86) (v := ρ 31 25) C fX6_197 sh31 rfl dX6_readWithout_86 (by rw [e_83, zup_cell (by omega)]) ?_
                refine z_iconst (pc := 89) C dX6_readWithout_89 ?_
                refine z_iadd (pc := 90) C dX6_readWithout_90 ?_
                refine z_putI (pc := 91) C hR_83 fX6_197 sh31 rfl (by (try unfold zRg at *); (try simp only [IX, IM] at *); omega) dX6_readWithout_91 (fun σ_91 e_91 hR_91 => ?_)
                have hI_91 : IM σ_91 := by rw [e_91]; exact hI_83.up25 (by (try unfold zRg at *); (try simp only [IX, IM] at *); omega)
                refine z_iinc (pc := 94) (lv' := [some (zrf E 31), some (ziv a), some (ziv r_29), some (ziv r_35), some (ziv (i + 1))]) C hN dX6_readWithout_94 (by decide) rfl rfl ?_
                refine z_goto (pc := 97) C 47 dX6_readWithout_97 rfl ?_
                first
                | exact ih _ _ (by (try unfold zRg at *); (try simp only [IX, IM] at *); omega) (by omega) (by rw [e_91, e_83, show (i + 1).toNat = i.toNat + 1 by omega]; exact hs.keep (by omega)) hR_91 hI_91 (by omega)
                | exact ih _ _ (by (try unfold zRg at *); (try simp only [IX, IM] at *); omega) (by omega) (by rw [show (i + 1).toNat = i.toNat + 1 by omega]; exact hs.drop (by omega)) hR_91 hI_91 (by omega)
      exact L47 _ 0 σ_41 (zRgL rfl) (by omega) (by rw [e_41]; exact Sk.zero σ _ _) hR_41 hI_41 (Nat.lt_succ_self _)
    · have c_21 := zb0 hp_18 c_21
      refine z_bipush (pc := 24) C dX6_readWithout_24 (by decide) ?_
      refine hret 26 _ _ _ dX6_readWithout_26 (zRgL rfl) hR ?_
      exact ⟨by unfold xwithout; rw [zif_neg (by omega), zif_pos (by omega)], ⟨fun c hc => rfl, fun j hj => rfl⟩, hI⟩
  · refine z_bipush (pc := 7) C dX6_readWithout_7 (by decide) ?_
    refine hret 9 _ _ _ dX6_readWithout_9 (zRgL rfl) hR ?_
    exact ⟨by unfold xwithout; rw [zif_pos (by omega)], ⟨fun c hc => rfl, fun j hj => rfl⟩, hI⟩
