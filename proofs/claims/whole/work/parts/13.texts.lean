set_option maxRecDepth 20000 in
theorem C_X0_shifted (E : ZE) (σ : ZSt) (hR : zRs σ) (a : Int) (ha : zRg a) (b : Int) (hb : zRg b) : ZMi E 0 yX0_shifted cX0_shifted 2 (some .int) [ziv a, ziv b] σ (fun r σ' => (r = if a = -1 then -1 else zw (a + b)) ∧ σ' = σ) := by
  refine ZMi.intro (by decide) rfl (Nat.le_of_ble_eq_true rfl) (fun Γ C hN hret => ?_)
  show ZG E Γ 0 [some (ziv a), some (ziv b)] [] σ
  refine z_iload_n (pc := 0) C dX0_shifted_0 rfl rfl ?_
  refine z_iconst (pc := 1) C dX0_shifted_1 ?_
  refine z_icmp_ne (pc := 2) C 9 ha (zRgL rfl) dX0_shifted_2 rfl (fun c_2 => ?_) (fun c_2 => ?_)
  · refine z_iload_n (pc := 9) C dX0_shifted_9 rfl rfl ?_
    refine z_iload_n (pc := 10) C dX0_shifted_10 rfl rfl ?_
    refine z_iadd (pc := 11) C dX0_shifted_11 ?_
    refine z_norm ?_
    refine hret 12 _ _ _ dX0_shifted_12 (zw_rg _) hR ?_
    exact ⟨by first | rw [if_pos (by omega)] | rw [if_neg (by omega)], rfl⟩
  · refine z_iconst (pc := 5) C dX0_shifted_5 ?_
    refine z_goto (pc := 6) C 12 dX0_shifted_6 rfl ?_
    refine hret 12 _ _ _ dX0_shifted_12 (zRgL rfl) hR ?_
    exact ⟨by first | rw [if_pos (by omega)] | rw [if_neg (by omega)], rfl⟩
set_option maxRecDepth 20000 in
theorem C_X0_addAllOf (E : ZE) (σ : ZSt) (hR : zRs σ) (hI : IX σ) : ZMv E 3 yX0_addAllOf cX0_addAllOf 4 [zrf E 7, zrf E 13] σ (fun σ' => σ' = xadds σ (σ 13 5).toNat) := by
  refine ZMv.intro (by decide) rfl (Nat.le_of_ble_eq_true rfl) (fun Γ C hN hret => ?_)
  show ZG E Γ 0 [some (zrf E 7), some (zrf E 13), none, none] [] σ
  refine z_aload_nZ (pc := 0) C dX0_addAllOf_0 rfl rfl ?_
  refine z_getI (pc := 1) C fX0_27 sh7 rfl dX0_addAllOf_1 ?_
  refine z_istore_n (pc := 4) (lv' := [some (zrf E 7), some (zrf E 13), some (ziv (σ 7 5)), none]) C hN dX0_addAllOf_4 rfl (by decide) rfl ?_
  refine z_iconst (pc := 5) C dX0_addAllOf_5 ?_
  refine z_istore_n (pc := 6) (lv' := [some (zrf E 7), some (zrf E 13), some (ziv (σ 7 5)), some (ziv 0)]) C hN dX0_addAllOf_6 rfl (by decide) rfl ?_
  have L7 : ∀ (n : Nat) (i : Int) (τ : ZSt), zRg i → 0 ≤ i ∧ i ≤ σ 13 5 → τ = xadds σ i.toNat → zRs τ → IX τ → (σ 13 5 - i).toNat < n → ZG E Γ 7 [some (zrf E 7), some (zrf E 13), some (ziv (σ 7 5)), some (ziv i)] [] τ := by
    intro n
    induction n with
    | zero => intro i τ hi h0 ht hRt hIt hm; exact absurd hm (by omega)
    | succ n ih =>
      intro i τ hi h0 ht hRt hIt hm
      have hq : ∀ c, 13 ≤ c → τ c = σ c := fun c hc => by rw [ht]; exact xadds_row (by omega) _
      have hbd := hI.nt (Or.inr rfl)
      refine z_iload_n (pc := 7) C dX0_addAllOf_7 rfl rfl ?_
      refine z_aload_nZ (pc := 8) C dX0_addAllOf_8 rfl rfl ?_
      refine z_getIe (pc := 9) (v := σ 13 5) C fX0_27 sh13 rfl dX0_addAllOf_9 (by rw [hq 13 (by decide)]) ?_
      refine z_icmp_ge (pc := 12) C 58 hi (hR 13 5) dX0_addAllOf_12 rfl (fun c_12 => ?_) (fun c_12 => ?_)
      · refine hret 58 _ _ dX0_addAllOf_58 hRt ?_
        rw [ht, show i = σ 13 5 by omega]
      · refine z_aload_nZ (pc := 15) C dX0_addAllOf_15 rfl rfl ?_
        refine z_aload_nZ (pc := 16) C dX0_addAllOf_16 rfl rfl ?_
        refine z_getR (pc := 17) C fX0_11 sh13 rfl dX0_addAllOf_17 ?_
        refine z_iload_n (pc := 20) C dX0_addAllOf_20 rfl rfl ?_
        refine z_ialde (pc := 21) (v := σ 14 i.toNat) C sh14 (by (try unfold zRg at *); (try simp only [IX] at *); omega) (by (try unfold zRg at *); (try simp only [IX] at *); omega) dX0_addAllOf_21 (by rw [hq 14 (by decide)]) ?_
        refine z_aload_nZ (pc := 22) C dX0_addAllOf_22 rfl rfl ?_
        refine z_getR (pc := 23) C fX0_15 sh13 rfl dX0_addAllOf_23 ?_
        refine z_iload_n (pc := 26) C dX0_addAllOf_26 rfl rfl ?_
        refine z_ialde (pc := 27) (v := σ 15 i.toNat) C sh15 (by (try unfold zRg at *); (try simp only [IX] at *); omega) (by (try unfold zRg at *); (try simp only [IX] at *); omega) dX0_addAllOf_27 (by rw [hq 15 (by decide)]) ?_
        refine z_aload_nZ (pc := 28) C dX0_addAllOf_28 rfl rfl ?_
        refine z_getR (pc := 29) C fX0_18 sh13 rfl dX0_addAllOf_29 ?_
        refine z_iload_n (pc := 32) C dX0_addAllOf_32 rfl rfl ?_
        refine z_ialde (pc := 33) (v := σ 16 i.toNat) C sh16 (by (try unfold zRg at *); (try simp only [IX] at *); omega) (by (try unfold zRg at *); (try simp only [IX] at *); omega) dX0_addAllOf_33 (by rw [hq 16 (by decide)]) ?_
        refine z_iload_n (pc := 34) C dX0_addAllOf_34 rfl rfl ?_
        refine z_callSp (pc := 35) (rest := [ziv (σ 15 i.toNat), ziv (σ 14 i.toNat), zrf E 7]) C (C_X0_shifted E τ hRt (σ 16 i.toNat) (hR 16 _) (σ 7 5) (hR 7 _)) vX0_35 (by decide) rfl rfl (Nat.le_of_ble_eq_true rfl) dX0_addAllOf_35 (fun r_35 g_35 hp_35 => ?_)
        refine z_aload_nZ (pc := 38) C dX0_addAllOf_38 rfl rfl ?_
        refine z_getR (pc := 39) C fX0_21 sh13 rfl dX0_addAllOf_39 ?_
        refine z_iload_n (pc := 42) C dX0_addAllOf_42 rfl rfl ?_
        refine z_ialde (pc := 43) (v := σ 17 i.toNat) C sh17 (by (try unfold zRg at *); (try simp only [IX] at *); omega) (by (try unfold zRg at *); (try simp only [IX] at *); omega) dX0_addAllOf_43 (by rw [hq 17 (by decide)]) ?_
        refine z_iload_n (pc := 44) C dX0_addAllOf_44 rfl rfl ?_
        refine z_callSp (pc := 45) (rest := [ziv r_35, ziv (σ 15 i.toNat), ziv (σ 14 i.toNat), zrf E 7]) C (C_X0_shifted E τ hRt (σ 17 i.toNat) (hR 17 _) (σ 7 5) (hR 7 _)) vX0_35 (by decide) rfl rfl (Nat.le_of_ble_eq_true rfl) dX0_addAllOf_45 (fun r_45 g_45 hp_45 => ?_)
        refine z_callVi (pc := 48) (rest := []) C (C_X0_add E τ hRt 7 (Or.inl rfl) (σ 14 i.toNat) (hR 14 _) (σ 15 i.toNat) (hR 15 _) r_35 g_35 r_45 g_45 hIt) vX0_39 (by decide) sh7 rfl rfl rfl (Nat.le_of_ble_eq_true rfl) dX0_addAllOf_48 (fun r_48 σ_48 g_48 hR_48 hp_48 => ?_)
        refine z_pop (pc := 51) C dX0_addAllOf_51 rfl ?_
        refine z_iinc (pc := 52) (lv' := [some (zrf E 7), some (zrf E 13), some (ziv (σ 7 5)), some (ziv (i + 1))]) C hN dX0_addAllOf_52 (by decide) rfl rfl ?_
        refine z_goto (pc := 55) C 7 dX0_addAllOf_55 rfl ?_
        exact ih _ _ (by (try unfold zRg at *); (try simp only [IX] at *); omega) (by omega) (by rw [show (i + 1).toNat = i.toNat + 1 by omega]; unfold xadds; rw [← ht, hp_48.2, hp_35, hp_45]) hR_48 (by rw [hp_48.2]; exact hIt.nadd (Or.inl rfl)) (by omega)
  exact L7 _ 0 σ (zRgL rfl) (by have := hI.nt (Or.inr rfl); omega) rfl hR hI (Nat.lt_succ_self _)
set_option maxRecDepth 20000 in
theorem C_X3_copyFrom (E : ZE) (σ : ZSt) (hR : zRs σ) (k : Nat) (hk : k = 19 ∨ k = 21 ∨ k = 23) (o : Nat) (ho : o = 19 ∨ o = 21 ∨ o = 23) (hI : IX σ) (hne : k ≠ o) : ZMv E 1 yX3_copyFrom cX3_copyFrom 3 [zrf E k, zrf E o] σ (fun σ' => σ' = xcopy σ k o) := by
  refine ZMv.intro (by decide) rfl (Nat.le_of_ble_eq_true rfl) (fun Γ C hN hret => ?_)
  show ZG E Γ 0 [some (zrf E k), some (zrf E o), none] [] σ
  refine z_aload_nZ (pc := 0) C dX3_copyFrom_0 rfl rfl ?_
  refine z_callVv (pc := 1) (rest := []) C (C_X3_empty E σ hR k hk) vX3_19 (by decide) (shTX hk) rfl rfl rfl (Nat.le_of_ble_eq_true rfl) dX3_copyFrom_1 (fun σ_1 hR_1 hp_1 => ?_)
  refine z_iconst (pc := 4) C dX3_copyFrom_4 ?_
  refine z_istore_n (pc := 5) (lv' := [some (zrf E k), some (zrf E o), some (ziv 0)]) C hN dX3_copyFrom_5 rfl (by decide) rfl ?_
  have L6 : ∀ (n : Nat) (i : Int) (τ : ZSt), zRg i → 0 ≤ i ∧ i ≤ σ o 1 → τ = zst σ k (σ (o + 1)) i.toNat → zRs τ → IX τ → (σ o 1 - i).toNat < n → ZG E Γ 6 [some (zrf E k), some (zrf E o), some (ziv i)] [] τ := by
    intro n
    induction n with
    | zero => intro i τ hi h0 ht hRt hIt hm; exact absurd hm (by omega)
    | succ n ih =>
      intro i τ hi h0 ht hRt hIt hm
      have hq : ∀ c, c ≠ k ∧ c ≠ k + 1 → τ c = σ c := fun c hc => by rw [ht]; exact zst_row hc
      have hbd := hI.tx ho
      refine z_iload_n (pc := 6) C dX3_copyFrom_6 rfl rfl ?_
      refine z_aload_nZ (pc := 7) C dX3_copyFrom_7 rfl rfl ?_
      refine z_getIe (pc := 8) (v := σ o 1) C fX3_15 (shTX ho) rfl dX3_copyFrom_8 (by rw [hq o (by omega)]) ?_
      refine z_icmp_ge (pc := 11) C 31 hi (hR o 1) dX3_copyFrom_11 rfl (fun c_11 => ?_) (fun c_11 => ?_)
      · refine hret 31 _ _ dX3_copyFrom_31 hRt ?_
        rw [ht, show i = σ o 1 by omega]; rfl
      · refine z_aload_nZ (pc := 14) C dX3_copyFrom_14 rfl rfl ?_
        refine z_aload_nZ (pc := 15) C dX3_copyFrom_15 rfl rfl ?_
        refine z_getR (pc := 16) C fX3_9 (shTX ho) rfl dX3_copyFrom_16 ?_
        refine z_iload_n (pc := 19) C dX3_copyFrom_19 rfl rfl ?_
        refine z_ialde (pc := 20) (v := σ (o + 1) i.toNat) C (shTX1 ho) (by (try unfold zRg at *); (try simp only [IX] at *); omega) (by (try unfold zRg at *); (try simp only [IX] at *); omega) dX3_copyFrom_20 (by rw [hq (o + 1) (by omega)]) ?_
        refine z_callVi (pc := 21) (rest := []) C (C_X3_put E τ hRt k hk (σ (o + 1) i.toNat) (hR (o + 1) _) hIt) vX3_22 (by decide) (shTX hk) rfl rfl rfl (Nat.le_of_ble_eq_true rfl) dX3_copyFrom_21 (fun r_21 σ_21 g_21 hR_21 hp_21 => ?_)
        refine z_pop (pc := 24) C dX3_copyFrom_24 rfl ?_
        refine z_iinc (pc := 25) (lv' := [some (zrf E k), some (zrf E o), some (ziv (i + 1))]) C hN dX3_copyFrom_25 (by decide) rfl rfl ?_
        refine z_goto (pc := 28) C 6 dX3_copyFrom_28 rfl ?_
        exact ih _ _ (by (try unfold zRg at *); (try simp only [IX] at *); omega) (by omega) (by rw [hp_21.2, ht, xput_zst (by omega), show (i + 1).toNat = i.toNat + 1 by omega]; exact zst_congr (fun j hj => by by_cases h9 : j = i.toNat <;> simp [h9])) hR_21 (by rw [hp_21.2, ht, xput_zst (by omega)]; exact hI.zst hk (by omega)) (by omega)
  exact L6 _ 0 σ_1 (zRgL rfl) (by have := hI.tx ho; omega) (by rw [hp_1]; exact zst_empty σ k _) hR_1 (by rw [hp_1]; exact hI.upTX hk (by decide)) (Nat.lt_succ_self _)
set_option maxRecDepth 20000 in
theorem C_X3_countPairs (E : ZE) (σ : ZSt) (hR : zRs σ) (k : Nat) (hk : k = 19 ∨ k = 21 ∨ k = 23) (hI : IX σ) : ZMi E 0 yX3_countPairs cX3_countPairs 3 (some .int) [zrf E k] σ (fun r σ' => (r = zcnt (σ (k + 1)) 40 (σ k 1).toNat) ∧ σ' = σ) := by
  refine ZMi.intro (by decide) rfl (Nat.le_of_ble_eq_true rfl) (fun Γ C hN hret => ?_)
  show ZG E Γ 0 [some (zrf E k), none, none] [] σ
  have hbd := hI.tx hk
  refine z_iconst (pc := 0) C dX3_countPairs_0 ?_
  refine z_istore_n (pc := 1) (lv' := [some (zrf E k), some (ziv 0), none]) C hN dX3_countPairs_1 rfl (by decide) rfl ?_
  refine z_iconst (pc := 2) C dX3_countPairs_2 ?_
  refine z_istore_n (pc := 3) (lv' := [some (zrf E k), some (ziv 0), some (ziv 0)]) C hN dX3_countPairs_3 rfl (by decide) rfl ?_
  have L4 : ∀ (n : Nat) (i q : Int), zRg i → zRg q → 0 ≤ i ∧ i ≤ σ k 1 → q = zcnt (σ (k + 1)) 40 i.toNat → (σ k 1 - i).toNat < n → ZG E Γ 4 [some (zrf E k), some (ziv q), some (ziv i)] [] σ := by
    intro n
    induction n with
    | zero => intro i q hi hq h0 hf hm; exact absurd hm (by omega)
    | succ n ih =>
      intro i q hi hq h0 hf hm
      have hz := zcnt_b (σ (k + 1)) 40 i.toNat
      refine z_iload_n (pc := 4) C dX3_countPairs_4 rfl rfl ?_
      refine z_aload_nZ (pc := 5) C dX3_countPairs_5 rfl rfl ?_
      refine z_getI (pc := 6) C fX3_15 (shTX hk) rfl dX3_countPairs_6 ?_
      refine z_icmp_ge (pc := 9) C 32 hi (hR k _) dX3_countPairs_9 rfl (fun c_9 => ?_) (fun c_9 => ?_)
      · refine z_iload_n (pc := 32) C dX3_countPairs_32 rfl rfl ?_
        refine hret 33 _ _ _ dX3_countPairs_33 hq hR ?_
        exact ⟨by rw [hf, show i = σ k 1 by omega], rfl⟩
      · refine z_aload_nZ (pc := 12) C dX3_countPairs_12 rfl rfl ?_
        refine z_getR (pc := 13) C fX3_9 (shTX hk) rfl dX3_countPairs_13 ?_
        refine z_iload_n (pc := 16) C dX3_countPairs_16 rfl rfl ?_
        refine z_iald (pc := 17) C (shTX1 hk) (by (try unfold zRg at *); (try simp only [IX] at *); omega) (by (try unfold zRg at *); (try simp only [IX] at *); omega) dX3_countPairs_17 ?_
        refine z_bipush (pc := 18) C dX3_countPairs_18 (by decide) ?_
        refine z_icmp_ne (pc := 20) C 26 (hR (k + 1) _) (zRgL rfl) dX3_countPairs_20 rfl (fun c_20 => ?_) (fun c_20 => ?_)
        · refine z_iinc (pc := 26) (lv' := [some (zrf E k), some (ziv q), some (ziv (i + 1))]) C hN dX3_countPairs_26 (by decide) rfl rfl ?_
          refine z_goto (pc := 29) C 4 dX3_countPairs_29 rfl ?_
          exact ih _ _ (by (try unfold zRg at *); (try simp only [IX] at *); omega) hq (by omega) (by rw [show (i + 1).toNat = i.toNat + 1 by omega]; unfold zcnt; first | (rw [if_pos (by assumption)]; omega) | (rw [if_neg (by assumption)]; omega)) (by omega)
        · refine z_iinc (pc := 23) (lv' := [some (zrf E k), some (ziv (q + 1)), some (ziv i)]) C hN dX3_countPairs_23 (by decide) rfl rfl ?_
          refine z_iinc (pc := 26) (lv' := [some (zrf E k), some (ziv (q + 1)), some (ziv (i + 1))]) C hN dX3_countPairs_26 (by decide) rfl rfl ?_
          refine z_goto (pc := 29) C 4 dX3_countPairs_29 rfl ?_
          exact ih _ _ (by (try unfold zRg at *); (try simp only [IX] at *); omega) (by (try unfold zRg at *); (try simp only [IX] at *); omega) (by omega) (by rw [show (i + 1).toNat = i.toNat + 1 by omega]; unfold zcnt; first | (rw [if_pos (by assumption)]; omega) | (rw [if_neg (by assumption)]; omega)) (by omega)
  exact L4 _ 0 0 (zRgL rfl) (zRgL rfl) (by omega) rfl (Nat.lt_succ_self _)
set_option maxRecDepth 20000 in
theorem C_X3_openOf (E : ZE) (σ : ZSt) (hR : zRs σ) (k : Nat) (hk : k = 19 ∨ k = 21 ∨ k = 23) (a : Int) (ha : zRg a) (hI : IX σ) : ZMi E 0 yX3_openOf cX3_openOf 4 (some .int) [zrf E k, ziv a] σ (fun r σ' => (r = xopen σ k a) ∧ σ' = σ) := by
  refine ZMi.intro (by decide) rfl (Nat.le_of_ble_eq_true rfl) (fun Γ C hN hret => ?_)
  show ZG E Γ 0 [some (zrf E k), some (ziv a), none, none] [] σ
  have hbd := hI.tx hk
  refine z_iconst (pc := 0) C dX3_openOf_0 ?_
  refine z_istore_n (pc := 1) (lv' := [some (zrf E k), some (ziv a), some (ziv 0), none]) C hN dX3_openOf_1 rfl (by decide) rfl ?_
  refine z_iconst (pc := 2) C dX3_openOf_2 ?_
  refine z_istore_n (pc := 3) (lv' := [some (zrf E k), some (ziv a), some (ziv 0), some (ziv 0)]) C hN dX3_openOf_3 rfl (by decide) rfl ?_
  have L4 : ∀ (n : Nat) (i q : Int), zRg i → zRg q → 0 ≤ i ∧ i ≤ σ k 1 → 0 ≤ q ∧ q ≤ i → xopen σ k a = zopn (σ (k + 1)) a i.toNat (σ k 1 - i).toNat q → (σ k 1 - i).toNat < n → ZG E Γ 4 [some (zrf E k), some (ziv a), some (ziv q), some (ziv i)] [] σ := by
    intro n
    induction n with
    | zero => intro i q hi hq h0 hqi hf hm; exact absurd hm (by omega)
    | succ n ih =>
      intro i q hi hq h0 hqi hf hm
      refine z_iload_n (pc := 4) C dX3_openOf_4 rfl rfl ?_
      refine z_aload_nZ (pc := 5) C dX3_openOf_5 rfl rfl ?_
      refine z_getI (pc := 6) C fX3_15 (shTX hk) rfl dX3_openOf_6 ?_
      refine z_icmp_ge (pc := 9) C 39 hi (hR k _) dX3_openOf_9 rfl (fun c_9 => ?_) (fun c_9 => ?_)
      · refine z_iconst (pc := 39) C dX3_openOf_39 ?_
        refine hret 40 _ _ _ dX3_openOf_40 (zRgL rfl) hR ?_
        exact ⟨by rw [hf, show (σ k 1 - i).toNat = 0 by omega]; rfl, rfl⟩
      · refine z_aload_nZ (pc := 12) C dX3_openOf_12 rfl rfl ?_
        refine z_getR (pc := 13) C fX3_9 (shTX hk) rfl dX3_openOf_13 ?_
        refine z_iload_n (pc := 16) C dX3_openOf_16 rfl rfl ?_
        refine z_iald (pc := 17) C (shTX1 hk) (by (try unfold zRg at *); (try simp only [IX] at *); omega) (by (try unfold zRg at *); (try simp only [IX] at *); omega) dX3_openOf_17 ?_
        refine z_bipush (pc := 18) C dX3_openOf_18 (by decide) ?_
        refine z_icmp_ne (pc := 20) C 33 (hR (k + 1) _) (zRgL rfl) dX3_openOf_20 rfl (fun c_20 => ?_) (fun c_20 => ?_)
        · refine z_iinc (pc := 33) (lv' := [some (zrf E k), some (ziv a), some (ziv q), some (ziv (i + 1))]) C hN dX3_openOf_33 (by decide) rfl rfl ?_
          refine z_goto (pc := 36) C 4 dX3_openOf_36 rfl ?_
          exact ih _ _ (by (try unfold zRg at *); (try simp only [IX] at *); omega) hq (by omega) (by omega) (by rw [hf, zopn_st (by omega)]; first | (rw [if_pos (by assumption), if_neg (by assumption)]; done) | (rw [if_neg (by assumption)]; done)) (by omega)
        · refine z_iload_n (pc := 23) C dX3_openOf_23 rfl rfl ?_
          refine z_iload_n (pc := 24) C dX3_openOf_24 rfl rfl ?_
          refine z_icmp_ne (pc := 25) C 30 hq ha dX3_openOf_25 rfl (fun c_25 => ?_) (fun c_25 => ?_)
          · refine z_iinc (pc := 30) (lv' := [some (zrf E k), some (ziv a), some (ziv (q + 1)), some (ziv i)]) C hN dX3_openOf_30 (by decide) rfl rfl ?_
            refine z_iinc (pc := 33) (lv' := [some (zrf E k), some (ziv a), some (ziv (q + 1)), some (ziv (i + 1))]) C hN dX3_openOf_33 (by decide) rfl rfl ?_
            refine z_goto (pc := 36) C 4 dX3_openOf_36 rfl ?_
            exact ih _ _ (by (try unfold zRg at *); (try simp only [IX] at *); omega) (by (try unfold zRg at *); (try simp only [IX] at *); omega) (by omega) (by omega) (by rw [hf, zopn_st (by omega)]; first | (rw [if_pos (by assumption), if_neg (by assumption)]; done) | (rw [if_neg (by assumption)]; done)) (by omega)
          · refine z_iload_n (pc := 28) C dX3_openOf_28 rfl rfl ?_
            refine hret 29 _ _ _ dX3_openOf_29 hi hR ?_
            exact ⟨by rw [hf, zopn_st (by omega), if_pos (by assumption), if_pos (by assumption)], rfl⟩
  exact L4 _ 0 0 (zRgL rfl) (zRgL rfl) (by omega) (by omega) (by simp [xopen]) (Nat.lt_succ_self _)
set_option maxRecDepth 20000 in
theorem C_X3_closeOf (E : ZE) (σ : ZSt) (hR : zRs σ) (k : Nat) (hk : k = 19 ∨ k = 21 ∨ k = 23) (a : Int) (ha : zRg a) (hI : IX σ) : ZMi E 1 yX3_closeOf cX3_closeOf 4 (some .int) [zrf E k, ziv a] σ (fun r σ' => (r = xclose σ k a) ∧ σ' = σ) := by
  refine ZMi.intro (by decide) rfl (Nat.le_of_ble_eq_true rfl) (fun Γ C hN hret => ?_)
  show ZG E Γ 0 [some (zrf E k), some (ziv a), none, none] [] σ
  have hbd := hI.tx hk
  refine z_iconst (pc := 0) C dX3_closeOf_0 ?_
  refine z_istore_n (pc := 1) (lv' := [some (zrf E k), some (ziv a), some (ziv 0), none]) C hN dX3_closeOf_1 rfl (by decide) rfl ?_
  refine z_iload_n (pc := 2) C dX3_closeOf_2 rfl rfl ?_
  refine z_iconst (pc := 3) C dX3_closeOf_3 ?_
  refine z_max (pc := 4) C vX3_33 ha (zRgL rfl) (by decide) (Nat.le_of_ble_eq_true rfl) dX3_closeOf_4 ?_
  refine z_istore_n (pc := 7) (lv' := [some (zrf E k), some (ziv a), some (ziv 0), some (ziv (max a 0))]) C hN dX3_closeOf_7 rfl (by decide) rfl ?_
  have L8 : ∀ (n : Nat) (i d : Int), zRg i → zRg d → 0 ≤ i → - i ≤ d ∧ d ≤ i → xclose σ k a = zclo (σ (k + 1)) i.toNat (σ k 1 - i).toNat d → (σ k 1 - i).toNat < n → ZG E Γ 8 [some (zrf E k), some (ziv a), some (ziv d), some (ziv i)] [] σ := by
    intro n
    induction n with
    | zero => intro i d hi hd h0 hdi hf hm; exact absurd hm (by omega)
    | succ n ih =>
      intro i d hi hd h0 hdi hf hm
      refine z_iload_n (pc := 8) C dX3_closeOf_8 rfl rfl ?_
      refine z_aload_nZ (pc := 9) C dX3_closeOf_9 rfl rfl ?_
      refine z_getI (pc := 10) C fX3_15 (shTX hk) rfl dX3_closeOf_10 ?_
      refine z_icmp_ge (pc := 13) C 59 hi (hR k _) dX3_closeOf_13 rfl (fun c_13 => ?_) (fun c_13 => ?_)
      · refine z_iconst (pc := 59) C dX3_closeOf_59 ?_
        refine hret 60 _ _ _ dX3_closeOf_60 (zRgL rfl) hR ?_
        exact ⟨by rw [hf, show (σ k 1 - i).toNat = 0 by omega]; rfl, rfl⟩
      · refine z_aload_nZ (pc := 16) C dX3_closeOf_16 rfl rfl ?_
        refine z_getR (pc := 17) C fX3_9 (shTX hk) rfl dX3_closeOf_17 ?_
        refine z_iload_n (pc := 20) C dX3_closeOf_20 rfl rfl ?_
        refine z_iald (pc := 21) C (shTX1 hk) (by (try unfold zRg at *); (try simp only [IX] at *); omega) (by (try unfold zRg at *); (try simp only [IX] at *); omega) dX3_closeOf_21 ?_
        refine z_bipush (pc := 22) C dX3_closeOf_22 (by decide) ?_
        refine z_icmp_ne (pc := 24) C 33 (hR (k + 1) _) (zRgL rfl) dX3_closeOf_24 rfl (fun c_24 => ?_) (fun c_24 => ?_)
        · refine z_aload_nZ (pc := 33) C dX3_closeOf_33 rfl rfl ?_
          refine z_getR (pc := 34) C fX3_9 (shTX hk) rfl dX3_closeOf_34 ?_
          refine z_iload_n (pc := 37) C dX3_closeOf_37 rfl rfl ?_
          refine z_iald (pc := 38) C (shTX1 hk) (by (try unfold zRg at *); (try simp only [IX] at *); omega) (by (try unfold zRg at *); (try simp only [IX] at *); omega) dX3_closeOf_38 ?_
          refine z_bipush (pc := 39) C dX3_closeOf_39 (by decide) ?_
          refine z_icmp_ne (pc := 41) C 53 (hR (k + 1) _) (zRgL rfl) dX3_closeOf_41 rfl (fun c_41 => ?_) (fun c_41 => ?_)
          · refine z_iinc (pc := 53) (lv' := [some (zrf E k), some (ziv a), some (ziv d), some (ziv (i + 1))]) C hN dX3_closeOf_53 (by decide) rfl rfl ?_
            refine z_goto (pc := 56) C 8 dX3_closeOf_56 rfl ?_
            exact ih _ _ (by (try unfold zRg at *); (try simp only [IX] at *); omega) hd (by omega) (by omega) (by rw [hf, zclo_st (by omega)]; first | (rw [if_pos (by assumption)]; done) | (rw [if_neg (by assumption), if_pos (by assumption), if_neg (by omega)]; rfl) | (rw [if_neg (by assumption), if_neg (by assumption)]; done)) (by omega)
          · refine z_iinc (pc := 44) (lv' := [some (zrf E k), some (ziv a), some (ziv (d + (-1))), some (ziv i)]) C hN dX3_closeOf_44 (by decide) rfl rfl ?_
            refine z_iload_n (pc := 47) C dX3_closeOf_47 rfl rfl ?_
            refine z_if_ne (pc := 48) C 53 (by (try unfold zRg at *); (try simp only [IX] at *); omega) dX3_closeOf_48 rfl (fun c_48 => ?_) (fun c_48 => ?_)
            · refine z_iinc (pc := 53) (lv' := [some (zrf E k), some (ziv a), some (ziv (d + (-1))), some (ziv (i + 1))]) C hN dX3_closeOf_53 (by decide) rfl rfl ?_
              refine z_goto (pc := 56) C 8 dX3_closeOf_56 rfl ?_
              exact ih _ _ (by (try unfold zRg at *); (try simp only [IX] at *); omega) (by (try unfold zRg at *); (try simp only [IX] at *); omega) (by omega) (by omega) (by rw [hf, zclo_st (by omega)]; first | (rw [if_pos (by assumption)]; done) | (rw [if_neg (by assumption), if_pos (by assumption), if_neg (by omega)]; rfl) | (rw [if_neg (by assumption), if_neg (by assumption)]; done)) (by omega)
            · refine z_iload_n (pc := 51) C dX3_closeOf_51 rfl rfl ?_
              refine hret 52 _ _ _ dX3_closeOf_52 hi hR ?_
              exact ⟨by rw [hf, zclo_st (by omega), if_neg (by assumption), if_pos (by assumption), if_pos (by omega)], rfl⟩
        · refine z_iinc (pc := 27) (lv' := [some (zrf E k), some (ziv a), some (ziv (d + 1)), some (ziv i)]) C hN dX3_closeOf_27 (by decide) rfl rfl ?_
          refine z_goto (pc := 30) C 53 dX3_closeOf_30 rfl ?_
          refine z_iinc (pc := 53) (lv' := [some (zrf E k), some (ziv a), some (ziv (d + 1)), some (ziv (i + 1))]) C hN dX3_closeOf_53 (by decide) rfl rfl ?_
          refine z_goto (pc := 56) C 8 dX3_closeOf_56 rfl ?_
          exact ih _ _ (by (try unfold zRg at *); (try simp only [IX] at *); omega) (by (try unfold zRg at *); (try simp only [IX] at *); omega) (by omega) (by omega) (by rw [hf, zclo_st (by omega)]; first | (rw [if_pos (by assumption)]; done) | (rw [if_neg (by assumption), if_pos (by assumption), if_neg (by omega)]; rfl) | (rw [if_neg (by assumption), if_neg (by assumption)]; done)) (by omega)
  exact L8 _ (max a 0) 0 (by unfold zRg at *; omega) (zRgL rfl) (by omega) (by omega) rfl (Nat.lt_succ_self _)
set_option maxRecDepth 20000 in
theorem C_X3_copyWithoutPair (E : ZE) (σ : ZSt) (hR : zRs σ) (a : Int) (ha : zRg a) (hI : IX σ) : ZMv E 2 yX3_copyWithoutPair cX3_copyWithoutPair 6 [zrf E 23, zrf E 21, ziv a] σ (fun σ' => σ' = xskip σ 23 21 a) := by
  refine ZMv.intro (by decide) rfl (Nat.le_of_ble_eq_true rfl) (fun Γ C hN hret => ?_)
  show ZG E Γ 0 [some (zrf E 23), some (zrf E 21), some (ziv a), none, none, none] [] σ
  have hbd := hI.tx (k := 21) (Or.inr (Or.inl rfl))
  refine z_aload_nZ (pc := 0) C dX3_copyWithoutPair_0 rfl rfl ?_
  refine z_iload_n (pc := 1) C dX3_copyWithoutPair_1 rfl rfl ?_
  refine z_callVp (pc := 2) (rest := []) C (C_X3_openOf E σ hR 21 (Or.inr (Or.inl rfl)) a ha hI) vX3_26 (by decide) sh21 rfl rfl rfl (Nat.le_of_ble_eq_true rfl) dX3_copyWithoutPair_2 (fun r_2 g_2 hp_2 => ?_)
  refine z_istore_n (pc := 5) (lv' := [some (zrf E 23), some (zrf E 21), some (ziv a), some (ziv r_2), none, none]) C hN dX3_copyWithoutPair_5 rfl (by decide) rfl ?_
  refine z_aload_nZ (pc := 6) C dX3_copyWithoutPair_6 rfl rfl ?_
  refine z_iload_n (pc := 7) C dX3_copyWithoutPair_7 rfl rfl ?_
  refine z_callVp (pc := 8) (rest := []) C (C_X3_closeOf E σ hR 21 (Or.inr (Or.inl rfl)) r_2 g_2 hI) vX3_30 (by decide) sh21 rfl rfl rfl (Nat.le_of_ble_eq_true rfl) dX3_copyWithoutPair_8 (fun r_8 g_8 hp_8 => ?_)
  refine z_istore (pc := 11) (lv' := [some (zrf E 23), some (zrf E 21), some (ziv a), some (ziv r_2), some (ziv r_8), none]) C hN dX3_copyWithoutPair_11 (by decide) rfl ?_
  refine z_aload_nZ (pc := 13) C dX3_copyWithoutPair_13 rfl rfl ?_
  refine z_callVv (pc := 14) (rest := []) C (C_X3_empty E σ hR 23 (Or.inr (Or.inr rfl))) vX3_19 (by decide) sh23 rfl rfl rfl (Nat.le_of_ble_eq_true rfl) dX3_copyWithoutPair_14 (fun σ_14 hR_14 hp_14 => ?_)
  refine z_iconst (pc := 17) C dX3_copyWithoutPair_17 ?_
  refine z_istore (pc := 18) (lv' := [some (zrf E 23), some (zrf E 21), some (ziv a), some (ziv r_2), some (ziv r_8), some (ziv 0)]) C hN dX3_copyWithoutPair_18 (by decide) rfl ?_
  have L20 : ∀ (n : Nat) (i : Int) (τ : ZSt), zRg i → 0 ≤ i ∧ i ≤ σ 21 1 → τ = zst σ 23 (zskf (σ 22) r_2 r_8 i.toNat) (zskn r_2 r_8 i.toNat) → zRs τ → IX τ → (σ 21 1 - i).toNat < n → ZG E Γ 20 [some (zrf E 23), some (zrf E 21), some (ziv a), some (ziv r_2), some (ziv r_8), some (ziv i)] [] τ := by
    intro n
    induction n with
    | zero => intro i τ hi h0 ht hRt hIt hm; exact absurd hm (by omega)
    | succ n ih =>
      intro i τ hi h0 ht hRt hIt hm
      have hq : ∀ c, c ≠ 23 ∧ c ≠ 24 → τ c = σ c := fun c hc => by rw [ht]; exact zst_row hc
      have hsk := zskn_le r_2 r_8 i.toNat
      have hii : ((i.toNat : Nat) : Int) = i := by omega
      refine z_iload (pc := 20) C dX3_copyWithoutPair_20 rfl ?_
      refine z_aload_nZ (pc := 22) C dX3_copyWithoutPair_22 rfl rfl ?_
      refine z_getIe (pc := 23) (v := σ 21 1) C fX3_15 sh21 rfl dX3_copyWithoutPair_23 (by rw [hq 21 (by decide)]) ?_
      refine z_icmp_ge (pc := 26) C 60 hi (hR 21 1) dX3_copyWithoutPair_26 rfl (fun c_26 => ?_) (fun c_26 => ?_)
      · refine hret 60 _ _ dX3_copyWithoutPair_60 hRt ?_
        unfold xskip; rw [ht, show i = σ 21 1 by omega, hp_8, hp_2]
      · refine z_iload (pc := 29) C dX3_copyWithoutPair_29 rfl ?_
        refine z_iload_n (pc := 31) C dX3_copyWithoutPair_31 rfl rfl ?_
        refine z_icmp_eq (pc := 32) C 54 hi g_2 dX3_copyWithoutPair_32 rfl (fun c_32 => ?_) (fun c_32 => ?_)
        · refine z_iinc (pc := 54) (lv' := [some (zrf E 23), some (zrf E 21), some (ziv a), some (ziv r_2), some (ziv r_8), some (ziv (i + 1))]) C hN dX3_copyWithoutPair_54 (by decide) rfl rfl ?_
          refine z_goto (pc := 57) C 20 dX3_copyWithoutPair_57 rfl ?_
          first
          | exact ih _ _ (by (try unfold zRg at *); (try simp only [IX] at *); omega) (by omega) (by rw [hp_50.2, ht, xput_zst (by omega), show (i + 1).toNat = i.toNat + 1 by omega, (zsk_keep ⟨by omega, by omega⟩).1, (zsk_keep (f := σ 22) (o := r_2) (c := r_8) (p := i.toNat) ⟨by omega, by omega⟩).2]) hR_50 (by rw [hp_50.2, ht, xput_zst (by omega)]; exact hI.zst (Or.inr (Or.inr rfl)) (by omega)) (by omega)
          | exact ih _ _ (by (try unfold zRg at *); (try simp only [IX] at *); omega) (by omega) (by rw [ht, show (i + 1).toNat = i.toNat + 1 by omega, (zsk_drop (by omega)).1, (zsk_drop (f := σ 22) (o := r_2) (c := r_8) (p := i.toNat) (by omega)).2]) hRt hIt (by omega)
        · refine z_iload (pc := 35) C dX3_copyWithoutPair_35 rfl ?_
          refine z_iload (pc := 37) C dX3_copyWithoutPair_37 rfl ?_
          refine z_icmp_eq (pc := 39) C 54 hi g_8 dX3_copyWithoutPair_39 rfl (fun c_39 => ?_) (fun c_39 => ?_)
          · refine z_iinc (pc := 54) (lv' := [some (zrf E 23), some (zrf E 21), some (ziv a), some (ziv r_2), some (ziv r_8), some (ziv (i + 1))]) C hN dX3_copyWithoutPair_54 (by decide) rfl rfl ?_
            refine z_goto (pc := 57) C 20 dX3_copyWithoutPair_57 rfl ?_
            first
            | exact ih _ _ (by (try unfold zRg at *); (try simp only [IX] at *); omega) (by omega) (by rw [hp_50.2, ht, xput_zst (by omega), show (i + 1).toNat = i.toNat + 1 by omega, (zsk_keep ⟨by omega, by omega⟩).1, (zsk_keep (f := σ 22) (o := r_2) (c := r_8) (p := i.toNat) ⟨by omega, by omega⟩).2]) hR_50 (by rw [hp_50.2, ht, xput_zst (by omega)]; exact hI.zst (Or.inr (Or.inr rfl)) (by omega)) (by omega)
            | exact ih _ _ (by (try unfold zRg at *); (try simp only [IX] at *); omega) (by omega) (by rw [ht, show (i + 1).toNat = i.toNat + 1 by omega, (zsk_drop (by omega)).1, (zsk_drop (f := σ 22) (o := r_2) (c := r_8) (p := i.toNat) (by omega)).2]) hRt hIt (by omega)
          · refine z_aload_nZ (pc := 42) C dX3_copyWithoutPair_42 rfl rfl ?_
            refine z_aload_nZ (pc := 43) C dX3_copyWithoutPair_43 rfl rfl ?_
            refine z_getR (pc := 44) C fX3_9 sh21 rfl dX3_copyWithoutPair_44 ?_
            refine z_iload (pc := 47) C dX3_copyWithoutPair_47 rfl ?_
            refine z_ialde (pc := 49) (v := σ 22 i.toNat) C sh22 (by (try unfold zRg at *); (try simp only [IX] at *); omega) (by (try unfold zRg at *); (try simp only [IX] at *); omega) dX3_copyWithoutPair_49 (by rw [hq 22 (by decide)]) ?_
            refine z_callVi (pc := 50) (rest := []) C (C_X3_put E τ hRt 23 (Or.inr (Or.inr rfl)) (σ 22 i.toNat) (hR 22 _) hIt) vX3_22 (by decide) sh23 rfl rfl rfl (Nat.le_of_ble_eq_true rfl) dX3_copyWithoutPair_50 (fun r_50 σ_50 g_50 hR_50 hp_50 => ?_)
            refine z_pop (pc := 53) C dX3_copyWithoutPair_53 rfl ?_
            refine z_iinc (pc := 54) (lv' := [some (zrf E 23), some (zrf E 21), some (ziv a), some (ziv r_2), some (ziv r_8), some (ziv (i + 1))]) C hN dX3_copyWithoutPair_54 (by decide) rfl rfl ?_
            refine z_goto (pc := 57) C 20 dX3_copyWithoutPair_57 rfl ?_
            first
            | exact ih _ _ (by (try unfold zRg at *); (try simp only [IX] at *); omega) (by omega) (by rw [hp_50.2, ht, xput_zst (by omega), show (i + 1).toNat = i.toNat + 1 by omega, (zsk_keep ⟨by omega, by omega⟩).1, (zsk_keep (f := σ 22) (o := r_2) (c := r_8) (p := i.toNat) ⟨by omega, by omega⟩).2]) hR_50 (by rw [hp_50.2, ht, xput_zst (by omega)]; exact hI.zst (Or.inr (Or.inr rfl)) (by omega)) (by omega)
            | exact ih _ _ (by (try unfold zRg at *); (try simp only [IX] at *); omega) (by omega) (by rw [ht, show (i + 1).toNat = i.toNat + 1 by omega, (zsk_drop (by omega)).1, (zsk_drop (f := σ 22) (o := r_2) (c := r_8) (p := i.toNat) (by omega)).2]) hRt hIt (by omega)
  exact L20 _ 0 σ_14 (zRgL rfl) (by omega) (by rw [hp_14]; exact zst_empty σ 23 _) hR_14 (by rw [hp_14]; exact hI.upTX (Or.inr (Or.inr rfl)) (by decide)) (Nat.lt_succ_self _)
theorem xsame_end {σ : ZSt} {k q n : Nat} {a b : Int} (h : a = -1 ∨ b = -1) : xsame σ k q n a b = (a = b) := by
  cases n with
  | zero => unfold xsame; exact propext ⟨fun w => w.2, fun w => ⟨h, w⟩⟩
  | succ n => unfold xsame; rw [if_pos h]
theorem xsame_go {σ : ZSt} {k q n : Nat} {a b : Int} (h : a ≠ -1 ∧ b ≠ -1) : xsame σ k q n a b = (0 < n ∧ (xnop σ k a = xnop σ q b ∧ xnlet σ k a = xnlet σ q b) ∧ xsame σ k q (n - 1) (xnbef σ k a) (xnbef σ q b) ∧ xsame σ k q (n - 1) (xnaft σ k a) (xnaft σ q b)) := by
  cases n with
  | zero => unfold xsame; exact propext ⟨fun w => by omega, fun w => by omega⟩
  | succ n =>
    show (if _ then _ else _) = _
    rw [if_neg (by omega)]
    exact propext ⟨fun w => ⟨Nat.succ_pos n, w⟩, fun w => w.2⟩
set_option maxRecDepth 20000 in
theorem C_X5_sameTree (E : ZE) (σ : ZSt) (hR : zRs σ) (hI : IX σ) (k : Nat) (hk : k = 7 ∨ k = 13) (q : Nat) (hq : q = 7 ∨ q = 13) : ∀ (N : Nat) (a : Int) (ha : zRg a) (b : Int) (hb : zRg b) (d : Int) (hd : zRg d), (40 - d).toNat < N → ZMi E (N + 2) yX5_sameTree cX5_sameTree 5 (some .boolean) [zrf E k, ziv a, zrf E q, ziv b, ziv d] σ (fun r σ' => (r = zb (xsame σ k q (40 - d).toNat a b)) ∧ σ' = σ) := by
  intro N
  induction N with
  | zero => intro a ha b hb d hd hN; exact absurd hN (by omega)
  | succ N ih =>
  intro a ha b hb d hd hlt
  refine ZMi.introZ (by decide) rfl (Nat.le_of_ble_eq_true rfl) (fun Γ C hN hret => ?_)
  show ZG E Γ 0 [some (zrf E k), some (ziv a), some (zrf E q), some (ziv b), some (ziv d)] [] σ
  refine z_iload_n (pc := 0) C dX5_sameTree_0 rfl rfl ?_
  refine z_iconst (pc := 1) C dX5_sameTree_1 ?_
  refine z_icmp_eq (pc := 2) C 10 ha (zRgL rfl) dX5_sameTree_2 rfl (fun c_2 => ?_) (fun c_2 => ?_)
  · refine z_iload_n (pc := 10) C dX5_sameTree_10 rfl rfl ?_
    refine z_iload_n (pc := 11) C dX5_sameTree_11 rfl rfl ?_
    refine z_icmp_ne (pc := 12) C 19 ha hb dX5_sameTree_12 rfl (fun c_12 => ?_) (fun c_12 => ?_)
    · refine z_iconst (pc := 19) C dX5_sameTree_19 ?_
      refine hret 20 _ _ _ dX5_sameTree_20 (Or.inl rfl) hR ?_
      exact ⟨by rw [xsame_end (by omega)]; first | exact zb_one (by assumption) | exact zb_zero (by assumption), rfl⟩
    · refine z_iconst (pc := 15) C dX5_sameTree_15 ?_
      refine z_goto (pc := 16) C 20 dX5_sameTree_16 rfl ?_
      refine hret 20 _ _ _ dX5_sameTree_20 (Or.inr rfl) hR ?_
      exact ⟨by rw [xsame_end (by omega)]; first | exact zb_one (by assumption) | exact zb_zero (by assumption), rfl⟩
  · refine z_iload_n (pc := 5) C dX5_sameTree_5 rfl rfl ?_
    refine z_iconst (pc := 6) C dX5_sameTree_6 ?_
    refine z_icmp_ne (pc := 7) C 21 hb (zRgL rfl) dX5_sameTree_7 rfl (fun c_7 => ?_) (fun c_7 => ?_)
    · refine z_iload (pc := 21) C dX5_sameTree_21 rfl ?_
      refine z_bipush (pc := 23) C dX5_sameTree_23 (by decide) ?_
      refine z_icmp_ge (pc := 25) C 54 hd (zRgL rfl) dX5_sameTree_25 rfl (fun c_25 => ?_) (fun c_25 => ?_)
      · refine z_iconst (pc := 54) C dX5_sameTree_54 ?_
        refine hret 55 _ _ _ dX5_sameTree_55 (Or.inl rfl) hR ?_
        exact ⟨zb_zero (fun w => by rw [xsame_go (by omega)] at w; obtain ⟨w1, ⟨w2, w3⟩, w4⟩ := w; first | omega | (rw [hp_30, hp_35] at c_38; exact c_38 w2) | (rw [hp_43, hp_48] at c_51; exact c_51 w3)), rfl⟩
      · refine z_aload_nZ (pc := 28) C dX5_sameTree_28 rfl rfl ?_
        refine z_iload_n (pc := 29) C dX5_sameTree_29 rfl rfl ?_
        refine z_callVp (pc := 30) (rest := []) C (C_X0_operatorAt E σ hR k hk a ha hI) vX5_122 (by omega) (shNT hk) rfl rfl rfl (Nat.le_of_ble_eq_true rfl) dX5_sameTree_30 (fun r_30 g_30 hp_30 => ?_)
        refine z_aload_nZ (pc := 33) C dX5_sameTree_33 rfl rfl ?_
        refine z_iload_n (pc := 34) C dX5_sameTree_34 rfl rfl ?_
        refine z_callVp (pc := 35) (rest := [ziv r_30]) C (C_X0_operatorAt E σ hR q hq b hb hI) vX5_122 (by omega) (shNT hq) rfl rfl rfl (Nat.le_of_ble_eq_true rfl) dX5_sameTree_35 (fun r_35 g_35 hp_35 => ?_)
        refine z_icmp_ne (pc := 38) C 54 g_30 g_35 dX5_sameTree_38 rfl (fun c_38 => ?_) (fun c_38 => ?_)
        · refine z_iconst (pc := 54) C dX5_sameTree_54 ?_
          refine hret 55 _ _ _ dX5_sameTree_55 (Or.inl rfl) hR ?_
          exact ⟨zb_zero (fun w => by rw [xsame_go (by omega)] at w; obtain ⟨w1, ⟨w2, w3⟩, w4⟩ := w; first | omega | (rw [hp_30, hp_35] at c_38; exact c_38 w2) | (rw [hp_43, hp_48] at c_51; exact c_51 w3)), rfl⟩
        · refine z_aload_nZ (pc := 41) C dX5_sameTree_41 rfl rfl ?_
          refine z_iload_n (pc := 42) C dX5_sameTree_42 rfl rfl ?_
          refine z_callVp (pc := 43) (rest := []) C (C_X0_letterAt E σ hR k hk a ha hI) vX5_125 (by omega) (shNT hk) rfl rfl rfl (Nat.le_of_ble_eq_true rfl) dX5_sameTree_43 (fun r_43 g_43 hp_43 => ?_)
          refine z_aload_nZ (pc := 46) C dX5_sameTree_46 rfl rfl ?_
          refine z_iload_n (pc := 47) C dX5_sameTree_47 rfl rfl ?_
          refine z_callVp (pc := 48) (rest := [ziv r_43]) C (C_X0_letterAt E σ hR q hq b hb hI) vX5_125 (by omega) (shNT hq) rfl rfl rfl (Nat.le_of_ble_eq_true rfl) dX5_sameTree_48 (fun r_48 g_48 hp_48 => ?_)
          refine z_icmp_eq (pc := 51) C 56 g_43 g_48 dX5_sameTree_51 rfl (fun c_51 => ?_) (fun c_51 => ?_)
          · refine z_aload_nZ (pc := 56) C dX5_sameTree_56 rfl rfl ?_
            refine z_aload_nZ (pc := 57) C dX5_sameTree_57 rfl rfl ?_
            refine z_iload_n (pc := 58) C dX5_sameTree_58 rfl rfl ?_
            refine z_callVp (pc := 59) (rest := [zrf E k]) C (C_X0_beforeAt E σ hR k hk a ha hI) vX5_135 (by omega) (shNT hk) rfl rfl rfl (Nat.le_of_ble_eq_true rfl) dX5_sameTree_59 (fun r_59 g_59 hp_59 => ?_)
            refine z_aload_nZ (pc := 62) C dX5_sameTree_62 rfl rfl ?_
            refine z_aload_nZ (pc := 63) C dX5_sameTree_63 rfl rfl ?_
            refine z_iload_n (pc := 64) C dX5_sameTree_64 rfl rfl ?_
            refine z_callVp (pc := 65) (rest := [zrf E q, ziv r_59, zrf E k]) C (C_X0_beforeAt E σ hR q hq b hb hI) vX5_135 (by omega) (shNT hq) rfl rfl rfl (Nat.le_of_ble_eq_true rfl) dX5_sameTree_65 (fun r_65 g_65 hp_65 => ?_)
            refine z_iload (pc := 68) C dX5_sameTree_68 rfl ?_
            refine z_iconst (pc := 70) C dX5_sameTree_70 ?_
            refine z_iadd (pc := 71) C dX5_sameTree_71 ?_
            refine z_callSp (pc := 72) (rest := []) C (ih r_59 g_59 r_65 g_65 (d + 1) (by (try unfold zRg at *); (try simp only [IX] at *); omega) (by omega)) vX5_131 (by omega) rfl rfl (Nat.le_of_ble_eq_true rfl) dX5_sameTree_72 (fun r_72 g_72 hp_72 => ?_)
            refine z_if_eq (pc := 75) C 104 g_72 dX5_sameTree_75 rfl (fun c_75 => ?_) (fun c_75 => ?_)
            · have c_75 := zb0 hp_72 c_75
              refine z_iconst (pc := 104) C dX5_sameTree_104 ?_
              refine hret 105 _ _ _ dX5_sameTree_105 (Or.inl rfl) hR ?_
              have e1 : (40 - (d + 1)).toNat = (40 - d).toNat - 1 := by omega
              first
              | exact ⟨zb_one (by rw [xsame_go (by omega)]; rw [hp_59, hp_65, e1] at c_75; rw [hp_81, hp_87, e1] at c_97; exact ⟨by omega, ⟨by rw [← hp_30, ← hp_35]; assumption, by rw [← hp_43, ← hp_48]; assumption⟩, c_75, c_97⟩), rfl⟩
              | exact ⟨zb_zero (fun w => by rw [xsame_go (by omega)] at w; rw [hp_59, hp_65, e1] at c_75; exact c_75 w.2.2.1), rfl⟩
              | exact ⟨zb_zero (fun w => by rw [xsame_go (by omega)] at w; rw [hp_81, hp_87, e1] at c_97; exact c_97 w.2.2.2), rfl⟩
            · have c_75 := zb1 hp_72 c_75
              refine z_aload_nZ (pc := 78) C dX5_sameTree_78 rfl rfl ?_
              refine z_aload_nZ (pc := 79) C dX5_sameTree_79 rfl rfl ?_
              refine z_iload_n (pc := 80) C dX5_sameTree_80 rfl rfl ?_
              refine z_callVp (pc := 81) (rest := [zrf E k]) C (C_X0_afterAt E σ hR k hk a ha hI) vX5_138 (by omega) (shNT hk) rfl rfl rfl (Nat.le_of_ble_eq_true rfl) dX5_sameTree_81 (fun r_81 g_81 hp_81 => ?_)
              refine z_aload_nZ (pc := 84) C dX5_sameTree_84 rfl rfl ?_
              refine z_aload_nZ (pc := 85) C dX5_sameTree_85 rfl rfl ?_
              refine z_iload_n (pc := 86) C dX5_sameTree_86 rfl rfl ?_
              refine z_callVp (pc := 87) (rest := [zrf E q, ziv r_81, zrf E k]) C (C_X0_afterAt E σ hR q hq b hb hI) vX5_138 (by omega) (shNT hq) rfl rfl rfl (Nat.le_of_ble_eq_true rfl) dX5_sameTree_87 (fun r_87 g_87 hp_87 => ?_)
              refine z_iload (pc := 90) C dX5_sameTree_90 rfl ?_
              refine z_iconst (pc := 92) C dX5_sameTree_92 ?_
              refine z_iadd (pc := 93) C dX5_sameTree_93 ?_
              refine z_callSp (pc := 94) (rest := []) C (ih r_81 g_81 r_87 g_87 (d + 1) (by (try unfold zRg at *); (try simp only [IX] at *); omega) (by omega)) vX5_131 (by omega) rfl rfl (Nat.le_of_ble_eq_true rfl) dX5_sameTree_94 (fun r_94 g_94 hp_94 => ?_)
              refine z_if_eq (pc := 97) C 104 g_94 dX5_sameTree_97 rfl (fun c_97 => ?_) (fun c_97 => ?_)
              · have c_97 := zb0 hp_94 c_97
                refine z_iconst (pc := 104) C dX5_sameTree_104 ?_
                refine hret 105 _ _ _ dX5_sameTree_105 (Or.inl rfl) hR ?_
                have e1 : (40 - (d + 1)).toNat = (40 - d).toNat - 1 := by omega
                first
                | exact ⟨zb_one (by rw [xsame_go (by omega)]; rw [hp_59, hp_65, e1] at c_75; rw [hp_81, hp_87, e1] at c_97; exact ⟨by omega, ⟨by rw [← hp_30, ← hp_35]; assumption, by rw [← hp_43, ← hp_48]; assumption⟩, c_75, c_97⟩), rfl⟩
                | exact ⟨zb_zero (fun w => by rw [xsame_go (by omega)] at w; rw [hp_59, hp_65, e1] at c_75; exact c_75 w.2.2.1), rfl⟩
                | exact ⟨zb_zero (fun w => by rw [xsame_go (by omega)] at w; rw [hp_81, hp_87, e1] at c_97; exact c_97 w.2.2.2), rfl⟩
              · have c_97 := zb1 hp_94 c_97
                refine z_iconst (pc := 100) C dX5_sameTree_100 ?_
                refine z_goto (pc := 101) C 105 dX5_sameTree_101 rfl ?_
                refine hret 105 _ _ _ dX5_sameTree_105 (Or.inr rfl) hR ?_
                have e1 : (40 - (d + 1)).toNat = (40 - d).toNat - 1 := by omega
                first
                | exact ⟨zb_one (by rw [xsame_go (by omega)]; rw [hp_59, hp_65, e1] at c_75; rw [hp_81, hp_87, e1] at c_97; exact ⟨by omega, ⟨by rw [← hp_30, ← hp_35]; assumption, by rw [← hp_43, ← hp_48]; assumption⟩, c_75, c_97⟩), rfl⟩
                | exact ⟨zb_zero (fun w => by rw [xsame_go (by omega)] at w; rw [hp_59, hp_65, e1] at c_75; exact c_75 w.2.2.1), rfl⟩
                | exact ⟨zb_zero (fun w => by rw [xsame_go (by omega)] at w; rw [hp_81, hp_87, e1] at c_97; exact c_97 w.2.2.2), rfl⟩
          · refine z_iconst (pc := 54) C dX5_sameTree_54 ?_
            refine hret 55 _ _ _ dX5_sameTree_55 (Or.inl rfl) hR ?_
            exact ⟨zb_zero (fun w => by rw [xsame_go (by omega)] at w; obtain ⟨w1, ⟨w2, w3⟩, w4⟩ := w; first | omega | (rw [hp_30, hp_35] at c_38; exact c_38 w2) | (rw [hp_43, hp_48] at c_51; exact c_51 w3)), rfl⟩
    · refine z_iload_n (pc := 10) C dX5_sameTree_10 rfl rfl ?_
      refine z_iload_n (pc := 11) C dX5_sameTree_11 rfl rfl ?_
      refine z_icmp_ne (pc := 12) C 19 ha hb dX5_sameTree_12 rfl (fun c_12 => ?_) (fun c_12 => ?_)
      · refine z_iconst (pc := 19) C dX5_sameTree_19 ?_
        refine hret 20 _ _ _ dX5_sameTree_20 (Or.inl rfl) hR ?_
        exact ⟨by rw [xsame_end (by omega)]; first | exact zb_one (by assumption) | exact zb_zero (by assumption), rfl⟩
      · refine z_iconst (pc := 15) C dX5_sameTree_15 ?_
        refine z_goto (pc := 16) C 20 dX5_sameTree_16 rfl ?_
        refine hret 20 _ _ _ dX5_sameTree_20 (Or.inr rfl) hR ?_
        exact ⟨by rw [xsame_end (by omega)]; first | exact zb_one (by assumption) | exact zb_zero (by assumption), rfl⟩
