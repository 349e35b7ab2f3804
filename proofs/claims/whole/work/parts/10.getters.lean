set_option maxRecDepth 20000 in
theorem C_X5_isLetter (E : ZE) (σ : ZSt) (hR : zRs σ) (a : Int) (ha : zRg a) : ZMi E 0 yX5_isLetter cX5_isLetter 1 (some .boolean) [ziv a] σ (fun r σ' => (r = zb (97 ≤ a ∧ a ≤ 122)) ∧ σ' = σ) := by
  refine ZMi.introZ (by decide) rfl (Nat.le_of_ble_eq_true rfl) (fun Γ C hN hret => ?_)
  show ZG E Γ 0 [some (ziv a)] [] σ
  refine z_iload_n (pc := 0) C dX5_isLetter_0 rfl rfl ?_
  refine z_bipush (pc := 1) C dX5_isLetter_1 (by decide) ?_
  refine z_icmp_lt (pc := 3) C 16 ha (zRgL rfl) dX5_isLetter_3 rfl (fun c_3 => ?_) (fun c_3 => ?_)
  · refine z_iconst (pc := 16) C dX5_isLetter_16 ?_
    refine hret 17 _ _ _ dX5_isLetter_17 (Or.inl rfl) hR ?_
    exact ⟨zb_zero (by (try simp only [IX] at *); (first | omega | simp_all | grind)), rfl⟩
  · refine z_iload_n (pc := 6) C dX5_isLetter_6 rfl rfl ?_
    refine z_bipush (pc := 7) C dX5_isLetter_7 (by decide) ?_
    refine z_icmp_gt (pc := 9) C 16 ha (zRgL rfl) dX5_isLetter_9 rfl (fun c_9 => ?_) (fun c_9 => ?_)
    · refine z_iconst (pc := 16) C dX5_isLetter_16 ?_
      refine hret 17 _ _ _ dX5_isLetter_17 (Or.inl rfl) hR ?_
      exact ⟨zb_zero (by (try simp only [IX] at *); (first | omega | simp_all | grind)), rfl⟩
    · refine z_iconst (pc := 12) C dX5_isLetter_12 ?_
      refine z_goto (pc := 13) C 17 dX5_isLetter_13 rfl ?_
      refine hret 17 _ _ _ dX5_isLetter_17 (Or.inr rfl) hR ?_
      exact ⟨zb_one (by (try simp only [IX] at *); (first | omega | simp_all | grind)), rfl⟩
set_option maxRecDepth 20000 in
theorem C_X5_isLevel (E : ZE) (σ : ZSt) (hR : zRs σ) (a : Int) (ha : zRg a) : ZMi E 0 yX5_isLevel cX5_isLevel 1 (some .boolean) [ziv a] σ (fun r σ' => (r = zb (1 ≤ a ∧ a ≤ 9)) ∧ σ' = σ) := by
  refine ZMi.introZ (by decide) rfl (Nat.le_of_ble_eq_true rfl) (fun Γ C hN hret => ?_)
  show ZG E Γ 0 [some (ziv a)] [] σ
  refine z_iload_n (pc := 0) C dX5_isLevel_0 rfl rfl ?_
  refine z_iconst (pc := 1) C dX5_isLevel_1 ?_
  refine z_icmp_lt (pc := 2) C 15 ha (zRgL rfl) dX5_isLevel_2 rfl (fun c_2 => ?_) (fun c_2 => ?_)
  · refine z_iconst (pc := 15) C dX5_isLevel_15 ?_
    refine hret 16 _ _ _ dX5_isLevel_16 (Or.inl rfl) hR ?_
    exact ⟨zb_zero (by (try simp only [IX] at *); (first | omega | simp_all | grind)), rfl⟩
  · refine z_iload_n (pc := 5) C dX5_isLevel_5 rfl rfl ?_
    refine z_bipush (pc := 6) C dX5_isLevel_6 (by decide) ?_
    refine z_icmp_gt (pc := 8) C 15 ha (zRgL rfl) dX5_isLevel_8 rfl (fun c_8 => ?_) (fun c_8 => ?_)
    · refine z_iconst (pc := 15) C dX5_isLevel_15 ?_
      refine hret 16 _ _ _ dX5_isLevel_16 (Or.inl rfl) hR ?_
      exact ⟨zb_zero (by (try simp only [IX] at *); (first | omega | simp_all | grind)), rfl⟩
    · refine z_iconst (pc := 11) C dX5_isLevel_11 ?_
      refine z_goto (pc := 12) C 16 dX5_isLevel_12 rfl ?_
      refine hret 16 _ _ _ dX5_isLevel_16 (Or.inr rfl) hR ?_
      exact ⟨zb_one (by (try simp only [IX] at *); (first | omega | simp_all | grind)), rfl⟩
set_option maxRecDepth 20000 in
theorem C_X5_canBeSymbol (E : ZE) (σ : ZSt) (hR : zRs σ) (a : Int) (ha : zRg a) : ZMi E 1 yX5_canBeSymbol cX5_canBeSymbol 1 (some .boolean) [ziv a] σ (fun r σ' => (r = zb (33 ≤ a ∧ a ≤ 126 ∧ ¬ (97 ≤ a ∧ a ≤ 122) ∧ a ≠ 40 ∧ a ≠ 41)) ∧ σ' = σ) := by
  refine ZMi.introZ (by decide) rfl (Nat.le_of_ble_eq_true rfl) (fun Γ C hN hret => ?_)
  show ZG E Γ 0 [some (ziv a)] [] σ
  refine z_iload_n (pc := 0) C dX5_canBeSymbol_0 rfl rfl ?_
  refine z_bipush (pc := 1) C dX5_canBeSymbol_1 (by decide) ?_
  refine z_icmp_lt (pc := 3) C 35 ha (zRgL rfl) dX5_canBeSymbol_3 rfl (fun c_3 => ?_) (fun c_3 => ?_)
  · refine z_iconst (pc := 35) C dX5_canBeSymbol_35 ?_
    refine hret 36 _ _ _ dX5_canBeSymbol_36 (Or.inl rfl) hR ?_
    exact ⟨zb_zero (by (try simp only [IX] at *); (first | omega | simp_all | grind)), rfl⟩
  · refine z_iload_n (pc := 6) C dX5_canBeSymbol_6 rfl rfl ?_
    refine z_bipush (pc := 7) C dX5_canBeSymbol_7 (by decide) ?_
    refine z_icmp_gt (pc := 9) C 35 ha (zRgL rfl) dX5_canBeSymbol_9 rfl (fun c_9 => ?_) (fun c_9 => ?_)
    · refine z_iconst (pc := 35) C dX5_canBeSymbol_35 ?_
      refine hret 36 _ _ _ dX5_canBeSymbol_36 (Or.inl rfl) hR ?_
      exact ⟨zb_zero (by (try simp only [IX] at *); (first | omega | simp_all | grind)), rfl⟩
    · refine z_iload_n (pc := 12) C dX5_canBeSymbol_12 rfl rfl ?_
      refine z_callSp (pc := 13) (rest := []) C (C_X5_isLetter E σ hR a ha) vX5_108 (by decide) rfl rfl (Nat.le_of_ble_eq_true rfl) dX5_canBeSymbol_13 (fun r_13 g_13 hp_13 => ?_)
      refine z_if_ne (pc := 16) C 35 g_13 dX5_canBeSymbol_16 rfl (fun c_16 => ?_) (fun c_16 => ?_)
      · have c_16 := zb1 hp_13 c_16
        refine z_iconst (pc := 35) C dX5_canBeSymbol_35 ?_
        refine hret 36 _ _ _ dX5_canBeSymbol_36 (Or.inl rfl) hR ?_
        exact ⟨zb_zero (by (try simp only [IX] at *); (first | omega | simp_all | grind)), rfl⟩
      · have c_16 := zb0 hp_13 c_16
        refine z_iload_n (pc := 19) C dX5_canBeSymbol_19 rfl rfl ?_
        refine z_bipush (pc := 20) C dX5_canBeSymbol_20 (by decide) ?_
        refine z_icmp_eq (pc := 22) C 35 ha (zRgL rfl) dX5_canBeSymbol_22 rfl (fun c_22 => ?_) (fun c_22 => ?_)
        · refine z_iconst (pc := 35) C dX5_canBeSymbol_35 ?_
          refine hret 36 _ _ _ dX5_canBeSymbol_36 (Or.inl rfl) hR ?_
          exact ⟨zb_zero (by (try simp only [IX] at *); (first | omega | simp_all | grind)), rfl⟩
        · refine z_iload_n (pc := 25) C dX5_canBeSymbol_25 rfl rfl ?_
          refine z_bipush (pc := 26) C dX5_canBeSymbol_26 (by decide) ?_
          refine z_icmp_eq (pc := 28) C 35 ha (zRgL rfl) dX5_canBeSymbol_28 rfl (fun c_28 => ?_) (fun c_28 => ?_)
          · refine z_iconst (pc := 35) C dX5_canBeSymbol_35 ?_
            refine hret 36 _ _ _ dX5_canBeSymbol_36 (Or.inl rfl) hR ?_
            exact ⟨zb_zero (by (try simp only [IX] at *); (first | omega | simp_all | grind)), rfl⟩
          · refine z_iconst (pc := 31) C dX5_canBeSymbol_31 ?_
            refine z_goto (pc := 32) C 36 dX5_canBeSymbol_32 rfl ?_
            refine hret 36 _ _ _ dX5_canBeSymbol_36 (Or.inr rfl) hR ?_
            exact ⟨zb_one (by (try simp only [IX] at *); (first | omega | simp_all | grind)), rfl⟩
set_option maxRecDepth 20000 in
theorem C_X1_count (E : ZE) (σ : ZSt) (hR : zRs σ) : ZMi E 0 yX1_count cX1_count 1 (some .int) [zrf E 1] σ (fun r σ' => (r = σ 1 5) ∧ σ' = σ) := by
  refine ZMi.intro (by decide) rfl (Nat.le_of_ble_eq_true rfl) (fun Γ C hN hret => ?_)
  show ZG E Γ 0 [some (zrf E 1)] [] σ
  refine z_aload_nZ (pc := 0) C dX1_count_0 rfl rfl ?_
  refine z_getI (pc := 1) C fX1_28 sh1 rfl dX1_count_1 ?_
  refine hret 4 _ _ _ dX1_count_4 (hR 1 _) hR ?_
  exact ⟨by (first | rfl | omega | (split <;> first | rfl | omega) | (simp_all; done) | (split <;> split <;> first | rfl | omega) | grind), rfl⟩
set_option maxRecDepth 20000 in
theorem C_X1_has (E : ZE) (σ : ZSt) (hR : zRs σ) (a : Int) (ha : zRg a) : ZMi E 0 yX1_has cX1_has 2 (some .boolean) [zrf E 1, ziv a] σ (fun r σ' => (r = zb (0 ≤ a ∧ a < σ 1 5)) ∧ σ' = σ) := by
  refine ZMi.introZ (by decide) rfl (Nat.le_of_ble_eq_true rfl) (fun Γ C hN hret => ?_)
  show ZG E Γ 0 [some (zrf E 1), some (ziv a)] [] σ
  refine z_iload_n (pc := 0) C dX1_has_0 rfl rfl ?_
  refine z_if_lt (pc := 1) C 16 ha dX1_has_1 rfl (fun c_1 => ?_) (fun c_1 => ?_)
  · refine z_iconst (pc := 16) C dX1_has_16 ?_
    refine hret 17 _ _ _ dX1_has_17 (Or.inl rfl) hR ?_
    exact ⟨zb_zero (by (try simp only [IX] at *); (first | omega | simp_all | grind)), rfl⟩
  · refine z_iload_n (pc := 4) C dX1_has_4 rfl rfl ?_
    refine z_aload_nZ (pc := 5) C dX1_has_5 rfl rfl ?_
    refine z_getI (pc := 6) C fX1_28 sh1 rfl dX1_has_6 ?_
    refine z_icmp_ge (pc := 9) C 16 ha (hR 1 _) dX1_has_9 rfl (fun c_9 => ?_) (fun c_9 => ?_)
    · refine z_iconst (pc := 16) C dX1_has_16 ?_
      refine hret 17 _ _ _ dX1_has_17 (Or.inl rfl) hR ?_
      exact ⟨zb_zero (by (try simp only [IX] at *); (first | omega | simp_all | grind)), rfl⟩
    · refine z_iconst (pc := 12) C dX1_has_12 ?_
      refine z_goto (pc := 13) C 17 dX1_has_13 rfl ?_
      refine hret 17 _ _ _ dX1_has_17 (Or.inr rfl) hR ?_
      exact ⟨zb_one (by (try simp only [IX] at *); (first | omega | simp_all | grind)), rfl⟩
set_option maxRecDepth 20000 in
theorem C_X1_symbolAt (E : ZE) (σ : ZSt) (hR : zRs σ) (a : Int) (ha : zRg a) (hI : IX σ) : ZMi E 1 yX1_symbolAt cX1_symbolAt 2 (some .int) [zrf E 1, ziv a] σ (fun r σ' => (r = xsym σ a) ∧ σ' = σ) := by
  refine ZMi.intro (by decide) rfl (Nat.le_of_ble_eq_true rfl) (fun Γ C hN hret => ?_)
  show ZG E Γ 0 [some (zrf E 1), some (ziv a)] [] σ
  refine z_aload_nZ (pc := 0) C dX1_symbolAt_0 rfl rfl ?_
  refine z_iload_n (pc := 1) C dX1_symbolAt_1 rfl rfl ?_
  refine z_callVp (pc := 2) (rest := []) C (C_X1_has E σ hR a ha) vX1_32 (by decide) sh1 rfl rfl rfl (Nat.le_of_ble_eq_true rfl) dX1_symbolAt_2 (fun r_2 g_2 hp_2 => ?_)
  refine z_if_eq (pc := 5) C 17 g_2 dX1_symbolAt_5 rfl (fun c_5 => ?_) (fun c_5 => ?_)
  · have c_5 := zb0 hp_2 c_5
    refine z_iconst (pc := 17) C dX1_symbolAt_17 ?_
    refine hret 18 _ _ _ dX1_symbolAt_18 (zRgL rfl) hR ?_
    exact ⟨by unfold xsym; first | exact (zget_in (by assumption)).symm | exact (zget_out (by assumption)).symm, rfl⟩
  · have c_5 := zb1 hp_2 c_5
    refine z_aload_nZ (pc := 8) C dX1_symbolAt_8 rfl rfl ?_
    refine z_getR (pc := 9) C fX1_9 sh1 rfl dX1_symbolAt_9 ?_
    refine z_iload_n (pc := 12) C dX1_symbolAt_12 rfl rfl ?_
    refine z_iald (pc := 13) C sh2 (by (try unfold zRg at *); (try simp only [IX] at *); omega) (by (try unfold zRg at *); (try simp only [IX] at *); omega) dX1_symbolAt_13 ?_
    refine z_goto (pc := 14) C 18 dX1_symbolAt_14 rfl ?_
    refine hret 18 _ _ _ dX1_symbolAt_18 (hR 2 _) hR ?_
    exact ⟨by unfold xsym; first | exact (zget_in (by assumption)).symm | exact (zget_out (by assumption)).symm, rfl⟩
set_option maxRecDepth 20000 in
theorem C_X1_kindAt (E : ZE) (σ : ZSt) (hR : zRs σ) (a : Int) (ha : zRg a) (hI : IX σ) : ZMi E 1 yX1_kindAt cX1_kindAt 2 (some .int) [zrf E 1, ziv a] σ (fun r σ' => (r = xkind σ a) ∧ σ' = σ) := by
  refine ZMi.intro (by decide) rfl (Nat.le_of_ble_eq_true rfl) (fun Γ C hN hret => ?_)
  show ZG E Γ 0 [some (zrf E 1), some (ziv a)] [] σ
  refine z_aload_nZ (pc := 0) C dX1_kindAt_0 rfl rfl ?_
  refine z_iload_n (pc := 1) C dX1_kindAt_1 rfl rfl ?_
  refine z_callVp (pc := 2) (rest := []) C (C_X1_has E σ hR a ha) vX1_32 (by decide) sh1 rfl rfl rfl (Nat.le_of_ble_eq_true rfl) dX1_kindAt_2 (fun r_2 g_2 hp_2 => ?_)
  refine z_if_eq (pc := 5) C 17 g_2 dX1_kindAt_5 rfl (fun c_5 => ?_) (fun c_5 => ?_)
  · have c_5 := zb0 hp_2 c_5
    refine z_iconst (pc := 17) C dX1_kindAt_17 ?_
    refine hret 18 _ _ _ dX1_kindAt_18 (zRgL rfl) hR ?_
    exact ⟨by unfold xkind; first | exact (zget_in (by assumption)).symm | exact (zget_out (by assumption)).symm, rfl⟩
  · have c_5 := zb1 hp_2 c_5
    refine z_aload_nZ (pc := 8) C dX1_kindAt_8 rfl rfl ?_
    refine z_getR (pc := 9) C fX1_15 sh1 rfl dX1_kindAt_9 ?_
    refine z_iload_n (pc := 12) C dX1_kindAt_12 rfl rfl ?_
    refine z_iald (pc := 13) C sh3 (by (try unfold zRg at *); (try simp only [IX] at *); omega) (by (try unfold zRg at *); (try simp only [IX] at *); omega) dX1_kindAt_13 ?_
    refine z_goto (pc := 14) C 18 dX1_kindAt_14 rfl ?_
    refine hret 18 _ _ _ dX1_kindAt_18 (hR 3 _) hR ?_
    exact ⟨by unfold xkind; first | exact (zget_in (by assumption)).symm | exact (zget_out (by assumption)).symm, rfl⟩
set_option maxRecDepth 20000 in
theorem C_X1_levelAt (E : ZE) (σ : ZSt) (hR : zRs σ) (a : Int) (ha : zRg a) (hI : IX σ) : ZMi E 1 yX1_levelAt cX1_levelAt 2 (some .int) [zrf E 1, ziv a] σ (fun r σ' => (r = xlev σ a) ∧ σ' = σ) := by
  refine ZMi.intro (by decide) rfl (Nat.le_of_ble_eq_true rfl) (fun Γ C hN hret => ?_)
  show ZG E Γ 0 [some (zrf E 1), some (ziv a)] [] σ
  refine z_aload_nZ (pc := 0) C dX1_levelAt_0 rfl rfl ?_
  refine z_iload_n (pc := 1) C dX1_levelAt_1 rfl rfl ?_
  refine z_callVp (pc := 2) (rest := []) C (C_X1_has E σ hR a ha) vX1_32 (by decide) sh1 rfl rfl rfl (Nat.le_of_ble_eq_true rfl) dX1_levelAt_2 (fun r_2 g_2 hp_2 => ?_)
  refine z_if_eq (pc := 5) C 17 g_2 dX1_levelAt_5 rfl (fun c_5 => ?_) (fun c_5 => ?_)
  · have c_5 := zb0 hp_2 c_5
    refine z_iconst (pc := 17) C dX1_levelAt_17 ?_
    refine hret 18 _ _ _ dX1_levelAt_18 (zRgL rfl) hR ?_
    exact ⟨by unfold xlev; first | exact (zget_in (by assumption)).symm | exact (zget_out (by assumption)).symm, rfl⟩
  · have c_5 := zb1 hp_2 c_5
    refine z_aload_nZ (pc := 8) C dX1_levelAt_8 rfl rfl ?_
    refine z_getR (pc := 9) C fX1_18 sh1 rfl dX1_levelAt_9 ?_
    refine z_iload_n (pc := 12) C dX1_levelAt_12 rfl rfl ?_
    refine z_iald (pc := 13) C sh4 (by (try unfold zRg at *); (try simp only [IX] at *); omega) (by (try unfold zRg at *); (try simp only [IX] at *); omega) dX1_levelAt_13 ?_
    refine z_goto (pc := 14) C 18 dX1_levelAt_14 rfl ?_
    refine hret 18 _ _ _ dX1_levelAt_18 (hR 4 _) hR ?_
    exact ⟨by unfold xlev; first | exact (zget_in (by assumption)).symm | exact (zget_out (by assumption)).symm, rfl⟩
set_option maxRecDepth 20000 in
theorem C_X0_count (E : ZE) (σ : ZSt) (hR : zRs σ) (k : Nat) (hk : k = 7 ∨ k = 13) : ZMi E 0 yX0_count cX0_count 1 (some .int) [zrf E k] σ (fun r σ' => (r = σ k 5) ∧ σ' = σ) := by
  refine ZMi.intro (by decide) rfl (Nat.le_of_ble_eq_true rfl) (fun Γ C hN hret => ?_)
  show ZG E Γ 0 [some (zrf E k)] [] σ
  refine z_aload_nZ (pc := 0) C dX0_count_0 rfl rfl ?_
  refine z_getI (pc := 1) C fX0_27 (shNT hk) rfl dX0_count_1 ?_
  refine hret 4 _ _ _ dX0_count_4 (hR k _) hR ?_
  exact ⟨by (first | rfl | omega | (split <;> first | rfl | omega) | (simp_all; done) | (split <;> split <;> first | rfl | omega) | grind), rfl⟩
set_option maxRecDepth 20000 in
theorem C_X0_last (E : ZE) (σ : ZSt) (hR : zRs σ) (k : Nat) (hk : k = 7 ∨ k = 13) (hI : IX σ) : ZMi E 0 yX0_last cX0_last 1 (some .int) [zrf E k] σ (fun r σ' => (r = σ k 5 - 1) ∧ σ' = σ) := by
  refine ZMi.intro (by decide) rfl (Nat.le_of_ble_eq_true rfl) (fun Γ C hN hret => ?_)
  show ZG E Γ 0 [some (zrf E k)] [] σ
  have hbd := hI.nt hk
  refine z_aload_nZ (pc := 0) C dX0_last_0 rfl rfl ?_
  refine z_getI (pc := 1) C fX0_27 (shNT hk) rfl dX0_last_1 ?_
  refine z_iconst (pc := 4) C dX0_last_4 ?_
  refine z_isub (pc := 5) C dX0_last_5 ?_
  refine hret 6 _ _ _ dX0_last_6 (by (try unfold zRg at *); (try simp only [IX] at *); omega) hR ?_
  exact ⟨by (first | rfl | omega | (split <;> first | rfl | omega) | (simp_all; done) | (split <;> split <;> first | rfl | omega) | grind), rfl⟩
set_option maxRecDepth 20000 in
theorem C_X0_has (E : ZE) (σ : ZSt) (hR : zRs σ) (k : Nat) (hk : k = 7 ∨ k = 13) (a : Int) (ha : zRg a) : ZMi E 0 yX0_has cX0_has 2 (some .boolean) [zrf E k, ziv a] σ (fun r σ' => (r = zb (0 ≤ a ∧ a < σ k 5)) ∧ σ' = σ) := by
  refine ZMi.introZ (by decide) rfl (Nat.le_of_ble_eq_true rfl) (fun Γ C hN hret => ?_)
  show ZG E Γ 0 [some (zrf E k), some (ziv a)] [] σ
  refine z_iload_n (pc := 0) C dX0_has_0 rfl rfl ?_
  refine z_if_lt (pc := 1) C 16 ha dX0_has_1 rfl (fun c_1 => ?_) (fun c_1 => ?_)
  · refine z_iconst (pc := 16) C dX0_has_16 ?_
    refine hret 17 _ _ _ dX0_has_17 (Or.inl rfl) hR ?_
    exact ⟨zb_zero (by (try simp only [IX] at *); (first | omega | simp_all | grind)), rfl⟩
  · refine z_iload_n (pc := 4) C dX0_has_4 rfl rfl ?_
    refine z_aload_nZ (pc := 5) C dX0_has_5 rfl rfl ?_
    refine z_getI (pc := 6) C fX0_27 (shNT hk) rfl dX0_has_6 ?_
    refine z_icmp_ge (pc := 9) C 16 ha (hR k _) dX0_has_9 rfl (fun c_9 => ?_) (fun c_9 => ?_)
    · refine z_iconst (pc := 16) C dX0_has_16 ?_
      refine hret 17 _ _ _ dX0_has_17 (Or.inl rfl) hR ?_
      exact ⟨zb_zero (by (try simp only [IX] at *); (first | omega | simp_all | grind)), rfl⟩
    · refine z_iconst (pc := 12) C dX0_has_12 ?_
      refine z_goto (pc := 13) C 17 dX0_has_13 rfl ?_
      refine hret 17 _ _ _ dX0_has_17 (Or.inr rfl) hR ?_
      exact ⟨zb_one (by (try simp only [IX] at *); (first | omega | simp_all | grind)), rfl⟩
set_option maxRecDepth 20000 in
theorem C_X0_operatorAt (E : ZE) (σ : ZSt) (hR : zRs σ) (k : Nat) (hk : k = 7 ∨ k = 13) (a : Int) (ha : zRg a) (hI : IX σ) : ZMi E 1 yX0_operatorAt cX0_operatorAt 2 (some .int) [zrf E k, ziv a] σ (fun r σ' => (r = xnop σ k a) ∧ σ' = σ) := by
  refine ZMi.intro (by decide) rfl (Nat.le_of_ble_eq_true rfl) (fun Γ C hN hret => ?_)
  show ZG E Γ 0 [some (zrf E k), some (ziv a)] [] σ
  have hbd := hI.nt hk
  refine z_aload_nZ (pc := 0) C dX0_operatorAt_0 rfl rfl ?_
  refine z_iload_n (pc := 1) C dX0_operatorAt_1 rfl rfl ?_
  refine z_callVp (pc := 2) (rest := []) C (C_X0_has E σ hR k hk a ha) vX0_43 (by decide) (shNT hk) rfl rfl rfl (Nat.le_of_ble_eq_true rfl) dX0_operatorAt_2 (fun r_2 g_2 hp_2 => ?_)
  refine z_if_eq (pc := 5) C 17 g_2 dX0_operatorAt_5 rfl (fun c_5 => ?_) (fun c_5 => ?_)
  · have c_5 := zb0 hp_2 c_5
    refine z_iconst (pc := 17) C dX0_operatorAt_17 ?_
    refine hret 18 _ _ _ dX0_operatorAt_18 (zRgL rfl) hR ?_
    exact ⟨by unfold xnop; first | exact (zget_in (by assumption)).symm | exact (zget_out (by assumption)).symm, rfl⟩
  · have c_5 := zb1 hp_2 c_5
    refine z_aload_nZ (pc := 8) C dX0_operatorAt_8 rfl rfl ?_
    refine z_getR (pc := 9) C fX0_11 (shNT hk) rfl dX0_operatorAt_9 ?_
    refine z_iload_n (pc := 12) C dX0_operatorAt_12 rfl rfl ?_
    refine z_iald (pc := 13) C (shNT1 hk) (by (try unfold zRg at *); (try simp only [IX] at *); omega) (by (try unfold zRg at *); (try simp only [IX] at *); omega) dX0_operatorAt_13 ?_
    refine z_goto (pc := 14) C 18 dX0_operatorAt_14 rfl ?_
    refine hret 18 _ _ _ dX0_operatorAt_18 (hR (k + 1) _) hR ?_
    exact ⟨by unfold xnop; first | exact (zget_in (by assumption)).symm | exact (zget_out (by assumption)).symm, rfl⟩
set_option maxRecDepth 20000 in
theorem C_X0_letterAt (E : ZE) (σ : ZSt) (hR : zRs σ) (k : Nat) (hk : k = 7 ∨ k = 13) (a : Int) (ha : zRg a) (hI : IX σ) : ZMi E 1 yX0_letterAt cX0_letterAt 2 (some .int) [zrf E k, ziv a] σ (fun r σ' => (r = xnlet σ k a) ∧ σ' = σ) := by
  refine ZMi.intro (by decide) rfl (Nat.le_of_ble_eq_true rfl) (fun Γ C hN hret => ?_)
  show ZG E Γ 0 [some (zrf E k), some (ziv a)] [] σ
  have hbd := hI.nt hk
  refine z_aload_nZ (pc := 0) C dX0_letterAt_0 rfl rfl ?_
  refine z_iload_n (pc := 1) C dX0_letterAt_1 rfl rfl ?_
  refine z_callVp (pc := 2) (rest := []) C (C_X0_has E σ hR k hk a ha) vX0_43 (by decide) (shNT hk) rfl rfl rfl (Nat.le_of_ble_eq_true rfl) dX0_letterAt_2 (fun r_2 g_2 hp_2 => ?_)
  refine z_if_eq (pc := 5) C 17 g_2 dX0_letterAt_5 rfl (fun c_5 => ?_) (fun c_5 => ?_)
  · have c_5 := zb0 hp_2 c_5
    refine z_iconst (pc := 17) C dX0_letterAt_17 ?_
    refine hret 18 _ _ _ dX0_letterAt_18 (zRgL rfl) hR ?_
    exact ⟨by unfold xnlet; first | exact (zget_in (by assumption)).symm | exact (zget_out (by assumption)).symm, rfl⟩
  · have c_5 := zb1 hp_2 c_5
    refine z_aload_nZ (pc := 8) C dX0_letterAt_8 rfl rfl ?_
    refine z_getR (pc := 9) C fX0_15 (shNT hk) rfl dX0_letterAt_9 ?_
    refine z_iload_n (pc := 12) C dX0_letterAt_12 rfl rfl ?_
    refine z_iald (pc := 13) C (shNT2 hk) (by (try unfold zRg at *); (try simp only [IX] at *); omega) (by (try unfold zRg at *); (try simp only [IX] at *); omega) dX0_letterAt_13 ?_
    refine z_goto (pc := 14) C 18 dX0_letterAt_14 rfl ?_
    refine hret 18 _ _ _ dX0_letterAt_18 (hR (k + 2) _) hR ?_
    exact ⟨by unfold xnlet; first | exact (zget_in (by assumption)).symm | exact (zget_out (by assumption)).symm, rfl⟩
set_option maxRecDepth 20000 in
theorem C_X0_beforeAt (E : ZE) (σ : ZSt) (hR : zRs σ) (k : Nat) (hk : k = 7 ∨ k = 13) (a : Int) (ha : zRg a) (hI : IX σ) : ZMi E 1 yX0_beforeAt cX0_beforeAt 2 (some .int) [zrf E k, ziv a] σ (fun r σ' => (r = xnbef σ k a) ∧ σ' = σ) := by
  refine ZMi.intro (by decide) rfl (Nat.le_of_ble_eq_true rfl) (fun Γ C hN hret => ?_)
  show ZG E Γ 0 [some (zrf E k), some (ziv a)] [] σ
  have hbd := hI.nt hk
  refine z_aload_nZ (pc := 0) C dX0_beforeAt_0 rfl rfl ?_
  refine z_iload_n (pc := 1) C dX0_beforeAt_1 rfl rfl ?_
  refine z_callVp (pc := 2) (rest := []) C (C_X0_has E σ hR k hk a ha) vX0_43 (by decide) (shNT hk) rfl rfl rfl (Nat.le_of_ble_eq_true rfl) dX0_beforeAt_2 (fun r_2 g_2 hp_2 => ?_)
  refine z_if_eq (pc := 5) C 17 g_2 dX0_beforeAt_5 rfl (fun c_5 => ?_) (fun c_5 => ?_)
  · have c_5 := zb0 hp_2 c_5
    refine z_iconst (pc := 17) C dX0_beforeAt_17 ?_
    refine hret 18 _ _ _ dX0_beforeAt_18 (zRgL rfl) hR ?_
    exact ⟨by unfold xnbef; first | exact (zget_in (by assumption)).symm | exact (zget_out (by assumption)).symm, rfl⟩
  · have c_5 := zb1 hp_2 c_5
    refine z_aload_nZ (pc := 8) C dX0_beforeAt_8 rfl rfl ?_
    refine z_getR (pc := 9) C fX0_18 (shNT hk) rfl dX0_beforeAt_9 ?_
    refine z_iload_n (pc := 12) C dX0_beforeAt_12 rfl rfl ?_
    refine z_iald (pc := 13) C (shNT3 hk) (by (try unfold zRg at *); (try simp only [IX] at *); omega) (by (try unfold zRg at *); (try simp only [IX] at *); omega) dX0_beforeAt_13 ?_
    refine z_goto (pc := 14) C 18 dX0_beforeAt_14 rfl ?_
    refine hret 18 _ _ _ dX0_beforeAt_18 (hR (k + 3) _) hR ?_
    exact ⟨by unfold xnbef; first | exact (zget_in (by assumption)).symm | exact (zget_out (by assumption)).symm, rfl⟩
set_option maxRecDepth 20000 in
theorem C_X0_afterAt (E : ZE) (σ : ZSt) (hR : zRs σ) (k : Nat) (hk : k = 7 ∨ k = 13) (a : Int) (ha : zRg a) (hI : IX σ) : ZMi E 1 yX0_afterAt cX0_afterAt 2 (some .int) [zrf E k, ziv a] σ (fun r σ' => (r = xnaft σ k a) ∧ σ' = σ) := by
  refine ZMi.intro (by decide) rfl (Nat.le_of_ble_eq_true rfl) (fun Γ C hN hret => ?_)
  show ZG E Γ 0 [some (zrf E k), some (ziv a)] [] σ
  have hbd := hI.nt hk
  refine z_aload_nZ (pc := 0) C dX0_afterAt_0 rfl rfl ?_
  refine z_iload_n (pc := 1) C dX0_afterAt_1 rfl rfl ?_
  refine z_callVp (pc := 2) (rest := []) C (C_X0_has E σ hR k hk a ha) vX0_43 (by decide) (shNT hk) rfl rfl rfl (Nat.le_of_ble_eq_true rfl) dX0_afterAt_2 (fun r_2 g_2 hp_2 => ?_)
  refine z_if_eq (pc := 5) C 17 g_2 dX0_afterAt_5 rfl (fun c_5 => ?_) (fun c_5 => ?_)
  · have c_5 := zb0 hp_2 c_5
    refine z_iconst (pc := 17) C dX0_afterAt_17 ?_
    refine hret 18 _ _ _ dX0_afterAt_18 (zRgL rfl) hR ?_
    exact ⟨by unfold xnaft; first | exact (zget_in (by assumption)).symm | exact (zget_out (by assumption)).symm, rfl⟩
  · have c_5 := zb1 hp_2 c_5
    refine z_aload_nZ (pc := 8) C dX0_afterAt_8 rfl rfl ?_
    refine z_getR (pc := 9) C fX0_21 (shNT hk) rfl dX0_afterAt_9 ?_
    refine z_iload_n (pc := 12) C dX0_afterAt_12 rfl rfl ?_
    refine z_iald (pc := 13) C (shNT4 hk) (by (try unfold zRg at *); (try simp only [IX] at *); omega) (by (try unfold zRg at *); (try simp only [IX] at *); omega) dX0_afterAt_13 ?_
    refine z_goto (pc := 14) C 18 dX0_afterAt_14 rfl ?_
    refine hret 18 _ _ _ dX0_afterAt_18 (hR (k + 4) _) hR ?_
    exact ⟨by unfold xnaft; first | exact (zget_in (by assumption)).symm | exact (zget_out (by assumption)).symm, rfl⟩
set_option maxRecDepth 20000 in
theorem C_X0_sizeAt (E : ZE) (σ : ZSt) (hR : zRs σ) (k : Nat) (hk : k = 7 ∨ k = 13) (a : Int) (ha : zRg a) (hI : IX σ) : ZMi E 1 yX0_sizeAt cX0_sizeAt 2 (some .int) [zrf E k, ziv a] σ (fun r σ' => (r = xnsz σ k a) ∧ σ' = σ) := by
  refine ZMi.intro (by decide) rfl (Nat.le_of_ble_eq_true rfl) (fun Γ C hN hret => ?_)
  show ZG E Γ 0 [some (zrf E k), some (ziv a)] [] σ
  have hbd := hI.nt hk
  refine z_aload_nZ (pc := 0) C dX0_sizeAt_0 rfl rfl ?_
  refine z_iload_n (pc := 1) C dX0_sizeAt_1 rfl rfl ?_
  refine z_callVp (pc := 2) (rest := []) C (C_X0_has E σ hR k hk a ha) vX0_43 (by decide) (shNT hk) rfl rfl rfl (Nat.le_of_ble_eq_true rfl) dX0_sizeAt_2 (fun r_2 g_2 hp_2 => ?_)
  refine z_if_eq (pc := 5) C 17 g_2 dX0_sizeAt_5 rfl (fun c_5 => ?_) (fun c_5 => ?_)
  · have c_5 := zb0 hp_2 c_5
    refine z_iconst (pc := 17) C dX0_sizeAt_17 ?_
    refine hret 18 _ _ _ dX0_sizeAt_18 (zRgL rfl) hR ?_
    exact ⟨by unfold xnsz; first | exact (zget_in (by assumption)).symm | exact (zget_out (by assumption)).symm, rfl⟩
  · have c_5 := zb1 hp_2 c_5
    refine z_aload_nZ (pc := 8) C dX0_sizeAt_8 rfl rfl ?_
    refine z_getR (pc := 9) C fX0_24 (shNT hk) rfl dX0_sizeAt_9 ?_
    refine z_iload_n (pc := 12) C dX0_sizeAt_12 rfl rfl ?_
    refine z_iald (pc := 13) C (shNT5 hk) (by (try unfold zRg at *); (try simp only [IX] at *); omega) (by (try unfold zRg at *); (try simp only [IX] at *); omega) dX0_sizeAt_13 ?_
    refine z_goto (pc := 14) C 18 dX0_sizeAt_14 rfl ?_
    refine hret 18 _ _ _ dX0_sizeAt_18 (hR (k + 5) _) hR ?_
    exact ⟨by unfold xnsz; first | exact (zget_in (by assumption)).symm | exact (zget_out (by assumption)).symm, rfl⟩
set_option maxRecDepth 20000 in
theorem C_X3_length (E : ZE) (σ : ZSt) (hR : zRs σ) (k : Nat) (hk : k = 19 ∨ k = 21 ∨ k = 23) : ZMi E 0 yX3_length cX3_length 1 (some .int) [zrf E k] σ (fun r σ' => (r = σ k 1) ∧ σ' = σ) := by
  refine ZMi.intro (by decide) rfl (Nat.le_of_ble_eq_true rfl) (fun Γ C hN hret => ?_)
  show ZG E Γ 0 [some (zrf E k)] [] σ
  refine z_aload_nZ (pc := 0) C dX3_length_0 rfl rfl ?_
  refine z_getI (pc := 1) C fX3_15 (shTX hk) rfl dX3_length_1 ?_
  refine hret 4 _ _ _ dX3_length_4 (hR k _) hR ?_
  exact ⟨by (first | rfl | omega | (split <;> first | rfl | omega) | (simp_all; done) | (split <;> split <;> first | rfl | omega) | grind), rfl⟩
set_option maxRecDepth 20000 in
theorem C_X3_at (E : ZE) (σ : ZSt) (hR : zRs σ) (k : Nat) (hk : k = 19 ∨ k = 21 ∨ k = 23) (a : Int) (ha : zRg a) (hI : IX σ) : ZMi E 0 yX3_at cX3_at 2 (some .int) [zrf E k, ziv a] σ (fun r σ' => (r = xat σ k a) ∧ σ' = σ) := by
  refine ZMi.intro (by decide) rfl (Nat.le_of_ble_eq_true rfl) (fun Γ C hN hret => ?_)
  show ZG E Γ 0 [some (zrf E k), some (ziv a)] [] σ
  have hbd := hI.tx hk
  refine z_iload_n (pc := 0) C dX3_at_0 rfl rfl ?_
  refine z_if_lt (pc := 1) C 21 ha dX3_at_1 rfl (fun c_1 => ?_) (fun c_1 => ?_)
  · refine z_iconst (pc := 21) C dX3_at_21 ?_
    refine hret 22 _ _ _ dX3_at_22 (zRgL rfl) hR ?_
    exact ⟨by unfold xat; first | exact (zget_in (by omega)).symm | exact (zget_out (by omega)).symm, rfl⟩
  · refine z_iload_n (pc := 4) C dX3_at_4 rfl rfl ?_
    refine z_aload_nZ (pc := 5) C dX3_at_5 rfl rfl ?_
    refine z_getI (pc := 6) C fX3_15 (shTX hk) rfl dX3_at_6 ?_
    refine z_icmp_ge (pc := 9) C 21 ha (hR k _) dX3_at_9 rfl (fun c_9 => ?_) (fun c_9 => ?_)
    · refine z_iconst (pc := 21) C dX3_at_21 ?_
      refine hret 22 _ _ _ dX3_at_22 (zRgL rfl) hR ?_
      exact ⟨by unfold xat; first | exact (zget_in (by omega)).symm | exact (zget_out (by omega)).symm, rfl⟩
    · refine z_aload_nZ (pc := 12) C dX3_at_12 rfl rfl ?_
      refine z_getR (pc := 13) C fX3_9 (shTX hk) rfl dX3_at_13 ?_
      refine z_iload_n (pc := 16) C dX3_at_16 rfl rfl ?_
      refine z_iald (pc := 17) C (shTX1 hk) (by (try unfold zRg at *); (try simp only [IX] at *); omega) (by (try unfold zRg at *); (try simp only [IX] at *); omega) dX3_at_17 ?_
      refine z_goto (pc := 18) C 22 dX3_at_18 rfl ?_
      refine hret 22 _ _ _ dX3_at_22 (hR (k + 1) _) hR ?_
      exact ⟨by unfold xat; first | exact (zget_in (by omega)).symm | exact (zget_out (by omega)).symm, rfl⟩
