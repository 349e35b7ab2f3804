set_option maxRecDepth 20000 in
theorem C_X5_defineOperator (E : ZE) (σ : ZSt) (hR : zRs σ) (a : Int) (ha : zRg a) (b : Int) (hb : zRg b) (c : Int) (hc : zRg c) (hI : IX σ) : ZMi E 2 yX5_defineOperator cX5_defineOperator 5 (some .int) [zrf E 0, ziv a, ziv b, ziv c] σ (fun r σ' => r = (xdefine σ a b c).1 ∧ σ' = (xdefine σ a b c).2) := by
  refine ZMi.intro (by decide) rfl (Nat.le_of_ble_eq_true rfl) (fun Γ C hN hret => ?_)
  show ZG E Γ 0 [some (zrf E 0), some (ziv a), some (ziv b), some (ziv c), none] [] σ
  refine z_iload_n (pc := 0) C dX5_defineOperator_0 rfl rfl ?_
  refine z_callSp (pc := 1) (rest := []) C (C_X5_canBeSymbol E σ hR a ha) vX5_69 (by decide) rfl rfl (Nat.le_of_ble_eq_true rfl) dX5_defineOperator_1 (fun r_1 g_1 hp_1 => ?_)
  refine z_if_ne (pc := 4) C 10 g_1 dX5_defineOperator_4 rfl (fun c_4 => ?_) (fun c_4 => ?_)
  · have c_4 := zb1 hp_1 c_4
    refine z_iload_n (pc := 10) C dX5_defineOperator_10 rfl rfl ?_
    refine z_callSp (pc := 11) (rest := []) C (C_X5_isLevel E σ hR c hc) vX5_73 (by decide) rfl rfl (Nat.le_of_ble_eq_true rfl) dX5_defineOperator_11 (fun r_11 g_11 hp_11 => ?_)
    refine z_if_ne (pc := 14) C 20 g_11 dX5_defineOperator_14 rfl (fun c_14 => ?_) (fun c_14 => ?_)
    · have c_14 := zb1 hp_11 c_14
      refine z_aload_nZ (pc := 20) C dX5_defineOperator_20 rfl rfl ?_
      refine z_getR (pc := 21) C fX5_10 sh0 rfl dX5_defineOperator_21 ?_
      refine z_iload_n (pc := 24) C dX5_defineOperator_24 rfl rfl ?_
      refine z_iload_n (pc := 25) C dX5_defineOperator_25 rfl rfl ?_
      refine z_iconst (pc := 26) C dX5_defineOperator_26 ?_
      refine z_icmp_ne (pc := 27) C 34 hb (zRgL rfl) dX5_defineOperator_27 rfl (fun c_27 => ?_) (fun c_27 => ?_)
      · refine z_iconst (pc := 34) C dX5_defineOperator_34 ?_
        refine z_callVp (pc := 35) (rest := []) C (C_X1_find E σ hR a ha 0 (Or.inl rfl) hI) vX5_76 (by decide) sh1 rfl rfl rfl (Nat.le_of_ble_eq_true rfl) dX5_defineOperator_35 (fun r_35 g_35 hp_35 => ?_)
        refine z_iconst (pc := 38) C dX5_defineOperator_38 ?_
        refine z_icmp_eq (pc := 39) C 45 g_35 (zRgL rfl) dX5_defineOperator_39 rfl (fun c_39 => ?_) (fun c_39 => ?_)
        · refine z_aload_nZ (pc := 45) C dX5_defineOperator_45 rfl rfl ?_
          refine z_getR (pc := 46) C fX5_10 sh0 rfl dX5_defineOperator_46 ?_
          refine z_iload_n (pc := 49) C dX5_defineOperator_49 rfl rfl ?_
          refine z_iload_n (pc := 50) C dX5_defineOperator_50 rfl rfl ?_
          refine z_iload_n (pc := 51) C dX5_defineOperator_51 rfl rfl ?_
          refine z_callVi (pc := 52) (rest := []) C (C_X1_add E σ hR a ha b hb c hc hI (by (try unfold zRg at *); (try simp only [IX] at *); omega)) vX5_80 (by decide) sh1 rfl rfl rfl (Nat.le_of_ble_eq_true rfl) dX5_defineOperator_52 (fun r_52 σ_52 g_52 hR_52 hp_52 => ?_)
          refine z_istore (pc := 55) (lv' := [some (zrf E 0), some (ziv a), some (ziv b), some (ziv c), some (ziv r_52)]) C hN dX5_defineOperator_55 (by decide) rfl ?_
          refine z_iload (pc := 57) C dX5_defineOperator_57 rfl ?_
          refine z_iconst (pc := 59) C dX5_defineOperator_59 ?_
          refine z_icmp_ne (pc := 60) C 68 g_52 (zRgL rfl) dX5_defineOperator_60 rfl (fun c_60 => ?_) (fun c_60 => ?_)
          · refine z_iload (pc := 68) C dX5_defineOperator_68 rfl ?_
            refine hret 70 _ _ _ dX5_defineOperator_70 g_52 hR_52 ?_
            obtain ⟨hp1, hp2⟩ := hp_52
            unfold xdefine
            rw [if_neg (by simp only [Decidable.not_not]; assumption), if_neg (by simp only [Decidable.not_not]; assumption)]
            first
            | (rw [if_pos c_27, if_neg (by rw [← hp_35]; omega)])
            | (rw [if_neg c_27, if_neg (by rw [← hp_35]; omega)])
            split at hp1
            · rw [if_pos (by assumption)]; exact ⟨by omega, by rw [hp2]; unfold xopadd; rw [if_pos (by assumption)]⟩
            · rw [if_neg (by assumption)]; have h9 := hI.ops; exact ⟨by show _ = σ 1 5; omega, hp2⟩
          · refine z_bipush (pc := 63) C dX5_defineOperator_63 (by decide) ?_
            refine z_goto (pc := 65) C 70 dX5_defineOperator_65 rfl ?_
            refine hret 70 _ _ _ dX5_defineOperator_70 (zRgL rfl) hR_52 ?_
            obtain ⟨hp1, hp2⟩ := hp_52
            unfold xdefine
            rw [if_neg (by simp only [Decidable.not_not]; assumption), if_neg (by simp only [Decidable.not_not]; assumption)]
            first
            | (rw [if_pos c_27, if_neg (by rw [← hp_35]; omega)])
            | (rw [if_neg c_27, if_neg (by rw [← hp_35]; omega)])
            split at hp1
            · rw [if_pos (by assumption)]; exact ⟨by omega, by rw [hp2]; unfold xopadd; rw [if_pos (by assumption)]⟩
            · rw [if_neg (by assumption)]; have h9 := hI.ops; exact ⟨by show _ = σ 1 5; omega, hp2⟩
        · refine z_bipush (pc := 42) C dX5_defineOperator_42 (by decide) ?_
          refine hret 44 _ _ _ dX5_defineOperator_44 (zRgL rfl) hR ?_
          unfold xdefine
          rw [if_neg (by simp only [Decidable.not_not]; assumption), if_neg (by simp only [Decidable.not_not]; assumption)]
          first
          | (rw [if_pos c_27, if_pos (by rw [← hp_35]; assumption)]; exact ⟨rfl, rfl⟩)
          | (rw [if_neg c_27, if_pos (by rw [← hp_35]; assumption)]; exact ⟨rfl, rfl⟩)
      · refine z_iconst (pc := 30) C dX5_defineOperator_30 ?_
        refine z_goto (pc := 31) C 35 dX5_defineOperator_31 rfl ?_
        refine z_callVp (pc := 35) (rest := []) C (C_X1_find E σ hR a ha 1 (Or.inr rfl) hI) vX5_76 (by decide) sh1 rfl rfl rfl (Nat.le_of_ble_eq_true rfl) dX5_defineOperator_35 (fun r_35 g_35 hp_35 => ?_)
        refine z_iconst (pc := 38) C dX5_defineOperator_38 ?_
        refine z_icmp_eq (pc := 39) C 45 g_35 (zRgL rfl) dX5_defineOperator_39 rfl (fun c_39 => ?_) (fun c_39 => ?_)
        · refine z_aload_nZ (pc := 45) C dX5_defineOperator_45 rfl rfl ?_
          refine z_getR (pc := 46) C fX5_10 sh0 rfl dX5_defineOperator_46 ?_
          refine z_iload_n (pc := 49) C dX5_defineOperator_49 rfl rfl ?_
          refine z_iload_n (pc := 50) C dX5_defineOperator_50 rfl rfl ?_
          refine z_iload_n (pc := 51) C dX5_defineOperator_51 rfl rfl ?_
          refine z_callVi (pc := 52) (rest := []) C (C_X1_add E σ hR a ha b hb c hc hI (by (try unfold zRg at *); (try simp only [IX] at *); omega)) vX5_80 (by decide) sh1 rfl rfl rfl (Nat.le_of_ble_eq_true rfl) dX5_defineOperator_52 (fun r_52 σ_52 g_52 hR_52 hp_52 => ?_)
          refine z_istore (pc := 55) (lv' := [some (zrf E 0), some (ziv a), some (ziv b), some (ziv c), some (ziv r_52)]) C hN dX5_defineOperator_55 (by decide) rfl ?_
          refine z_iload (pc := 57) C dX5_defineOperator_57 rfl ?_
          refine z_iconst (pc := 59) C dX5_defineOperator_59 ?_
          refine z_icmp_ne (pc := 60) C 68 g_52 (zRgL rfl) dX5_defineOperator_60 rfl (fun c_60 => ?_) (fun c_60 => ?_)
          · refine z_iload (pc := 68) C dX5_defineOperator_68 rfl ?_
            refine hret 70 _ _ _ dX5_defineOperator_70 g_52 hR_52 ?_
            obtain ⟨hp1, hp2⟩ := hp_52
            unfold xdefine
            rw [if_neg (by simp only [Decidable.not_not]; assumption), if_neg (by simp only [Decidable.not_not]; assumption)]
            first
            | (rw [if_pos c_27, if_neg (by rw [← hp_35]; omega)])
            | (rw [if_neg c_27, if_neg (by rw [← hp_35]; omega)])
            split at hp1
            · rw [if_pos (by assumption)]; exact ⟨by omega, by rw [hp2]; unfold xopadd; rw [if_pos (by assumption)]⟩
            · rw [if_neg (by assumption)]; have h9 := hI.ops; exact ⟨by show _ = σ 1 5; omega, hp2⟩
          · refine z_bipush (pc := 63) C dX5_defineOperator_63 (by decide) ?_
            refine z_goto (pc := 65) C 70 dX5_defineOperator_65 rfl ?_
            refine hret 70 _ _ _ dX5_defineOperator_70 (zRgL rfl) hR_52 ?_
            obtain ⟨hp1, hp2⟩ := hp_52
            unfold xdefine
            rw [if_neg (by simp only [Decidable.not_not]; assumption), if_neg (by simp only [Decidable.not_not]; assumption)]
            first
            | (rw [if_pos c_27, if_neg (by rw [← hp_35]; omega)])
            | (rw [if_neg c_27, if_neg (by rw [← hp_35]; omega)])
            split at hp1
            · rw [if_pos (by assumption)]; exact ⟨by omega, by rw [hp2]; unfold xopadd; rw [if_pos (by assumption)]⟩
            · rw [if_neg (by assumption)]; have h9 := hI.ops; exact ⟨by show _ = σ 1 5; omega, hp2⟩
        · refine z_bipush (pc := 42) C dX5_defineOperator_42 (by decide) ?_
          refine hret 44 _ _ _ dX5_defineOperator_44 (zRgL rfl) hR ?_
          unfold xdefine
          rw [if_neg (by simp only [Decidable.not_not]; assumption), if_neg (by simp only [Decidable.not_not]; assumption)]
          first
          | (rw [if_pos c_27, if_pos (by rw [← hp_35]; assumption)]; exact ⟨rfl, rfl⟩)
          | (rw [if_neg c_27, if_pos (by rw [← hp_35]; assumption)]; exact ⟨rfl, rfl⟩)
    · have c_14 := zb0 hp_11 c_14
      refine z_bipush (pc := 17) C dX5_defineOperator_17 (by decide) ?_
      refine hret 19 _ _ _ dX5_defineOperator_19 (zRgL rfl) hR ?_
      unfold xdefine
      rw [if_neg (by simp only [Decidable.not_not]; assumption), if_pos (by assumption)]
      exact ⟨rfl, rfl⟩
  · have c_4 := zb0 hp_1 c_4
    refine z_bipush (pc := 7) C dX5_defineOperator_7 (by decide) ?_
    refine hret 9 _ _ _ dX5_defineOperator_9 (zRgL rfl) hR ?_
    unfold xdefine
    repeat (first | rw [if_pos (by first | assumption | omega)] | rw [if_neg (by first | assumption | omega)])
    refine ⟨?_, ?_⟩ <;> (first | rfl | assumption | (dsimp only; omega) | (simp_all; done) | grind)
set_option maxRecDepth 20000 in
theorem C_X5_defineInfix (E : ZE) (σ : ZSt) (hR : zRs σ) (a : Int) (ha : zRg a) (c : Int) (hc : zRg c) (hI : IX σ) : ZMi E 3 yX5_defineInfix cX5_defineInfix 3 (some .int) [zrf E 0, ziv a, ziv c] σ (fun r σ' => r = (xdefine σ a 0 c).1 ∧ σ' = (xdefine σ a 0 c).2) := by
  refine ZMi.intro (by decide) rfl (Nat.le_of_ble_eq_true rfl) (fun Γ C hN hret => ?_)
  show ZG E Γ 0 [some (zrf E 0), some (ziv a), some (ziv c)] [] σ
  refine z_aload_nZ (pc := 0) C dX5_defineInfix_0 rfl rfl ?_
  refine z_iload_n (pc := 1) C dX5_defineInfix_1 rfl rfl ?_
  refine z_iconst (pc := 2) C dX5_defineInfix_2 ?_
  refine z_iload_n (pc := 3) C dX5_defineInfix_3 rfl rfl ?_
  refine z_callVi (pc := 4) (rest := []) C (C_X5_defineOperator E σ hR a ha 0 (zRgL rfl) c hc hI) vX5_65 (by decide) sh0 rfl rfl rfl (Nat.le_of_ble_eq_true rfl) dX5_defineInfix_4 (fun r_4 σ_4 g_4 hR_4 hp_4 => ?_)
  refine hret 7 _ _ _ dX5_defineInfix_7 g_4 hR_4 ?_
  assumption
set_option maxRecDepth 20000 in
theorem C_X5_definePrefix (E : ZE) (σ : ZSt) (hR : zRs σ) (a : Int) (ha : zRg a) (c : Int) (hc : zRg c) (hI : IX σ) : ZMi E 3 yX5_definePrefix cX5_definePrefix 3 (some .int) [zrf E 0, ziv a, ziv c] σ (fun r σ' => r = (xdefine σ a 1 c).1 ∧ σ' = (xdefine σ a 1 c).2) := by
  refine ZMi.intro (by decide) rfl (Nat.le_of_ble_eq_true rfl) (fun Γ C hN hret => ?_)
  show ZG E Γ 0 [some (zrf E 0), some (ziv a), some (ziv c)] [] σ
  refine z_aload_nZ (pc := 0) C dX5_definePrefix_0 rfl rfl ?_
  refine z_iload_n (pc := 1) C dX5_definePrefix_1 rfl rfl ?_
  refine z_iconst (pc := 2) C dX5_definePrefix_2 ?_
  refine z_iload_n (pc := 3) C dX5_definePrefix_3 rfl rfl ?_
  refine z_callVi (pc := 4) (rest := []) C (C_X5_defineOperator E σ hR a ha 1 (zRgL rfl) c hc hI) vX5_65 (by decide) sh0 rfl rfl rfl (Nat.le_of_ble_eq_true rfl) dX5_definePrefix_4 (fun r_4 σ_4 g_4 hR_4 hp_4 => ?_)
  refine hret 7 _ _ _ dX5_definePrefix_7 g_4 hR_4 ?_
  assumption
set_option maxRecDepth 20000 in
theorem C_X5_definePostfix (E : ZE) (σ : ZSt) (hR : zRs σ) (a : Int) (ha : zRg a) (c : Int) (hc : zRg c) (hI : IX σ) : ZMi E 3 yX5_definePostfix cX5_definePostfix 3 (some .int) [zrf E 0, ziv a, ziv c] σ (fun r σ' => r = (xdefine σ a 2 c).1 ∧ σ' = (xdefine σ a 2 c).2) := by
  refine ZMi.intro (by decide) rfl (Nat.le_of_ble_eq_true rfl) (fun Γ C hN hret => ?_)
  show ZG E Γ 0 [some (zrf E 0), some (ziv a), some (ziv c)] [] σ
  refine z_aload_nZ (pc := 0) C dX5_definePostfix_0 rfl rfl ?_
  refine z_iload_n (pc := 1) C dX5_definePostfix_1 rfl rfl ?_
  refine z_iconst (pc := 2) C dX5_definePostfix_2 ?_
  refine z_iload_n (pc := 3) C dX5_definePostfix_3 rfl rfl ?_
  refine z_callVi (pc := 4) (rest := []) C (C_X5_defineOperator E σ hR a ha 2 (zRgL rfl) c hc hI) vX5_65 (by decide) sh0 rfl rfl rfl (Nat.le_of_ble_eq_true rfl) dX5_definePostfix_4 (fun r_4 σ_4 g_4 hR_4 hp_4 => ?_)
  refine hret 7 _ _ _ dX5_definePostfix_7 g_4 hR_4 ?_
  assumption
set_option maxRecDepth 20000 in
theorem C_X5_operatorCount (E : ZE) (σ : ZSt) (hR : zRs σ) : ZMi E 1 yX5_operatorCount cX5_operatorCount 1 (some .int) [zrf E 0] σ (fun r σ' => (r = σ 1 5) ∧ σ' = σ) := by
  refine ZMi.intro (by decide) rfl (Nat.le_of_ble_eq_true rfl) (fun Γ C hN hret => ?_)
  show ZG E Γ 0 [some (zrf E 0)] [] σ
  refine z_aload_nZ (pc := 0) C dX5_operatorCount_0 rfl rfl ?_
  refine z_getR (pc := 1) C fX5_10 sh0 rfl dX5_operatorCount_1 ?_
  refine z_callVp (pc := 4) (rest := []) C (C_X1_count E σ hR) vX5_83 (by decide) sh1 rfl rfl rfl (Nat.le_of_ble_eq_true rfl) dX5_operatorCount_4 (fun r_4 g_4 hp_4 => ?_)
  refine hret 7 _ _ _ dX5_operatorCount_7 g_4 hR ?_
  exact ⟨by assumption, rfl⟩
set_option maxRecDepth 20000 in
theorem C_X5_symbol (E : ZE) (σ : ZSt) (hR : zRs σ) (a : Int) (ha : zRg a) (hI : IX σ) : ZMi E 2 yX5_symbol cX5_symbol 2 (some .int) [zrf E 0, ziv a] σ (fun r σ' => (r = if 0 ≤ a ∧ a < σ 1 5 then xsym σ a else -2) ∧ σ' = σ) := by
  refine ZMi.intro (by decide) rfl (Nat.le_of_ble_eq_true rfl) (fun Γ C hN hret => ?_)
  show ZG E Γ 0 [some (zrf E 0), some (ziv a)] [] σ
  refine z_aload_nZ (pc := 0) C dX5_symbol_0 rfl rfl ?_
  refine z_getR (pc := 1) C fX5_10 sh0 rfl dX5_symbol_1 ?_
  refine z_iload_n (pc := 4) C dX5_symbol_4 rfl rfl ?_
  refine z_callVp (pc := 5) (rest := []) C (C_X1_has E σ hR a ha) vX5_87 (by decide) sh1 rfl rfl rfl (Nat.le_of_ble_eq_true rfl) dX5_symbol_5 (fun r_5 g_5 hp_5 => ?_)
  refine z_if_eq (pc := 8) C 22 g_5 dX5_symbol_8 rfl (fun c_8 => ?_) (fun c_8 => ?_)
  · have c_8 := zb0 hp_5 c_8
    refine z_bipush (pc := 22) C dX5_symbol_22 (by decide) ?_
    refine hret 24 _ _ _ dX5_symbol_24 (zRgL rfl) hR ?_
    exact ⟨by first | (rw [if_pos (by assumption)]; assumption) | rw [if_neg (by assumption)], rfl⟩
  · have c_8 := zb1 hp_5 c_8
    refine z_aload_nZ (pc := 11) C dX5_symbol_11 rfl rfl ?_
    refine z_getR (pc := 12) C fX5_10 sh0 rfl dX5_symbol_12 ?_
    refine z_iload_n (pc := 15) C dX5_symbol_15 rfl rfl ?_
    refine z_callVp (pc := 16) (rest := []) C (C_X1_symbolAt E σ hR a ha hI) vX5_90 (by decide) sh1 rfl rfl rfl (Nat.le_of_ble_eq_true rfl) dX5_symbol_16 (fun r_16 g_16 hp_16 => ?_)
    refine z_goto (pc := 19) C 24 dX5_symbol_19 rfl ?_
    refine hret 24 _ _ _ dX5_symbol_24 g_16 hR ?_
    exact ⟨by first | (rw [if_pos (by assumption)]; assumption) | rw [if_neg (by assumption)], rfl⟩
set_option maxRecDepth 20000 in
theorem C_X5_kind (E : ZE) (σ : ZSt) (hR : zRs σ) (a : Int) (ha : zRg a) (hI : IX σ) : ZMi E 2 yX5_kind cX5_kind 2 (some .int) [zrf E 0, ziv a] σ (fun r σ' => (r = if 0 ≤ a ∧ a < σ 1 5 then xkind σ a else -2) ∧ σ' = σ) := by
  refine ZMi.intro (by decide) rfl (Nat.le_of_ble_eq_true rfl) (fun Γ C hN hret => ?_)
  show ZG E Γ 0 [some (zrf E 0), some (ziv a)] [] σ
  refine z_aload_nZ (pc := 0) C dX5_kind_0 rfl rfl ?_
  refine z_getR (pc := 1) C fX5_10 sh0 rfl dX5_kind_1 ?_
  refine z_iload_n (pc := 4) C dX5_kind_4 rfl rfl ?_
  refine z_callVp (pc := 5) (rest := []) C (C_X1_has E σ hR a ha) vX5_87 (by decide) sh1 rfl rfl rfl (Nat.le_of_ble_eq_true rfl) dX5_kind_5 (fun r_5 g_5 hp_5 => ?_)
  refine z_if_eq (pc := 8) C 22 g_5 dX5_kind_8 rfl (fun c_8 => ?_) (fun c_8 => ?_)
  · have c_8 := zb0 hp_5 c_8
    refine z_bipush (pc := 22) C dX5_kind_22 (by decide) ?_
    refine hret 24 _ _ _ dX5_kind_24 (zRgL rfl) hR ?_
    exact ⟨by first | (rw [if_pos (by assumption)]; assumption) | rw [if_neg (by assumption)], rfl⟩
  · have c_8 := zb1 hp_5 c_8
    refine z_aload_nZ (pc := 11) C dX5_kind_11 rfl rfl ?_
    refine z_getR (pc := 12) C fX5_10 sh0 rfl dX5_kind_12 ?_
    refine z_iload_n (pc := 15) C dX5_kind_15 rfl rfl ?_
    refine z_callVp (pc := 16) (rest := []) C (C_X1_kindAt E σ hR a ha hI) vX5_94 (by decide) sh1 rfl rfl rfl (Nat.le_of_ble_eq_true rfl) dX5_kind_16 (fun r_16 g_16 hp_16 => ?_)
    refine z_goto (pc := 19) C 24 dX5_kind_19 rfl ?_
    refine hret 24 _ _ _ dX5_kind_24 g_16 hR ?_
    exact ⟨by first | (rw [if_pos (by assumption)]; assumption) | rw [if_neg (by assumption)], rfl⟩
set_option maxRecDepth 20000 in
theorem C_X5_setLevel (E : ZE) (σ : ZSt) (hR : zRs σ) (a : Int) (ha : zRg a) (b : Int) (hb : zRg b) (hI : IX σ) : ZMi E 3 yX5_setLevel cX5_setLevel 3 (some .int) [zrf E 0, ziv a, ziv b] σ (fun r σ' => r = (xsetlev σ a b).1 ∧ σ' = (xsetlev σ a b).2) := by
  refine ZMi.intro (by decide) rfl (Nat.le_of_ble_eq_true rfl) (fun Γ C hN hret => ?_)
  show ZG E Γ 0 [some (zrf E 0), some (ziv a), some (ziv b)] [] σ
  refine z_aload_nZ (pc := 0) C dX5_setLevel_0 rfl rfl ?_
  refine z_getR (pc := 1) C fX5_10 sh0 rfl dX5_setLevel_1 ?_
  refine z_iload_n (pc := 4) C dX5_setLevel_4 rfl rfl ?_
  refine z_callVp (pc := 5) (rest := []) C (C_X1_has E σ hR a ha) vX5_87 (by decide) sh1 rfl rfl rfl (Nat.le_of_ble_eq_true rfl) dX5_setLevel_5 (fun r_5 g_5 hp_5 => ?_)
  refine z_if_ne (pc := 8) C 14 g_5 dX5_setLevel_8 rfl (fun c_8 => ?_) (fun c_8 => ?_)
  · have c_8 := zb1 hp_5 c_8
    refine z_iload_n (pc := 14) C dX5_setLevel_14 rfl rfl ?_
    refine z_callSp (pc := 15) (rest := []) C (C_X5_isLevel E σ hR b hb) vX5_73 (by decide) rfl rfl (Nat.le_of_ble_eq_true rfl) dX5_setLevel_15 (fun r_15 g_15 hp_15 => ?_)
    refine z_if_ne (pc := 18) C 24 g_15 dX5_setLevel_18 rfl (fun c_18 => ?_) (fun c_18 => ?_)
    · have c_18 := zb1 hp_15 c_18
      refine z_aload_nZ (pc := 24) C dX5_setLevel_24 rfl rfl ?_
      refine z_getR (pc := 25) C fX5_10 sh0 rfl dX5_setLevel_25 ?_
      refine z_iload_n (pc := 28) C dX5_setLevel_28 rfl rfl ?_
      refine z_iload_n (pc := 29) C dX5_setLevel_29 rfl rfl ?_
      refine z_callVi (pc := 30) (rest := []) C (C_X1_replaceLevel E σ hR a ha b hb hI (by (try unfold zRg at *); (try simp only [IX] at *); omega)) vX5_97 (by decide) sh1 rfl rfl rfl (Nat.le_of_ble_eq_true rfl) dX5_setLevel_30 (fun r_30 σ_30 g_30 hR_30 hp_30 => ?_)
      refine hret 33 _ _ _ dX5_setLevel_33 g_30 hR_30 ?_
      unfold xsetlev
      rw [if_neg (by simp only [Decidable.not_not]; assumption), if_neg (by simp only [Decidable.not_not]; assumption)]
      exact ⟨hp_30.1, by rw [hp_30.2, if_pos (by assumption)]⟩
    · have c_18 := zb0 hp_15 c_18
      refine z_bipush (pc := 21) C dX5_setLevel_21 (by decide) ?_
      refine hret 23 _ _ _ dX5_setLevel_23 (zRgL rfl) hR ?_
      unfold xsetlev
      repeat (first | rw [if_pos (by first | assumption | omega)] | rw [if_neg (by first | assumption | omega)])
      refine ⟨?_, ?_⟩ <;> (first | rfl | assumption | (dsimp only; omega) | (simp_all; done) | grind)
  · have c_8 := zb0 hp_5 c_8
    refine z_bipush (pc := 11) C dX5_setLevel_11 (by decide) ?_
    refine hret 13 _ _ _ dX5_setLevel_13 (zRgL rfl) hR ?_
    unfold xsetlev
    repeat (first | rw [if_pos (by first | assumption | omega)] | rw [if_neg (by first | assumption | omega)])
    refine ⟨?_, ?_⟩ <;> (first | rfl | assumption | (dsimp only; omega) | (simp_all; done) | grind)
set_option maxRecDepth 20000 in
theorem C_X5_setAssociativity (E : ZE) (σ : ZSt) (hR : zRs σ) (a : Int) (ha : zRg a) (b : Int) (hb : zRg b) (hI : IX σ) : ZMi E 3 yX5_setAssociativity cX5_setAssociativity 3 (some .int) [zrf E 0, ziv a, ziv b] σ (fun r σ' => r = (xsetasc σ a b).1 ∧ σ' = (xsetasc σ a b).2) := by
  refine ZMi.intro (by decide) rfl (Nat.le_of_ble_eq_true rfl) (fun Γ C hN hret => ?_)
  show ZG E Γ 0 [some (zrf E 0), some (ziv a), some (ziv b)] [] σ
  refine z_iload_n (pc := 0) C dX5_setAssociativity_0 rfl rfl ?_
  refine z_callSp (pc := 1) (rest := []) C (C_X5_isLevel E σ hR a ha) vX5_73 (by decide) rfl rfl (Nat.le_of_ble_eq_true rfl) dX5_setAssociativity_1 (fun r_1 g_1 hp_1 => ?_)
  refine z_if_eq (pc := 4) C 16 g_1 dX5_setAssociativity_4 rfl (fun c_4 => ?_) (fun c_4 => ?_)
  · have c_4 := zb0 hp_1 c_4
    refine z_bipush (pc := 16) C dX5_setAssociativity_16 (by decide) ?_
    refine hret 18 _ _ _ dX5_setAssociativity_18 (zRgL rfl) hR ?_
    unfold xsetasc
    repeat (first | rw [if_pos (by first | assumption | omega)] | rw [if_neg (by first | assumption | omega)])
    refine ⟨?_, ?_⟩ <;> (first | rfl | assumption | (dsimp only; omega) | (simp_all; done) | grind)
  · have c_4 := zb1 hp_1 c_4
    refine z_iload_n (pc := 7) C dX5_setAssociativity_7 rfl rfl ?_
    refine z_if_lt (pc := 8) C 16 hb dX5_setAssociativity_8 rfl (fun c_8 => ?_) (fun c_8 => ?_)
    · refine z_bipush (pc := 16) C dX5_setAssociativity_16 (by decide) ?_
      refine hret 18 _ _ _ dX5_setAssociativity_18 (zRgL rfl) hR ?_
      unfold xsetasc
      repeat (first | rw [if_pos (by first | assumption | omega)] | rw [if_neg (by first | assumption | omega)])
      refine ⟨?_, ?_⟩ <;> (first | rfl | assumption | (dsimp only; omega) | (simp_all; done) | grind)
    · refine z_iload_n (pc := 11) C dX5_setAssociativity_11 rfl rfl ?_
      refine z_iconst (pc := 12) C dX5_setAssociativity_12 ?_
      refine z_icmp_le (pc := 13) C 19 hb (zRgL rfl) dX5_setAssociativity_13 rfl (fun c_13 => ?_) (fun c_13 => ?_)
      · refine z_aload_nZ (pc := 19) C dX5_setAssociativity_19 rfl rfl ?_
        refine z_getR (pc := 20) C fX5_10 sh0 rfl dX5_setAssociativity_20 ?_
        refine z_iload_n (pc := 23) C dX5_setAssociativity_23 rfl rfl ?_
        refine z_iload_n (pc := 24) C dX5_setAssociativity_24 rfl rfl ?_
        refine z_callVi (pc := 25) (rest := []) C (C_X1_replaceAssociativity E σ hR a ha b hb hI) vX5_101 (by decide) sh1 rfl rfl rfl (Nat.le_of_ble_eq_true rfl) dX5_setAssociativity_25 (fun r_25 σ_25 g_25 hR_25 hp_25 => ?_)
        refine hret 28 _ _ _ dX5_setAssociativity_28 g_25 hR_25 ?_
        unfold xsetasc
        rw [if_neg (by omega)]
        exact ⟨hp_25.1, by rw [hp_25.2, if_pos (by omega)]⟩
      · refine z_bipush (pc := 16) C dX5_setAssociativity_16 (by decide) ?_
        refine hret 18 _ _ _ dX5_setAssociativity_18 (zRgL rfl) hR ?_
        unfold xsetasc
        repeat (first | rw [if_pos (by first | assumption | omega)] | rw [if_neg (by first | assumption | omega)])
        refine ⟨?_, ?_⟩ <;> (first | rfl | assumption | (dsimp only; omega) | (simp_all; done) | grind)
set_option maxRecDepth 20000 in
theorem C_X5_setForbidden (E : ZE) (σ : ZSt) (hR : zRs σ) (a : Int) (ha : zRg a) (b : Int) (hb : zRg b) (c : Int) (hc : c = 0 ∨ c = 1) (hI : IX σ) : ZMi E 3 yX5_setForbidden cX5_setForbidden 4 (some .int) [zrf E 0, ziv a, ziv b, ziv c] σ (fun r σ' => r = (xsetforb σ a b c).1 ∧ σ' = (xsetforb σ a b c).2) := by
  refine ZMi.intro (by decide) rfl (Nat.le_of_ble_eq_true rfl) (fun Γ C hN hret => ?_)
  show ZG E Γ 0 [some (zrf E 0), some (ziv a), some (ziv b), some (ziv c)] [] σ
  refine z_aload_nZ (pc := 0) C dX5_setForbidden_0 rfl rfl ?_
  refine z_getR (pc := 1) C fX5_10 sh0 rfl dX5_setForbidden_1 ?_
  refine z_iload_n (pc := 4) C dX5_setForbidden_4 rfl rfl ?_
  refine z_callVp (pc := 5) (rest := []) C (C_X1_has E σ hR a ha) vX5_87 (by decide) sh1 rfl rfl rfl (Nat.le_of_ble_eq_true rfl) dX5_setForbidden_5 (fun r_5 g_5 hp_5 => ?_)
  refine z_if_eq (pc := 8) C 22 g_5 dX5_setForbidden_8 rfl (fun c_8 => ?_) (fun c_8 => ?_)
  · have c_8 := zb0 hp_5 c_8
    refine z_bipush (pc := 22) C dX5_setForbidden_22 (by decide) ?_
    refine hret 24 _ _ _ dX5_setForbidden_24 (zRgL rfl) hR ?_
    unfold xsetforb
    rw [if_pos (by omega)]
    exact ⟨rfl, rfl⟩
  · have c_8 := zb1 hp_5 c_8
    refine z_aload_nZ (pc := 11) C dX5_setForbidden_11 rfl rfl ?_
    refine z_getR (pc := 12) C fX5_10 sh0 rfl dX5_setForbidden_12 ?_
    refine z_iload_n (pc := 15) C dX5_setForbidden_15 rfl rfl ?_
    refine z_callVp (pc := 16) (rest := []) C (C_X1_has E σ hR b hb) vX5_87 (by decide) sh1 rfl rfl rfl (Nat.le_of_ble_eq_true rfl) dX5_setForbidden_16 (fun r_16 g_16 hp_16 => ?_)
    refine z_if_ne (pc := 19) C 25 g_16 dX5_setForbidden_19 rfl (fun c_19 => ?_) (fun c_19 => ?_)
    · have c_19 := zb1 hp_16 c_19
      refine z_aload_nZ (pc := 25) C dX5_setForbidden_25 rfl rfl ?_
      refine z_getR (pc := 26) C fX5_10 sh0 rfl dX5_setForbidden_26 ?_
      refine z_iload_n (pc := 29) C dX5_setForbidden_29 rfl rfl ?_
      refine z_iload_n (pc := 30) C dX5_setForbidden_30 rfl rfl ?_
      refine z_iload_n (pc := 31) C dX5_setForbidden_31 rfl rfl ?_
      refine z_callVi (pc := 32) (rest := []) C (C_X1_replaceForbidden E σ hR a ha b hb c hc hI) vX5_104 (by decide) sh1 rfl rfl rfl (Nat.le_of_ble_eq_true rfl) dX5_setForbidden_32 (fun r_32 σ_32 g_32 hR_32 hp_32 => ?_)
      refine z_if_eq (pc := 35) C 42 g_32 dX5_setForbidden_35 rfl (fun c_35 => ?_) (fun c_35 => ?_)
      · have c_35 := zb0 hp_32.1 c_35
        refine z_iconst (pc := 42) C dX5_setForbidden_42 ?_
        refine hret 43 _ _ _ dX5_setForbidden_43 (zRgL rfl) hR_32 ?_
        unfold xsetforb
        rw [if_neg (by simp only [Decidable.not_not]; exact ⟨by assumption, by assumption⟩)]
        refine ⟨?_, ?_⟩
        · first | exact zb_one (by assumption) | exact zb_zero (by assumption)
        · rw [hp_32.2, if_pos ⟨by assumption, by assumption⟩]
      · have c_35 := zb1 hp_32.1 c_35
        refine z_iconst (pc := 38) C dX5_setForbidden_38 ?_
        refine z_goto (pc := 39) C 43 dX5_setForbidden_39 rfl ?_
        refine hret 43 _ _ _ dX5_setForbidden_43 (zRgL rfl) hR_32 ?_
        unfold xsetforb
        rw [if_neg (by simp only [Decidable.not_not]; exact ⟨by assumption, by assumption⟩)]
        refine ⟨?_, ?_⟩
        · first | exact zb_one (by assumption) | exact zb_zero (by assumption)
        · rw [hp_32.2, if_pos ⟨by assumption, by assumption⟩]
    · have c_19 := zb0 hp_16 c_19
      refine z_bipush (pc := 22) C dX5_setForbidden_22 (by decide) ?_
      refine hret 24 _ _ _ dX5_setForbidden_24 (zRgL rfl) hR ?_
      unfold xsetforb
      rw [if_pos (by omega)]
      exact ⟨rfl, rfl⟩
set_option maxRecDepth 20000 in
theorem C_X5_leaf (E : ZE) (σ : ZSt) (hR : zRs σ) (a : Int) (ha : zRg a) (hI : IX σ) : ZMi E 3 yX5_leaf cX5_leaf 2 (some .int) [zrf E 0, ziv a] σ (fun r σ' => r = (xleaf σ a).1 ∧ σ' = (xleaf σ a).2) := by
  refine ZMi.intro (by decide) rfl (Nat.le_of_ble_eq_true rfl) (fun Γ C hN hret => ?_)
  show ZG E Γ 0 [some (zrf E 0), some (ziv a)] [] σ
  refine z_iload_n (pc := 0) C dX5_leaf_0 rfl rfl ?_
  refine z_callSp (pc := 1) (rest := []) C (C_X5_isLetter E σ hR a ha) vX5_108 (by decide) rfl rfl (Nat.le_of_ble_eq_true rfl) dX5_leaf_1 (fun r_1 g_1 hp_1 => ?_)
  refine z_if_ne (pc := 4) C 10 g_1 dX5_leaf_4 rfl (fun c_4 => ?_) (fun c_4 => ?_)
  · have c_4 := zb1 hp_1 c_4
    refine z_aload_nZ (pc := 10) C dX5_leaf_10 rfl rfl ?_
    refine z_getR (pc := 11) C fX5_19 sh0 rfl dX5_leaf_11 ?_
    refine z_callVp (pc := 14) (rest := []) C (C_X0_count E σ hR 7 (Or.inl rfl)) vX5_111 (by decide) sh7 rfl rfl rfl (Nat.le_of_ble_eq_true rfl) dX5_leaf_14 (fun r_14 g_14 hp_14 => ?_)
    refine z_bipush (pc := 17) C dX5_leaf_17 (by decide) ?_
    refine z_icmp_lt (pc := 19) C 25 g_14 (zRgL rfl) dX5_leaf_19 rfl (fun c_19 => ?_) (fun c_19 => ?_)
    · refine z_aload_nZ (pc := 25) C dX5_leaf_25 rfl rfl ?_
      refine z_getR (pc := 26) C fX5_19 sh0 rfl dX5_leaf_26 ?_
      refine z_iconst (pc := 29) C dX5_leaf_29 ?_
      refine z_iload_n (pc := 30) C dX5_leaf_30 rfl rfl ?_
      refine z_iconst (pc := 31) C dX5_leaf_31 ?_
      refine z_iconst (pc := 32) C dX5_leaf_32 ?_
      refine z_callVi (pc := 33) (rest := []) C (C_X0_add E σ hR 7 (Or.inl rfl) (-1) (zRgL rfl) a ha (-1) (zRgL rfl) (-1) (zRgL rfl) hI) vX5_112 (by decide) sh7 rfl rfl rfl (Nat.le_of_ble_eq_true rfl) dX5_leaf_33 (fun r_33 σ_33 g_33 hR_33 hp_33 => ?_)
      refine hret 36 _ _ _ dX5_leaf_36 g_33 hR_33 ?_
      unfold xleaf
      rw [if_neg (by omega), if_neg (by omega)]
      exact ⟨by rw [hp_33.1]; exact xnaddr_lt (by omega), hp_33.2⟩
    · refine z_bipush (pc := 22) C dX5_leaf_22 (by decide) ?_
      refine hret 24 _ _ _ dX5_leaf_24 (zRgL rfl) hR ?_
      unfold xleaf
      repeat (first | rw [if_pos (by first | assumption | omega)] | rw [if_neg (by first | assumption | omega)])
      refine ⟨?_, ?_⟩ <;> (first | rfl | assumption | (dsimp only; omega) | (simp_all; done) | grind)
  · have c_4 := zb0 hp_1 c_4
    refine z_bipush (pc := 7) C dX5_leaf_7 (by decide) ?_
    refine hret 9 _ _ _ dX5_leaf_9 (zRgL rfl) hR ?_
    unfold xleaf
    repeat (first | rw [if_pos (by first | assumption | omega)] | rw [if_neg (by first | assumption | omega)])
    refine ⟨?_, ?_⟩ <;> (first | rfl | assumption | (dsimp only; omega) | (simp_all; done) | grind)
set_option maxRecDepth 20000 in
theorem C_X5_addOperatorNode (E : ZE) (σ : ZSt) (hR : zRs σ) (a : Int) (ha : zRg a) (b : Int) (hb : zRg b) (c : Int) (hc : zRg c) (hI : IX σ) (hsz : ∀ q, 0 ≤ xnsz σ 7 q ∧ xnsz σ 7 q ≤ 40) : ZMi E 3 yX5_addOperatorNode cX5_addOperatorNode 4 (some .int) [zrf E 0, ziv a, ziv b, ziv c] σ (fun r σ' => r = (xadd3 σ a b c).1 ∧ σ' = (xadd3 σ a b c).2) := by
  refine ZMi.intro (by decide) rfl (Nat.le_of_ble_eq_true rfl) (fun Γ C hN hret => ?_)
  show ZG E Γ 0 [some (zrf E 0), some (ziv a), some (ziv b), some (ziv c)] [] σ
  have hs1 := hsz b
  have hs2 := hsz c
  refine z_iconst (pc := 0) C dX5_addOperatorNode_0 ?_
  refine z_aload_nZ (pc := 1) C dX5_addOperatorNode_1 rfl rfl ?_
  refine z_getR (pc := 2) C fX5_19 sh0 rfl dX5_addOperatorNode_2 ?_
  refine z_iload_n (pc := 5) C dX5_addOperatorNode_5 rfl rfl ?_
  refine z_callVp (pc := 6) (rest := [ziv 1]) C (C_X0_sizeAt E σ hR 7 (Or.inl rfl) b hb hI) vX5_119 (by decide) sh7 rfl rfl rfl (Nat.le_of_ble_eq_true rfl) dX5_addOperatorNode_6 (fun r_6 g_6 hp_6 => ?_)
  refine z_iadd (pc := 9) C dX5_addOperatorNode_9 ?_
  refine z_aload_nZ (pc := 10) C dX5_addOperatorNode_10 rfl rfl ?_
  refine z_getR (pc := 11) C fX5_19 sh0 rfl dX5_addOperatorNode_11 ?_
  refine z_iload_n (pc := 14) C dX5_addOperatorNode_14 rfl rfl ?_
  refine z_callVp (pc := 15) (rest := [ziv (1 + r_6)]) C (C_X0_sizeAt E σ hR 7 (Or.inl rfl) c hc hI) vX5_119 (by decide) sh7 rfl rfl rfl (Nat.le_of_ble_eq_true rfl) dX5_addOperatorNode_15 (fun r_15 g_15 hp_15 => ?_)
  refine z_iadd (pc := 18) C dX5_addOperatorNode_18 ?_
  refine z_bipush (pc := 19) C dX5_addOperatorNode_19 (by decide) ?_
  refine z_icmp_le (pc := 21) C 27 (by unfold zRg; omega) (zRgL rfl) dX5_addOperatorNode_21 rfl (fun c_21 => ?_) (fun c_21 => ?_)
  · refine z_aload_nZ (pc := 27) C dX5_addOperatorNode_27 rfl rfl ?_
    refine z_getR (pc := 28) C fX5_19 sh0 rfl dX5_addOperatorNode_28 ?_
    refine z_callVp (pc := 31) (rest := []) C (C_X0_count E σ hR 7 (Or.inl rfl)) vX5_111 (by decide) sh7 rfl rfl rfl (Nat.le_of_ble_eq_true rfl) dX5_addOperatorNode_31 (fun r_31 g_31 hp_31 => ?_)
    refine z_bipush (pc := 34) C dX5_addOperatorNode_34 (by decide) ?_
    refine z_icmp_lt (pc := 36) C 42 g_31 (zRgL rfl) dX5_addOperatorNode_36 rfl (fun c_36 => ?_) (fun c_36 => ?_)
    · refine z_aload_nZ (pc := 42) C dX5_addOperatorNode_42 rfl rfl ?_
      refine z_getR (pc := 43) C fX5_19 sh0 rfl dX5_addOperatorNode_43 ?_
      refine z_iload_n (pc := 46) C dX5_addOperatorNode_46 rfl rfl ?_
      refine z_iconst (pc := 47) C dX5_addOperatorNode_47 ?_
      refine z_iload_n (pc := 48) C dX5_addOperatorNode_48 rfl rfl ?_
      refine z_iload_n (pc := 49) C dX5_addOperatorNode_49 rfl rfl ?_
      refine z_callVi (pc := 50) (rest := []) C (C_X0_add E σ hR 7 (Or.inl rfl) a ha (-1) (zRgL rfl) b hb c hc hI) vX5_112 (by decide) sh7 rfl rfl rfl (Nat.le_of_ble_eq_true rfl) dX5_addOperatorNode_50 (fun r_50 σ_50 g_50 hR_50 hp_50 => ?_)
      refine hret 53 _ _ _ dX5_addOperatorNode_53 g_50 hR_50 ?_
      unfold xadd3
      rw [if_neg (by omega), if_neg (by omega)]
      exact ⟨by rw [hp_50.1]; exact xnaddr_lt (by omega), hp_50.2⟩
    · refine z_bipush (pc := 39) C dX5_addOperatorNode_39 (by decide) ?_
      refine hret 41 _ _ _ dX5_addOperatorNode_41 (zRgL rfl) hR ?_
      unfold xadd3
      repeat (first | rw [if_pos (by first | assumption | omega)] | rw [if_neg (by first | assumption | omega)])
      refine ⟨?_, ?_⟩ <;> (first | rfl | assumption | (dsimp only; omega) | (simp_all; done) | grind)
  · refine z_bipush (pc := 24) C dX5_addOperatorNode_24 (by decide) ?_
    refine hret 26 _ _ _ dX5_addOperatorNode_26 (zRgL rfl) hR ?_
    unfold xadd3
    repeat (first | rw [if_pos (by first | assumption | omega)] | rw [if_neg (by first | assumption | omega)])
    refine ⟨?_, ?_⟩ <;> (first | rfl | assumption | (dsimp only; omega) | (simp_all; done) | grind)
set_option maxRecDepth 20000 in
theorem C_X5_unary (E : ZE) (σ : ZSt) (hR : zRs σ) (a : Int) (ha : zRg a) (b : Int) (hb : zRg b) (hI : IX σ) (hsz : ∀ q, 0 ≤ xnsz σ 7 q ∧ xnsz σ 7 q ≤ 40) : ZMi E 4 yX5_unary cX5_unary 4 (some .int) [zrf E 0, ziv a, ziv b] σ (fun r σ' => r = (xunary σ a b).1 ∧ σ' = (xunary σ a b).2) := by
  refine ZMi.intro (by decide) rfl (Nat.le_of_ble_eq_true rfl) (fun Γ C hN hret => ?_)
  show ZG E Γ 0 [some (zrf E 0), some (ziv a), some (ziv b), none] [] σ
  refine z_aload_nZ (pc := 0) C dX5_unary_0 rfl rfl ?_
  refine z_getR (pc := 1) C fX5_10 sh0 rfl dX5_unary_1 ?_
  refine z_iload_n (pc := 4) C dX5_unary_4 rfl rfl ?_
  refine z_callVp (pc := 5) (rest := []) C (C_X1_has E σ hR a ha) vX5_87 (by decide) sh1 rfl rfl rfl (Nat.le_of_ble_eq_true rfl) dX5_unary_5 (fun r_5 g_5 hp_5 => ?_)
  refine z_if_ne (pc := 8) C 14 g_5 dX5_unary_8 rfl (fun c_8 => ?_) (fun c_8 => ?_)
  · have c_8 := zb1 hp_5 c_8
    refine z_aload_nZ (pc := 14) C dX5_unary_14 rfl rfl ?_
    refine z_getR (pc := 15) C fX5_10 sh0 rfl dX5_unary_15 ?_
    refine z_iload_n (pc := 18) C dX5_unary_18 rfl rfl ?_
    refine z_callVp (pc := 19) (rest := []) C (C_X1_kindAt E σ hR a ha hI) vX5_94 (by decide) sh1 rfl rfl rfl (Nat.le_of_ble_eq_true rfl) dX5_unary_19 (fun r_19 g_19 hp_19 => ?_)
    refine z_istore_n (pc := 22) (lv' := [some (zrf E 0), some (ziv a), some (ziv b), some (ziv r_19)]) C hN dX5_unary_22 rfl (by decide) rfl ?_
    refine z_iload_n (pc := 23) C dX5_unary_23 rfl rfl ?_
    refine z_if_ne (pc := 24) C 30 g_19 dX5_unary_24 rfl (fun c_24 => ?_) (fun c_24 => ?_)
    · refine z_aload_nZ (pc := 30) C dX5_unary_30 rfl rfl ?_
      refine z_getR (pc := 31) C fX5_19 sh0 rfl dX5_unary_31 ?_
      refine z_iload_n (pc := 34) C dX5_unary_34 rfl rfl ?_
      refine z_callVp (pc := 35) (rest := []) C (C_X0_has E σ hR 7 (Or.inl rfl) b hb) vX5_115 (by decide) sh7 rfl rfl rfl (Nat.le_of_ble_eq_true rfl) dX5_unary_35 (fun r_35 g_35 hp_35 => ?_)
      refine z_if_ne (pc := 38) C 43 g_35 dX5_unary_38 rfl (fun c_38 => ?_) (fun c_38 => ?_)
      · have c_38 := zb1 hp_35 c_38
        refine z_iload_n (pc := 43) C dX5_unary_43 rfl rfl ?_
        refine z_iconst (pc := 44) C dX5_unary_44 ?_
        refine z_icmp_ne (pc := 45) C 58 g_19 (zRgL rfl) dX5_unary_45 rfl (fun c_45 => ?_) (fun c_45 => ?_)
        · refine z_aload_nZ (pc := 58) C dX5_unary_58 rfl rfl ?_
          refine z_iload_n (pc := 59) C dX5_unary_59 rfl rfl ?_
          refine z_iload_n (pc := 60) C dX5_unary_60 rfl rfl ?_
          refine z_iconst (pc := 61) C dX5_unary_61 ?_
          refine z_callVi (pc := 62) (rest := []) C (C_X5_addOperatorNode E σ hR a ha b hb (-1) (zRgL rfl) hI hsz) vX5_116 (by decide) sh0 rfl rfl rfl (Nat.le_of_ble_eq_true rfl) dX5_unary_62 (fun r_62 σ_62 g_62 hR_62 hp_62 => ?_)
          refine hret 65 _ _ _ dX5_unary_65 g_62 hR_62 ?_
          unfold xunary
          repeat (first | rw [if_pos (by first | assumption | omega)] | rw [if_neg (by first | assumption | omega)])
          refine ⟨?_, ?_⟩ <;> (first | rfl | assumption | (dsimp only; omega) | (simp_all; done) | grind)
        · refine z_aload_nZ (pc := 48) C dX5_unary_48 rfl rfl ?_
          refine z_iload_n (pc := 49) C dX5_unary_49 rfl rfl ?_
          refine z_iconst (pc := 50) C dX5_unary_50 ?_
          refine z_iload_n (pc := 51) C dX5_unary_51 rfl rfl ?_
          refine z_callVi (pc := 52) (rest := []) C (C_X5_addOperatorNode E σ hR a ha (-1) (zRgL rfl) b hb hI hsz) vX5_116 (by decide) sh0 rfl rfl rfl (Nat.le_of_ble_eq_true rfl) dX5_unary_52 (fun r_52 σ_52 g_52 hR_52 hp_52 => ?_)
          refine z_goto (pc := 55) C 65 dX5_unary_55 rfl ?_
          refine hret 65 _ _ _ dX5_unary_65 g_52 hR_52 ?_
          unfold xunary
          repeat (first | rw [if_pos (by first | assumption | omega)] | rw [if_neg (by first | assumption | omega)])
          refine ⟨?_, ?_⟩ <;> (first | rfl | assumption | (dsimp only; omega) | (simp_all; done) | grind)
      · have c_38 := zb0 hp_35 c_38
        refine z_iconst (pc := 41) C dX5_unary_41 ?_
        refine hret 42 _ _ _ dX5_unary_42 (zRgL rfl) hR ?_
        unfold xunary
        repeat (first | rw [if_pos (by first | assumption | omega)] | rw [if_neg (by first | assumption | omega)])
        refine ⟨?_, ?_⟩ <;> (first | rfl | assumption | (dsimp only; omega) | (simp_all; done) | grind)
    · refine z_bipush (pc := 27) C dX5_unary_27 (by decide) ?_
      refine hret 29 _ _ _ dX5_unary_29 (zRgL rfl) hR ?_
      unfold xunary
      repeat (first | rw [if_pos (by first | assumption | omega)] | rw [if_neg (by first | assumption | omega)])
      refine ⟨?_, ?_⟩ <;> (first | rfl | assumption | (dsimp only; omega) | (simp_all; done) | grind)
  · have c_8 := zb0 hp_5 c_8
    refine z_bipush (pc := 11) C dX5_unary_11 (by decide) ?_
    refine hret 13 _ _ _ dX5_unary_13 (zRgL rfl) hR ?_
    unfold xunary
    repeat (first | rw [if_pos (by first | assumption | omega)] | rw [if_neg (by first | assumption | omega)])
    refine ⟨?_, ?_⟩ <;> (first | rfl | assumption | (dsimp only; omega) | (simp_all; done) | grind)
set_option maxRecDepth 20000 in
theorem C_X5_binary (E : ZE) (σ : ZSt) (hR : zRs σ) (a : Int) (ha : zRg a) (b : Int) (hb : zRg b) (c : Int) (hc : zRg c) (hI : IX σ) (hsz : ∀ q, 0 ≤ xnsz σ 7 q ∧ xnsz σ 7 q ≤ 40) : ZMi E 4 yX5_binary cX5_binary 4 (some .int) [zrf E 0, ziv a, ziv b, ziv c] σ (fun r σ' => r = (xbinary σ a b c).1 ∧ σ' = (xbinary σ a b c).2) := by
  refine ZMi.intro (by decide) rfl (Nat.le_of_ble_eq_true rfl) (fun Γ C hN hret => ?_)
  show ZG E Γ 0 [some (zrf E 0), some (ziv a), some (ziv b), some (ziv c)] [] σ
  refine z_aload_nZ (pc := 0) C dX5_binary_0 rfl rfl ?_
  refine z_getR (pc := 1) C fX5_10 sh0 rfl dX5_binary_1 ?_
  refine z_iload_n (pc := 4) C dX5_binary_4 rfl rfl ?_
  refine z_callVp (pc := 5) (rest := []) C (C_X1_has E σ hR a ha) vX5_87 (by decide) sh1 rfl rfl rfl (Nat.le_of_ble_eq_true rfl) dX5_binary_5 (fun r_5 g_5 hp_5 => ?_)
  refine z_if_ne (pc := 8) C 14 g_5 dX5_binary_8 rfl (fun c_8 => ?_) (fun c_8 => ?_)
  · have c_8 := zb1 hp_5 c_8
    refine z_aload_nZ (pc := 14) C dX5_binary_14 rfl rfl ?_
    refine z_getR (pc := 15) C fX5_10 sh0 rfl dX5_binary_15 ?_
    refine z_iload_n (pc := 18) C dX5_binary_18 rfl rfl ?_
    refine z_callVp (pc := 19) (rest := []) C (C_X1_kindAt E σ hR a ha hI) vX5_94 (by decide) sh1 rfl rfl rfl (Nat.le_of_ble_eq_true rfl) dX5_binary_19 (fun r_19 g_19 hp_19 => ?_)
    refine z_if_eq (pc := 22) C 28 g_19 dX5_binary_22 rfl (fun c_22 => ?_) (fun c_22 => ?_)
    · refine z_aload_nZ (pc := 28) C dX5_binary_28 rfl rfl ?_
      refine z_getR (pc := 29) C fX5_19 sh0 rfl dX5_binary_29 ?_
      refine z_iload_n (pc := 32) C dX5_binary_32 rfl rfl ?_
      refine z_callVp (pc := 33) (rest := []) C (C_X0_has E σ hR 7 (Or.inl rfl) b hb) vX5_115 (by decide) sh7 rfl rfl rfl (Nat.le_of_ble_eq_true rfl) dX5_binary_33 (fun r_33 g_33 hp_33 => ?_)
      refine z_if_eq (pc := 36) C 50 g_33 dX5_binary_36 rfl (fun c_36 => ?_) (fun c_36 => ?_)
      · have c_36 := zb0 hp_33 c_36
        refine z_iconst (pc := 50) C dX5_binary_50 ?_
        refine hret 51 _ _ _ dX5_binary_51 (zRgL rfl) hR ?_
        unfold xbinary
        repeat (first | rw [if_pos (by first | assumption | omega)] | rw [if_neg (by first | assumption | omega)])
        refine ⟨?_, ?_⟩ <;> (first | rfl | assumption | (dsimp only; omega) | (simp_all; done) | grind)
      · have c_36 := zb1 hp_33 c_36
        refine z_aload_nZ (pc := 39) C dX5_binary_39 rfl rfl ?_
        refine z_getR (pc := 40) C fX5_19 sh0 rfl dX5_binary_40 ?_
        refine z_iload_n (pc := 43) C dX5_binary_43 rfl rfl ?_
        refine z_callVp (pc := 44) (rest := []) C (C_X0_has E σ hR 7 (Or.inl rfl) c hc) vX5_115 (by decide) sh7 rfl rfl rfl (Nat.le_of_ble_eq_true rfl) dX5_binary_44 (fun r_44 g_44 hp_44 => ?_)
        refine z_if_ne (pc := 47) C 52 g_44 dX5_binary_47 rfl (fun c_47 => ?_) (fun c_47 => ?_)
        · have c_47 := zb1 hp_44 c_47
          refine z_aload_nZ (pc := 52) C dX5_binary_52 rfl rfl ?_
          refine z_iload_n (pc := 53) C dX5_binary_53 rfl rfl ?_
          refine z_iload_n (pc := 54) C dX5_binary_54 rfl rfl ?_
          refine z_iload_n (pc := 55) C dX5_binary_55 rfl rfl ?_
          refine z_callVi (pc := 56) (rest := []) C (C_X5_addOperatorNode E σ hR a ha b hb c hc hI (by (try unfold zRg at *); (try simp only [IX] at *); omega)) vX5_116 (by decide) sh0 rfl rfl rfl (Nat.le_of_ble_eq_true rfl) dX5_binary_56 (fun r_56 σ_56 g_56 hR_56 hp_56 => ?_)
          refine hret 59 _ _ _ dX5_binary_59 g_56 hR_56 ?_
          unfold xbinary
          repeat (first | rw [if_pos (by first | assumption | omega)] | rw [if_neg (by first | assumption | omega)])
          refine ⟨?_, ?_⟩ <;> (first | rfl | assumption | (dsimp only; omega) | (simp_all; done) | grind)
        · have c_47 := zb0 hp_44 c_47
          refine z_iconst (pc := 50) C dX5_binary_50 ?_
          refine hret 51 _ _ _ dX5_binary_51 (zRgL rfl) hR ?_
          unfold xbinary
          repeat (first | rw [if_pos (by first | assumption | omega)] | rw [if_neg (by first | assumption | omega)])
          refine ⟨?_, ?_⟩ <;> (first | rfl | assumption | (dsimp only; omega) | (simp_all; done) | grind)
    · refine z_bipush (pc := 25) C dX5_binary_25 (by decide) ?_
      refine hret 27 _ _ _ dX5_binary_27 (zRgL rfl) hR ?_
      unfold xbinary
      repeat (first | rw [if_pos (by first | assumption | omega)] | rw [if_neg (by first | assumption | omega)])
      refine ⟨?_, ?_⟩ <;> (first | rfl | assumption | (dsimp only; omega) | (simp_all; done) | grind)
  · have c_8 := zb0 hp_5 c_8
    refine z_bipush (pc := 11) C dX5_binary_11 (by decide) ?_
    refine hret 13 _ _ _ dX5_binary_13 (zRgL rfl) hR ?_
    unfold xbinary
    repeat (first | rw [if_pos (by first | assumption | omega)] | rw [if_neg (by first | assumption | omega)])
    refine ⟨?_, ?_⟩ <;> (first | rfl | assumption | (dsimp only; omega) | (simp_all; done) | grind)
set_option maxRecDepth 20000 in
theorem C_X5_nodeCount (E : ZE) (σ : ZSt) (hR : zRs σ) : ZMi E 1 yX5_nodeCount cX5_nodeCount 1 (some .int) [zrf E 0] σ (fun r σ' => (r = σ 7 5) ∧ σ' = σ) := by
  refine ZMi.intro (by decide) rfl (Nat.le_of_ble_eq_true rfl) (fun Γ C hN hret => ?_)
  show ZG E Γ 0 [some (zrf E 0)] [] σ
  refine z_aload_nZ (pc := 0) C dX5_nodeCount_0 rfl rfl ?_
  refine z_getR (pc := 1) C fX5_19 sh0 rfl dX5_nodeCount_1 ?_
  refine z_callVp (pc := 4) (rest := []) C (C_X0_count E σ hR 7 (Or.inl rfl)) vX5_111 (by decide) sh7 rfl rfl rfl (Nat.le_of_ble_eq_true rfl) dX5_nodeCount_4 (fun r_4 g_4 hp_4 => ?_)
  refine hret 7 _ _ _ dX5_nodeCount_7 g_4 hR ?_
  exact ⟨by assumption, rfl⟩
set_option maxRecDepth 20000 in
theorem C_X5_operatorOf (E : ZE) (σ : ZSt) (hR : zRs σ) (a : Int) (ha : zRg a) (hI : IX σ) : ZMi E 2 yX5_operatorOf cX5_operatorOf 3 (some .int) [zrf E 0, ziv a] σ (fun r σ' => (r = if 0 ≤ a ∧ a < σ 7 5 then (if xnop σ 7 a = -1 then -10 else xnop σ 7 a) else -1) ∧ σ' = σ) := by
  refine ZMi.intro (by decide) rfl (Nat.le_of_ble_eq_true rfl) (fun Γ C hN hret => ?_)
  show ZG E Γ 0 [some (zrf E 0), some (ziv a), none] [] σ
  refine z_aload_nZ (pc := 0) C dX5_operatorOf_0 rfl rfl ?_
  refine z_getR (pc := 1) C fX5_19 sh0 rfl dX5_operatorOf_1 ?_
  refine z_iload_n (pc := 4) C dX5_operatorOf_4 rfl rfl ?_
  refine z_callVp (pc := 5) (rest := []) C (C_X0_has E σ hR 7 (Or.inl rfl) a ha) vX5_115 (by decide) sh7 rfl rfl rfl (Nat.le_of_ble_eq_true rfl) dX5_operatorOf_5 (fun r_5 g_5 hp_5 => ?_)
  refine z_if_ne (pc := 8) C 13 g_5 dX5_operatorOf_8 rfl (fun c_8 => ?_) (fun c_8 => ?_)
  · have c_8 := zb1 hp_5 c_8
    refine z_aload_nZ (pc := 13) C dX5_operatorOf_13 rfl rfl ?_
    refine z_getR (pc := 14) C fX5_19 sh0 rfl dX5_operatorOf_14 ?_
    refine z_iload_n (pc := 17) C dX5_operatorOf_17 rfl rfl ?_
    refine z_callVp (pc := 18) (rest := []) C (C_X0_operatorAt E σ hR 7 (Or.inl rfl) a ha hI) vX5_122 (by decide) sh7 rfl rfl rfl (Nat.le_of_ble_eq_true rfl) dX5_operatorOf_18 (fun r_18 g_18 hp_18 => ?_)
    refine z_istore_n (pc := 21) (lv' := [some (zrf E 0), some (ziv a), some (ziv r_18)]) C hN dX5_operatorOf_21 rfl (by decide) rfl ?_
    refine z_iload_n (pc := 22) C dX5_operatorOf_22 rfl rfl ?_
    refine z_iconst (pc := 23) C dX5_operatorOf_23 ?_
    refine z_icmp_ne (pc := 24) C 32 g_18 (zRgL rfl) dX5_operatorOf_24 rfl (fun c_24 => ?_) (fun c_24 => ?_)
    · refine z_iload_n (pc := 32) C dX5_operatorOf_32 rfl rfl ?_
      refine hret 33 _ _ _ dX5_operatorOf_33 g_18 hR ?_
      exact ⟨by (first | rfl | omega | (split <;> first | rfl | omega) | (simp_all; done) | (split <;> split <;> first | rfl | omega) | grind), rfl⟩
    · refine z_bipush (pc := 27) C dX5_operatorOf_27 (by decide) ?_
      refine z_goto (pc := 29) C 33 dX5_operatorOf_29 rfl ?_
      refine hret 33 _ _ _ dX5_operatorOf_33 (zRgL rfl) hR ?_
      exact ⟨by (first | rfl | omega | (split <;> first | rfl | omega) | (simp_all; done) | (split <;> split <;> first | rfl | omega) | grind), rfl⟩
  · have c_8 := zb0 hp_5 c_8
    refine z_iconst (pc := 11) C dX5_operatorOf_11 ?_
    refine hret 12 _ _ _ dX5_operatorOf_12 (zRgL rfl) hR ?_
    exact ⟨by (first | rfl | omega | (split <;> first | rfl | omega) | (simp_all; done) | (split <;> split <;> first | rfl | omega) | grind), rfl⟩
set_option maxRecDepth 20000 in
theorem C_X5_letterOf (E : ZE) (σ : ZSt) (hR : zRs σ) (a : Int) (ha : zRg a) (hI : IX σ) : ZMi E 2 yX5_letterOf cX5_letterOf 3 (some .int) [zrf E 0, ziv a] σ (fun r σ' => (r = if 0 ≤ a ∧ a < σ 7 5 then (if xnlet σ 7 a = -1 then -10 else xnlet σ 7 a) else -1) ∧ σ' = σ) := by
  refine ZMi.intro (by decide) rfl (Nat.le_of_ble_eq_true rfl) (fun Γ C hN hret => ?_)
  show ZG E Γ 0 [some (zrf E 0), some (ziv a), none] [] σ
  refine z_aload_nZ (pc := 0) C dX5_letterOf_0 rfl rfl ?_
  refine z_getR (pc := 1) C fX5_19 sh0 rfl dX5_letterOf_1 ?_
  refine z_iload_n (pc := 4) C dX5_letterOf_4 rfl rfl ?_
  refine z_callVp (pc := 5) (rest := []) C (C_X0_has E σ hR 7 (Or.inl rfl) a ha) vX5_115 (by decide) sh7 rfl rfl rfl (Nat.le_of_ble_eq_true rfl) dX5_letterOf_5 (fun r_5 g_5 hp_5 => ?_)
  refine z_if_ne (pc := 8) C 13 g_5 dX5_letterOf_8 rfl (fun c_8 => ?_) (fun c_8 => ?_)
  · have c_8 := zb1 hp_5 c_8
    refine z_aload_nZ (pc := 13) C dX5_letterOf_13 rfl rfl ?_
    refine z_getR (pc := 14) C fX5_19 sh0 rfl dX5_letterOf_14 ?_
    refine z_iload_n (pc := 17) C dX5_letterOf_17 rfl rfl ?_
    refine z_callVp (pc := 18) (rest := []) C (C_X0_letterAt E σ hR 7 (Or.inl rfl) a ha hI) vX5_125 (by decide) sh7 rfl rfl rfl (Nat.le_of_ble_eq_true rfl) dX5_letterOf_18 (fun r_18 g_18 hp_18 => ?_)
    refine z_istore_n (pc := 21) (lv' := [some (zrf E 0), some (ziv a), some (ziv r_18)]) C hN dX5_letterOf_21 rfl (by decide) rfl ?_
    refine z_iload_n (pc := 22) C dX5_letterOf_22 rfl rfl ?_
    refine z_iconst (pc := 23) C dX5_letterOf_23 ?_
    refine z_icmp_ne (pc := 24) C 32 g_18 (zRgL rfl) dX5_letterOf_24 rfl (fun c_24 => ?_) (fun c_24 => ?_)
    · refine z_iload_n (pc := 32) C dX5_letterOf_32 rfl rfl ?_
      refine hret 33 _ _ _ dX5_letterOf_33 g_18 hR ?_
      exact ⟨by (first | rfl | omega | (split <;> first | rfl | omega) | (simp_all; done) | (split <;> split <;> first | rfl | omega) | grind), rfl⟩
    · refine z_bipush (pc := 27) C dX5_letterOf_27 (by decide) ?_
      refine z_goto (pc := 29) C 33 dX5_letterOf_29 rfl ?_
      refine hret 33 _ _ _ dX5_letterOf_33 (zRgL rfl) hR ?_
      exact ⟨by (first | rfl | omega | (split <;> first | rfl | omega) | (simp_all; done) | (split <;> split <;> first | rfl | omega) | grind), rfl⟩
  · have c_8 := zb0 hp_5 c_8
    refine z_iconst (pc := 11) C dX5_letterOf_11 ?_
    refine hret 12 _ _ _ dX5_letterOf_12 (zRgL rfl) hR ?_
    exact ⟨by (first | rfl | omega | (split <;> first | rfl | omega) | (simp_all; done) | (split <;> split <;> first | rfl | omega) | grind), rfl⟩
set_option maxRecDepth 20000 in
theorem C_X5_operand (E : ZE) (σ : ZSt) (hR : zRs σ) (a : Int) (ha : zRg a) (b : Int) (hb : zRg b) (hI : IX σ) : ZMi E 3 yX5_operand cX5_operand 4 (some .int) [zrf E 0, ziv a, ziv b] σ (fun r σ' => (r = if 0 ≤ a ∧ a < σ 7 5 then (if (if b = 0 then (if xnbef σ 7 a = -1 then xnaft σ 7 a else xnbef σ 7 a) else if b = 1 ∧ xnbef σ 7 a ≠ -1 then xnaft σ 7 a else -1) = -1 then -10 else (if b = 0 then (if xnbef σ 7 a = -1 then xnaft σ 7 a else xnbef σ 7 a) else if b = 1 ∧ xnbef σ 7 a ≠ -1 then xnaft σ 7 a else -1)) else -1) ∧ σ' = σ) := by
  refine ZMi.intro (by decide) rfl (Nat.le_of_ble_eq_true rfl) (fun Γ C hN hret => ?_)
  show ZG E Γ 0 [some (zrf E 0), some (ziv a), some (ziv b), none] [] σ
  refine z_aload_nZ (pc := 0) C dX5_operand_0 rfl rfl ?_
  refine z_getR (pc := 1) C fX5_19 sh0 rfl dX5_operand_1 ?_
  refine z_iload_n (pc := 4) C dX5_operand_4 rfl rfl ?_
  refine z_callVp (pc := 5) (rest := []) C (C_X0_has E σ hR 7 (Or.inl rfl) a ha) vX5_115 (by decide) sh7 rfl rfl rfl (Nat.le_of_ble_eq_true rfl) dX5_operand_5 (fun r_5 g_5 hp_5 => ?_)
  refine z_if_ne (pc := 8) C 13 g_5 dX5_operand_8 rfl (fun c_8 => ?_) (fun c_8 => ?_)
  · have c_8 := zb1 hp_5 c_8
    refine z_aload_nZ (pc := 13) C dX5_operand_13 rfl rfl ?_
    refine z_getR (pc := 14) C fX5_19 sh0 rfl dX5_operand_14 ?_
    refine z_iload_n (pc := 17) C dX5_operand_17 rfl rfl ?_
    refine z_iload_n (pc := 18) C dX5_operand_18 rfl rfl ?_
    refine z_callVp (pc := 19) (rest := []) C (C_X0_operandAt E σ hR 7 (Or.inl rfl) a ha b hb hI) vX5_128 (by decide) sh7 rfl rfl rfl (Nat.le_of_ble_eq_true rfl) dX5_operand_19 (fun r_19 g_19 hp_19 => ?_)
    refine z_istore_n (pc := 22) (lv' := [some (zrf E 0), some (ziv a), some (ziv b), some (ziv r_19)]) C hN dX5_operand_22 rfl (by decide) rfl ?_
    refine z_iload_n (pc := 23) C dX5_operand_23 rfl rfl ?_
    refine z_iconst (pc := 24) C dX5_operand_24 ?_
    refine z_icmp_ne (pc := 25) C 33 g_19 (zRgL rfl) dX5_operand_25 rfl (fun c_25 => ?_) (fun c_25 => ?_)
    · refine z_iload_n (pc := 33) C dX5_operand_33 rfl rfl ?_
      refine hret 34 _ _ _ dX5_operand_34 g_19 hR ?_
      exact ⟨by first | (rw [if_neg (by assumption)]; done) | (rw [if_pos (by assumption), ← hp_19]; first | rw [if_pos (by assumption)] | rw [if_neg (by assumption)]), rfl⟩
    · refine z_bipush (pc := 28) C dX5_operand_28 (by decide) ?_
      refine z_goto (pc := 30) C 34 dX5_operand_30 rfl ?_
      refine hret 34 _ _ _ dX5_operand_34 (zRgL rfl) hR ?_
      exact ⟨by first | (rw [if_neg (by assumption)]; done) | (rw [if_pos (by assumption), ← hp_19]; first | rw [if_pos (by assumption)] | rw [if_neg (by assumption)]), rfl⟩
  · have c_8 := zb0 hp_5 c_8
    refine z_iconst (pc := 11) C dX5_operand_11 ?_
    refine hret 12 _ _ _ dX5_operand_12 (zRgL rfl) hR ?_
    exact ⟨by first | (rw [if_neg (by assumption)]; done) | (rw [if_pos (by assumption), ← hp_19]; first | rw [if_pos (by assumption)] | rw [if_neg (by assumption)]), rfl⟩
set_option maxRecDepth 20000 in
theorem C_X5_size (E : ZE) (σ : ZSt) (hR : zRs σ) (a : Int) (ha : zRg a) (hI : IX σ) : ZMi E 2 yX5_size cX5_size 2 (some .int) [zrf E 0, ziv a] σ (fun r σ' => (r = if 0 ≤ a ∧ a < σ 7 5 then xnsz σ 7 a else -1) ∧ σ' = σ) := by
  refine ZMi.intro (by decide) rfl (Nat.le_of_ble_eq_true rfl) (fun Γ C hN hret => ?_)
  show ZG E Γ 0 [some (zrf E 0), some (ziv a)] [] σ
  refine z_aload_nZ (pc := 0) C dX5_size_0 rfl rfl ?_
  refine z_getR (pc := 1) C fX5_19 sh0 rfl dX5_size_1 ?_
  refine z_iload_n (pc := 4) C dX5_size_4 rfl rfl ?_
  refine z_callVp (pc := 5) (rest := []) C (C_X0_has E σ hR 7 (Or.inl rfl) a ha) vX5_115 (by decide) sh7 rfl rfl rfl (Nat.le_of_ble_eq_true rfl) dX5_size_5 (fun r_5 g_5 hp_5 => ?_)
  refine z_if_eq (pc := 8) C 22 g_5 dX5_size_8 rfl (fun c_8 => ?_) (fun c_8 => ?_)
  · have c_8 := zb0 hp_5 c_8
    refine z_iconst (pc := 22) C dX5_size_22 ?_
    refine hret 23 _ _ _ dX5_size_23 (zRgL rfl) hR ?_
    exact ⟨by first | (rw [if_pos (by assumption)]; assumption) | rw [if_neg (by assumption)], rfl⟩
  · have c_8 := zb1 hp_5 c_8
    refine z_aload_nZ (pc := 11) C dX5_size_11 rfl rfl ?_
    refine z_getR (pc := 12) C fX5_19 sh0 rfl dX5_size_12 ?_
    refine z_iload_n (pc := 15) C dX5_size_15 rfl rfl ?_
    refine z_callVp (pc := 16) (rest := []) C (C_X0_sizeAt E σ hR 7 (Or.inl rfl) a ha hI) vX5_119 (by decide) sh7 rfl rfl rfl (Nat.le_of_ble_eq_true rfl) dX5_size_16 (fun r_16 g_16 hp_16 => ?_)
    refine z_goto (pc := 19) C 23 dX5_size_19 rfl ?_
    refine hret 23 _ _ _ dX5_size_23 g_16 hR ?_
    exact ⟨by first | (rw [if_pos (by assumption)]; assumption) | rw [if_neg (by assumption)], rfl⟩
set_option maxRecDepth 20000 in
theorem C_X5_areEqual (E : ZE) (σ : ZSt) (hR : zRs σ) (a : Int) (ha : zRg a) (b : Int) (hb : zRg b) (hI : IX σ) : ZMi E 44 yX5_areEqual cX5_areEqual 3 (some .int) [zrf E 0, ziv a, ziv b] σ (fun r σ' => (r = if (0 ≤ a ∧ a < σ 7 5) ∧ (0 ≤ b ∧ b < σ 7 5) then zb (xsame σ 7 7 40 a b) else -1) ∧ σ' = σ) := by
  refine ZMi.intro (by decide) rfl (Nat.le_of_ble_eq_true rfl) (fun Γ C hN hret => ?_)
  show ZG E Γ 0 [some (zrf E 0), some (ziv a), some (ziv b)] [] σ
  refine z_aload_nZ (pc := 0) C dX5_areEqual_0 rfl rfl ?_
  refine z_getR (pc := 1) C fX5_19 sh0 rfl dX5_areEqual_1 ?_
  refine z_iload_n (pc := 4) C dX5_areEqual_4 rfl rfl ?_
  refine z_callVp (pc := 5) (rest := []) C (C_X0_has E σ hR 7 (Or.inl rfl) a ha) vX5_115 (by decide) sh7 rfl rfl rfl (Nat.le_of_ble_eq_true rfl) dX5_areEqual_5 (fun r_5 g_5 hp_5 => ?_)
  refine z_if_eq (pc := 8) C 22 g_5 dX5_areEqual_8 rfl (fun c_8 => ?_) (fun c_8 => ?_)
  · have c_8 := zb0 hp_5 c_8
    refine z_iconst (pc := 22) C dX5_areEqual_22 ?_
    refine hret 23 _ _ _ dX5_areEqual_23 (zRgL rfl) hR ?_
    exact ⟨by first | (rw [if_neg (by omega)]; done) | (rw [if_pos ⟨by assumption, by assumption⟩]; first | exact zb_one (by assumption) | exact zb_zero (by assumption)), rfl⟩
  · have c_8 := zb1 hp_5 c_8
    refine z_aload_nZ (pc := 11) C dX5_areEqual_11 rfl rfl ?_
    refine z_getR (pc := 12) C fX5_19 sh0 rfl dX5_areEqual_12 ?_
    refine z_iload_n (pc := 15) C dX5_areEqual_15 rfl rfl ?_
    refine z_callVp (pc := 16) (rest := []) C (C_X0_has E σ hR 7 (Or.inl rfl) b hb) vX5_115 (by decide) sh7 rfl rfl rfl (Nat.le_of_ble_eq_true rfl) dX5_areEqual_16 (fun r_16 g_16 hp_16 => ?_)
    refine z_if_ne (pc := 19) C 24 g_16 dX5_areEqual_19 rfl (fun c_19 => ?_) (fun c_19 => ?_)
    · have c_19 := zb1 hp_16 c_19
      refine z_aload_nZ (pc := 24) C dX5_areEqual_24 rfl rfl ?_
      refine z_getR (pc := 25) C fX5_19 sh0 rfl dX5_areEqual_25 ?_
      refine z_iload_n (pc := 28) C dX5_areEqual_28 rfl rfl ?_
      refine z_aload_nZ (pc := 29) C dX5_areEqual_29 rfl rfl ?_
      refine z_getR (pc := 30) C fX5_19 sh0 rfl dX5_areEqual_30 ?_
      refine z_iload_n (pc := 33) C dX5_areEqual_33 rfl rfl ?_
      refine z_iconst (pc := 34) C dX5_areEqual_34 ?_
      refine z_callSp (pc := 35) (rest := []) C (C_X5_sameTree E σ hR hI 7 (Or.inl rfl) 7 (Or.inl rfl) 41 a ha b hb 0 (zRgL rfl) (by decide)) vX5_131 (by decide) rfl rfl (Nat.le_of_ble_eq_true rfl) dX5_areEqual_35 (fun r_35 g_35 hp_35 => ?_)
      refine z_if_eq (pc := 38) C 45 g_35 dX5_areEqual_38 rfl (fun c_38 => ?_) (fun c_38 => ?_)
      · have c_38 := zb0 hp_35 c_38
        refine z_iconst (pc := 45) C dX5_areEqual_45 ?_
        refine hret 46 _ _ _ dX5_areEqual_46 (zRgL rfl) hR ?_
        exact ⟨by first | (rw [if_neg (by omega)]; done) | (rw [if_pos ⟨by assumption, by assumption⟩]; first | exact zb_one (by assumption) | exact zb_zero (by assumption)), rfl⟩
      · have c_38 := zb1 hp_35 c_38
        refine z_iconst (pc := 41) C dX5_areEqual_41 ?_
        refine z_goto (pc := 42) C 46 dX5_areEqual_42 rfl ?_
        refine hret 46 _ _ _ dX5_areEqual_46 (zRgL rfl) hR ?_
        exact ⟨by first | (rw [if_neg (by omega)]; done) | (rw [if_pos ⟨by assumption, by assumption⟩]; first | exact zb_one (by assumption) | exact zb_zero (by assumption)), rfl⟩
    · have c_19 := zb0 hp_16 c_19
      refine z_iconst (pc := 22) C dX5_areEqual_22 ?_
      refine hret 23 _ _ _ dX5_areEqual_23 (zRgL rfl) hR ?_
      exact ⟨by first | (rw [if_neg (by omega)]; done) | (rw [if_pos ⟨by assumption, by assumption⟩]; first | exact zb_one (by assumption) | exact zb_zero (by assumption)), rfl⟩
set_option maxRecDepth 20000 in
theorem C_X5_outputAt (E : ZE) (σ : ZSt) (hR : zRs σ) (a : Int) (ha : zRg a) (hI : IX σ) : ZMi E 1 yX5_outputAt cX5_outputAt 3 (some .int) [zrf E 0, ziv a] σ (fun r σ' => (r = if xat σ 21 a = -1 then -9 else xat σ 21 a) ∧ σ' = σ) := by
  refine ZMi.intro (by decide) rfl (Nat.le_of_ble_eq_true rfl) (fun Γ C hN hret => ?_)
  show ZG E Γ 0 [some (zrf E 0), some (ziv a), none] [] σ
  refine z_aload_nZ (pc := 0) C dX5_outputAt_0 rfl rfl ?_
  refine z_getR (pc := 1) C fX5_33 sh0 rfl dX5_outputAt_1 ?_
  refine z_iload_n (pc := 4) C dX5_outputAt_4 rfl rfl ?_
  refine z_callVp (pc := 5) (rest := []) C (C_X3_at E σ hR 21 (Or.inr (Or.inl rfl)) a ha hI) vX5_151 (by decide) sh21 rfl rfl rfl (Nat.le_of_ble_eq_true rfl) dX5_outputAt_5 (fun r_5 g_5 hp_5 => ?_)
  refine z_istore_n (pc := 8) (lv' := [some (zrf E 0), some (ziv a), some (ziv r_5)]) C hN dX5_outputAt_8 rfl (by decide) rfl ?_
  refine z_iload_n (pc := 9) C dX5_outputAt_9 rfl rfl ?_
  refine z_iconst (pc := 10) C dX5_outputAt_10 ?_
  refine z_icmp_ne (pc := 11) C 19 g_5 (zRgL rfl) dX5_outputAt_11 rfl (fun c_11 => ?_) (fun c_11 => ?_)
  · refine z_iload_n (pc := 19) C dX5_outputAt_19 rfl rfl ?_
    refine hret 20 _ _ _ dX5_outputAt_20 g_5 hR ?_
    exact ⟨by (first | rfl | omega | (split <;> first | rfl | omega) | (simp_all; done) | (split <;> split <;> first | rfl | omega) | grind), rfl⟩
  · refine z_bipush (pc := 14) C dX5_outputAt_14 (by decide) ?_
    refine z_goto (pc := 16) C 20 dX5_outputAt_16 rfl ?_
    refine hret 20 _ _ _ dX5_outputAt_20 (zRgL rfl) hR ?_
    exact ⟨by (first | rfl | omega | (split <;> first | rfl | omega) | (simp_all; done) | (split <;> split <;> first | rfl | omega) | grind), rfl⟩
set_option maxRecDepth 20000 in
theorem C_X5_bracketPairs (E : ZE) (σ : ZSt) (hR : zRs σ) (hI : IX σ) : ZMi E 1 yX5_bracketPairs cX5_bracketPairs 1 (some .int) [zrf E 0] σ (fun r σ' => (r = zcnt (σ 22) 40 (σ 21 1).toNat) ∧ σ' = σ) := by
  refine ZMi.intro (by decide) rfl (Nat.le_of_ble_eq_true rfl) (fun Γ C hN hret => ?_)
  show ZG E Γ 0 [some (zrf E 0)] [] σ
  refine z_aload_nZ (pc := 0) C dX5_bracketPairs_0 rfl rfl ?_
  refine z_getR (pc := 1) C fX5_33 sh0 rfl dX5_bracketPairs_1 ?_
  refine z_callVp (pc := 4) (rest := []) C (C_X3_countPairs E σ hR 21 (Or.inr (Or.inl rfl)) hI) vX5_154 (by decide) sh21 rfl rfl rfl (Nat.le_of_ble_eq_true rfl) dX5_bracketPairs_4 (fun r_4 g_4 hp_4 => ?_)
  refine hret 7 _ _ _ dX5_bracketPairs_7 g_4 hR ?_
  exact ⟨by assumption, rfl⟩
set_option maxRecDepth 20000 in
theorem C_X5_append (E : ZE) (σ : ZSt) (hR : zRs σ) (a : Int) (ha : zRg a) (hI : IX σ) : ZMi E 1 yX5_append cX5_append 2 (some .int) [zrf E 0, ziv a] σ (fun r σ' => r = (xappend σ a).1 ∧ σ' = (xappend σ a).2) := by
  refine ZMi.intro (by decide) rfl (Nat.le_of_ble_eq_true rfl) (fun Γ C hN hret => ?_)
  show ZG E Γ 0 [some (zrf E 0), some (ziv a)] [] σ
  refine z_iload_n (pc := 0) C dX5_append_0 rfl rfl ?_
  refine z_bipush (pc := 1) C dX5_append_1 (by decide) ?_
  refine z_icmp_lt (pc := 3) C 12 ha (zRgL rfl) dX5_append_3 rfl (fun c_3 => ?_) (fun c_3 => ?_)
  · refine z_bipush (pc := 12) C dX5_append_12 (by decide) ?_
    refine hret 14 _ _ _ dX5_append_14 (zRgL rfl) hR ?_
    unfold xappend
    repeat (first | rw [if_pos (by first | assumption | omega)] | rw [if_neg (by first | assumption | omega)])
    refine ⟨?_, ?_⟩ <;> (first | rfl | assumption | (dsimp only; omega) | (simp_all; done) | grind)
  · refine z_iload_n (pc := 6) C dX5_append_6 rfl rfl ?_
    refine z_bipush (pc := 7) C dX5_append_7 (by decide) ?_
    refine z_icmp_le (pc := 9) C 15 ha (zRgL rfl) dX5_append_9 rfl (fun c_9 => ?_) (fun c_9 => ?_)
    · refine z_aload_nZ (pc := 15) C dX5_append_15 rfl rfl ?_
      refine z_getR (pc := 16) C fX5_29 sh0 rfl dX5_append_16 ?_
      refine z_iload_n (pc := 19) C dX5_append_19 rfl rfl ?_
      refine z_callVi (pc := 20) (rest := []) C (C_X3_put E σ hR 19 (Or.inl rfl) a ha hI) vX5_168 (by decide) sh19 rfl rfl rfl (Nat.le_of_ble_eq_true rfl) dX5_append_20 (fun r_20 σ_20 g_20 hR_20 hp_20 => ?_)
      refine z_if_eq (pc := 23) C 36 g_20 dX5_append_23 rfl (fun c_23 => ?_) (fun c_23 => ?_)
      · refine z_bipush (pc := 36) C dX5_append_36 (by decide) ?_
        refine hret 38 _ _ _ dX5_append_38 (zRgL rfl) hR_20 ?_
        obtain ⟨hp1, hp2⟩ := hp_20
        unfold xappend
        rw [if_neg (by omega)]
        split at hp1
        · rw [if_pos (by assumption)]; first | omega | exact ⟨rfl, by rw [hp2]; unfold xput; rw [if_pos (by assumption)]⟩
        · rw [if_neg (by assumption)]; first | omega | exact ⟨by rw [hp_30, hp2, xput_len (by assumption)], hp2⟩
      · refine z_aload_nZ (pc := 26) C dX5_append_26 rfl rfl ?_
        refine z_getR (pc := 27) C fX5_29 sh0 rfl dX5_append_27 ?_
        refine z_callVp (pc := 30) (rest := []) C (C_X3_length E σ_20 hR_20 19 (Or.inl rfl)) vX5_148 (by decide) sh19 rfl rfl rfl (Nat.le_of_ble_eq_true rfl) dX5_append_30 (fun r_30 g_30 hp_30 => ?_)
        refine z_goto (pc := 33) C 38 dX5_append_33 rfl ?_
        refine hret 38 _ _ _ dX5_append_38 g_30 hR_20 ?_
        obtain ⟨hp1, hp2⟩ := hp_20
        unfold xappend
        rw [if_neg (by omega)]
        split at hp1
        · rw [if_pos (by assumption)]; first | omega | exact ⟨rfl, by rw [hp2]; unfold xput; rw [if_pos (by assumption)]⟩
        · rw [if_neg (by assumption)]; first | omega | exact ⟨by rw [hp_30, hp2, xput_len (by assumption)], hp2⟩
    · refine z_bipush (pc := 12) C dX5_append_12 (by decide) ?_
      refine hret 14 _ _ _ dX5_append_14 (zRgL rfl) hR ?_
      unfold xappend
      repeat (first | rw [if_pos (by first | assumption | omega)] | rw [if_neg (by first | assumption | omega)])
      refine ⟨?_, ?_⟩ <;> (first | rfl | assumption | (dsimp only; omega) | (simp_all; done) | grind)
set_option maxRecDepth 20000 in
theorem C_X5_copyOutput (E : ZE) (σ : ZSt) (hR : zRs σ) (hI : IX σ) : ZMi E 2 yX5_copyOutput cX5_copyOutput 1 (some .int) [zrf E 0] σ (fun r σ' => r = σ 21 1 ∧ σ' = xcopy σ 19 21) := by
  refine ZMi.intro (by decide) rfl (Nat.le_of_ble_eq_true rfl) (fun Γ C hN hret => ?_)
  show ZG E Γ 0 [some (zrf E 0)] [] σ
  have hbd := hI.tx (k := 21) (Or.inr (Or.inl rfl))
  refine z_aload_nZ (pc := 0) C dX5_copyOutput_0 rfl rfl ?_
  refine z_getR (pc := 1) C fX5_29 sh0 rfl dX5_copyOutput_1 ?_
  refine z_aload_nZ (pc := 4) C dX5_copyOutput_4 rfl rfl ?_
  refine z_getR (pc := 5) C fX5_33 sh0 rfl dX5_copyOutput_5 ?_
  refine z_callVv (pc := 8) (rest := []) C (C_X3_copyFrom E σ hR 19 (Or.inl rfl) 21 (Or.inr (Or.inl rfl)) hI (by decide)) vX5_171 (by decide) sh19 rfl rfl rfl (Nat.le_of_ble_eq_true rfl) dX5_copyOutput_8 (fun σ_8 hR_8 hp_8 => ?_)
  refine z_aload_nZ (pc := 11) C dX5_copyOutput_11 rfl rfl ?_
  refine z_getR (pc := 12) C fX5_29 sh0 rfl dX5_copyOutput_12 ?_
  refine z_callVp (pc := 15) (rest := []) C (C_X3_length E σ_8 hR_8 19 (Or.inl rfl)) vX5_148 (by decide) sh19 rfl rfl rfl (Nat.le_of_ble_eq_true rfl) dX5_copyOutput_15 (fun r_15 g_15 hp_15 => ?_)
  refine hret 18 _ _ _ dX5_copyOutput_18 g_15 hR_8 ?_
  exact ⟨by rw [hp_15, hp_8]; unfold xcopy; rw [zst_len]; omega, hp_8⟩
set_option maxRecDepth 20000 in
theorem C_X5_clearInput (E : ZE) (σ : ZSt) (hR : zRs σ) (hI : IX σ) : ZMi E 1 yX5_clearInput cX5_clearInput 2 (some .int) [zrf E 0] σ (fun r σ' => r = σ 19 1 ∧ σ' = zup σ 19 1 0) := by
  refine ZMi.intro (by decide) rfl (Nat.le_of_ble_eq_true rfl) (fun Γ C hN hret => ?_)
  show ZG E Γ 0 [some (zrf E 0), none] [] σ
  refine z_aload_nZ (pc := 0) C dX5_clearInput_0 rfl rfl ?_
  refine z_getR (pc := 1) C fX5_29 sh0 rfl dX5_clearInput_1 ?_
  refine z_callVp (pc := 4) (rest := []) C (C_X3_length E σ hR 19 (Or.inl rfl)) vX5_148 (by decide) sh19 rfl rfl rfl (Nat.le_of_ble_eq_true rfl) dX5_clearInput_4 (fun r_4 g_4 hp_4 => ?_)
  refine z_istore_n (pc := 7) (lv' := [some (zrf E 0), some (ziv r_4)]) C hN dX5_clearInput_7 rfl (by decide) rfl ?_
  refine z_aload_nZ (pc := 8) C dX5_clearInput_8 rfl rfl ?_
  refine z_getR (pc := 9) C fX5_29 sh0 rfl dX5_clearInput_9 ?_
  refine z_callVv (pc := 12) (rest := []) C (C_X3_empty E σ hR 19 (Or.inl rfl)) vX5_175 (by decide) sh19 rfl rfl rfl (Nat.le_of_ble_eq_true rfl) dX5_clearInput_12 (fun σ_12 hR_12 hp_12 => ?_)
  refine z_iload_n (pc := 15) C dX5_clearInput_15 rfl rfl ?_
  refine hret 16 _ _ _ dX5_clearInput_16 g_4 hR_12 ?_
  exact ⟨hp_4, hp_12⟩
set_option maxRecDepth 20000 in
theorem C_X5_errorKind (E : ZE) (σ : ZSt) (hR : zRs σ) : ZMi E 0 yX5_errorKind cX5_errorKind 1 (some .int) [zrf E 0] σ (fun r σ' => (r = σ 0 9) ∧ σ' = σ) := by
  refine ZMi.intro (by decide) rfl (Nat.le_of_ble_eq_true rfl) (fun Γ C hN hret => ?_)
  show ZG E Γ 0 [some (zrf E 0)] [] σ
  refine z_aload_nZ (pc := 0) C dX5_errorKind_0 rfl rfl ?_
  refine z_getI (pc := 1) C fX5_59 sh0 rfl dX5_errorKind_1 ?_
  refine hret 4 _ _ _ dX5_errorKind_4 (hR 0 _) hR ?_
  exact ⟨by (first | rfl | omega | (split <;> first | rfl | omega) | (simp_all; done) | (split <;> split <;> first | rfl | omega) | grind), rfl⟩
set_option maxRecDepth 20000 in
theorem C_X5_errorPosition (E : ZE) (σ : ZSt) (hR : zRs σ) : ZMi E 0 yX5_errorPosition cX5_errorPosition 1 (some .int) [zrf E 0] σ (fun r σ' => (r = σ 0 10) ∧ σ' = σ) := by
  refine ZMi.intro (by decide) rfl (Nat.le_of_ble_eq_true rfl) (fun Γ C hN hret => ?_)
  show ZG E Γ 0 [some (zrf E 0)] [] σ
  refine z_aload_nZ (pc := 0) C dX5_errorPosition_0 rfl rfl ?_
  refine z_getI (pc := 1) C fX5_62 sh0 rfl dX5_errorPosition_1 ?_
  refine hret 4 _ _ _ dX5_errorPosition_4 (hR 0 _) hR ?_
  exact ⟨by (first | rfl | omega | (split <;> first | rfl | omega) | (simp_all; done) | (split <;> split <;> first | rfl | omega) | grind), rfl⟩
