set_option maxRecDepth 20000 in
theorem C_X6_addRead (E : ZE) (σ : ZSt) (hR : zRs σ) (a : Int) (ha : zRg a) (b : Int) (hb : zRg b) (c : Int) (hc : zRg c) (e : Int) (he : zRg e) (hI : IM σ) (hn : 0 ≤ σ 31 30 ∧ σ 31 30 < 130) : ZMi E 0 yX6_addRead cX6_addRead 5 (some .int) [zrf E 31, ziv a, ziv b, ziv c, ziv e] σ (fun r σ' => r = σ 31 30 ∧ σ' = mrd σ a b c e) := by
  refine ZMi.intro (by decide) rfl (Nat.le_of_ble_eq_true rfl) (fun Γ C hN hret => ?_)
  show ZG E Γ 0 [some (zrf E 31), some (ziv a), some (ziv b), some (ziv c), some (ziv e)] [] σ
  refine z_aload_nZ (pc := 0) C dX6_addRead_0 rfl rfl ?_
  refine z_getR (pc := 1) C fX6_72 sh31 rfl dX6_addRead_1 ?_
  refine z_aload_nZ (pc := 4) C dX6_addRead_4 rfl rfl ?_
  refine z_getI (pc := 5) C fX6_175 sh31 rfl dX6_addRead_5 ?_
  refine z_iload_n (pc := 8) C dX6_addRead_8 rfl rfl ?_
  refine z_iast (pc := 9) C hR sh49 (by (try unfold zRg at *); (try simp only [IX, IM] at *); omega) (by (try unfold zRg at *); (try simp only [IX, IM] at *); omega) ha dX6_addRead_9 (fun σ_9 e_9 hR_9 => ?_)
  have hI_9 : IM σ_9 := by rw [e_9]; exact hI.upA rfl
  refine z_aload_nZ (pc := 10) C dX6_addRead_10 rfl rfl ?_
  refine z_getR (pc := 11) C fX6_75 sh31 rfl dX6_addRead_11 ?_
  refine z_aload_nZ (pc := 14) C dX6_addRead_14 rfl rfl ?_
  refine z_getIe (pc := 15) (v := σ 31 30) C fX6_175 sh31 rfl dX6_addRead_15 (by rw [e_9, zup_cell (by omega)]) ?_
  refine z_iload_n (pc := 18) C dX6_addRead_18 rfl rfl ?_
  refine z_iast (pc := 19) C hR_9 sh50 (by (try unfold zRg at *); (try simp only [IX, IM] at *); omega) (by (try unfold zRg at *); (try simp only [IX, IM] at *); omega) hb dX6_addRead_19 (fun σ_19 e_19 hR_19 => ?_)
  have hI_19 : IM σ_19 := by rw [e_19]; exact hI_9.upA rfl
  refine z_aload_nZ (pc := 20) C dX6_addRead_20 rfl rfl ?_
  refine z_getR (pc := 21) C fX6_78 sh31 rfl dX6_addRead_21 ?_
  refine z_aload_nZ (pc := 24) C dX6_addRead_24 rfl rfl ?_
  refine z_getIe (pc := 25) (v := σ 31 30) C fX6_175 sh31 rfl dX6_addRead_25 (by rw [e_19, zup_cell (by omega), e_9, zup_cell (by omega)]) ?_
  refine z_iload_n (pc := 28) C dX6_addRead_28 rfl rfl ?_
  refine z_iast (pc := 29) C hR_19 sh51 (by (try unfold zRg at *); (try simp only [IX, IM] at *); omega) (by (try unfold zRg at *); (try simp only [IX, IM] at *); omega) hc dX6_addRead_29 (fun σ_29 e_29 hR_29 => ?_)
  have hI_29 : IM σ_29 := by rw [e_29]; exact hI_19.upA rfl
  refine z_aload_nZ (pc := 30) C dX6_addRead_30 rfl rfl ?_
  refine z_getR (pc := 31) C fX6_81 sh31 rfl dX6_addRead_31 ?_
  refine z_aload_nZ (pc := 34) C dX6_addRead_34 rfl rfl ?_
  refine z_getIe (pc := 35) (v := σ 31 30) C fX6_175 sh31 rfl dX6_addRead_35 (by rw [e_29, zup_cell (by omega), e_19, zup_cell (by omega), e_9, zup_cell (by omega)]) ?_
  refine z_iload (pc := 38) C dX6_addRead_38 rfl ?_
  refine z_iast (pc := 40) C hR_29 sh52 (by (try unfold zRg at *); (try simp only [IX, IM] at *); omega) (by (try unfold zRg at *); (try simp only [IX, IM] at *); omega) he dX6_addRead_40 (fun σ_40 e_40 hR_40 => ?_)
  have hI_40 : IM σ_40 := by rw [e_40]; exact hI_29.upA rfl
  refine z_aload_nZ (pc := 41) C dX6_addRead_41 rfl rfl ?_
  refine z_dup (pc := 42) C dX6_addRead_42 rfl ?_
  refine z_getIe (pc := 43) (v := σ 31 30) C fX6_175 sh31 rfl dX6_addRead_43 (by rw [e_40, zup_cell (by omega), e_29, zup_cell (by omega), e_19, zup_cell (by omega), e_9, zup_cell (by omega)]) ?_
  refine z_iconst (pc := 46) C dX6_addRead_46 ?_
  refine z_iadd (pc := 47) C dX6_addRead_47 ?_
  refine z_putI (pc := 48) C hR_40 fX6_175 sh31 rfl (by (try unfold zRg at *); (try simp only [IX, IM] at *); omega) dX6_addRead_48 (fun σ_48 e_48 hR_48 => ?_)
  have hI_48 : IM σ_48 := by rw [e_48]; exact hI_40.upF rfl
  refine z_aload_nZ (pc := 51) C dX6_addRead_51 rfl rfl ?_
  refine z_getIe (pc := 52) (v := (σ 31 30) + 1) C fX6_175 sh31 rfl dX6_addRead_52 (by rw [e_48, zup_same]) ?_
  refine z_iconst (pc := 55) C dX6_addRead_55 ?_
  refine z_isub (pc := 56) C dX6_addRead_56 ?_
  refine hret 57 _ _ _ dX6_addRead_57 (by (try unfold zRg at *); (try simp only [IX, IM] at *); omega) hR_48 ?_
  exact ⟨by omega, by subst_vars; rfl⟩
set_option maxRecDepth 20000 in
theorem C_X6_fail (E : ZE) (σ : ZSt) (hR : zRs σ) (a : Int) (ha : zRg a) (b : Int) (hb : zRg b) : ZMv E 0 yX6_fail cX6_fail 3 [zrf E 31, ziv a, ziv b] σ (fun σ' => σ' = mfail σ a b) := by
  refine ZMv.intro (by decide) rfl (Nat.le_of_ble_eq_true rfl) (fun Γ C hN hret => ?_)
  show ZG E Γ 0 [some (zrf E 31), some (ziv a), some (ziv b)] [] σ
  refine z_aload_nZ (pc := 0) C dX6_fail_0 rfl rfl ?_
  refine z_iload_n (pc := 1) C dX6_fail_1 rfl rfl ?_
  refine z_putI (pc := 2) C hR fX6_178 sh31 rfl ha dX6_fail_2 (fun σ_2 e_2 hR_2 => ?_)
  refine z_aload_nZ (pc := 5) C dX6_fail_5 rfl rfl ?_
  refine z_iload_n (pc := 6) C dX6_fail_6 rfl rfl ?_
  refine z_putI (pc := 7) C hR_2 fX6_181 sh31 rfl hb dX6_fail_7 (fun σ_7 e_7 hR_7 => ?_)
  refine hret 10 _ _ dX6_fail_10 hR_7 ?_
  subst_vars; rfl
set_option maxRecDepth 20000 in
theorem C_X6_openCall (E : ZE) (σ : ZSt) (hR : zRs σ) (a : Int) (ha : zRg a) (b : Int) (hb : zRg b) (c : Int) (hc : zRg c) (e : Int) (he : zRg e) (hI : IM σ) (hM : RM σ) : ZMv E 0 yX6_openCall cX6_openCall 5 [zrf E 31, ziv a, ziv b, ziv c, ziv e] σ (fun σ' => σ' = mopen σ a b c e) := by
  refine ZMv.intro (by decide) rfl (Nat.le_of_ble_eq_true rfl) (fun Γ C hN hret => ?_)
  show ZG E Γ 0 [some (zrf E 31), some (ziv a), some (ziv b), some (ziv c), some (ziv e)] [] σ
  obtain ⟨hM1, hM2, hM3⟩ := hM
  refine z_aload_nZ (pc := 0) C dX6_openCall_0 rfl rfl ?_
  refine z_getR (pc := 1) C fX6_84 sh31 rfl dX6_openCall_1 ?_
  refine z_iconst (pc := 4) C dX6_openCall_4 ?_
  refine z_aload_nZ (pc := 5) C dX6_openCall_5 rfl rfl ?_
  refine z_getI (pc := 6) C fX6_184 sh31 rfl dX6_openCall_6 ?_
  refine z_imul (pc := 9) C dX6_openCall_9 ?_
  refine z_iload_n (pc := 10) C dX6_openCall_10 rfl rfl ?_
  refine z_iast (pc := 11) C hR sh53 (by (try unfold zRg at *); (try simp only [IX, IM] at *); omega) (by (try unfold zRg at *); (try simp only [IX, IM] at *); omega) ha dX6_openCall_11 (fun σ_11 e_11 hR_11 => ?_)
  have hI_11 : IM σ_11 := by rw [e_11]; exact hI.upA rfl
  refine z_aload_nZ (pc := 12) C dX6_openCall_12 rfl rfl ?_
  refine z_getR (pc := 13) C fX6_84 sh31 rfl dX6_openCall_13 ?_
  refine z_iconst (pc := 16) C dX6_openCall_16 ?_
  refine z_aload_nZ (pc := 17) C dX6_openCall_17 rfl rfl ?_
  refine z_getIe (pc := 18) (v := σ 31 32) C fX6_184 sh31 rfl dX6_openCall_18 (by rw [e_11, zup_cell (by omega)]) ?_
  refine z_imul (pc := 21) C dX6_openCall_21 ?_
  refine z_iconst (pc := 22) C dX6_openCall_22 ?_
  refine z_iadd (pc := 23) C dX6_openCall_23 ?_
  refine z_iload_n (pc := 24) C dX6_openCall_24 rfl rfl ?_
  refine z_iast (pc := 25) C hR_11 sh53 (by (try unfold zRg at *); (try simp only [IX, IM] at *); omega) (by (try unfold zRg at *); (try simp only [IX, IM] at *); omega) hb dX6_openCall_25 (fun σ_25 e_25 hR_25 => ?_)
  have hI_25 : IM σ_25 := by rw [e_25]; exact hI_11.upA rfl
  refine z_aload_nZ (pc := 26) C dX6_openCall_26 rfl rfl ?_
  refine z_getR (pc := 27) C fX6_84 sh31 rfl dX6_openCall_27 ?_
  refine z_iconst (pc := 30) C dX6_openCall_30 ?_
  refine z_aload_nZ (pc := 31) C dX6_openCall_31 rfl rfl ?_
  refine z_getIe (pc := 32) (v := σ 31 32) C fX6_184 sh31 rfl dX6_openCall_32 (by rw [e_25, zup_cell (by omega), e_11, zup_cell (by omega)]) ?_
  refine z_imul (pc := 35) C dX6_openCall_35 ?_
  refine z_iconst (pc := 36) C dX6_openCall_36 ?_
  refine z_iadd (pc := 37) C dX6_openCall_37 ?_
  refine z_aload_nZ (pc := 38) C dX6_openCall_38 rfl rfl ?_
  refine z_getIe (pc := 39) (v := σ 31 35) C fX6_187 sh31 rfl dX6_openCall_39 (by rw [e_25, zup_cell (by omega), e_11, zup_cell (by omega)]) ?_
  refine z_iast (pc := 42) C hR_25 sh53 (by (try unfold zRg at *); (try simp only [IX, IM] at *); omega) (by (try unfold zRg at *); (try simp only [IX, IM] at *); omega) (hR 31 _) dX6_openCall_42 (fun σ_42 e_42 hR_42 => ?_)
  have hI_42 : IM σ_42 := by rw [e_42]; exact hI_25.upA rfl
  refine z_aload_nZ (pc := 43) C dX6_openCall_43 rfl rfl ?_
  refine z_getR (pc := 44) C fX6_84 sh31 rfl dX6_openCall_44 ?_
  refine z_iconst (pc := 47) C dX6_openCall_47 ?_
  refine z_aload_nZ (pc := 48) C dX6_openCall_48 rfl rfl ?_
  refine z_getIe (pc := 49) (v := σ 31 32) C fX6_184 sh31 rfl dX6_openCall_49 (by rw [e_42, zup_cell (by omega), e_25, zup_cell (by omega), e_11, zup_cell (by omega)]) ?_
  refine z_imul (pc := 52) C dX6_openCall_52 ?_
  refine z_iconst (pc := 53) C dX6_openCall_53 ?_
  refine z_iadd (pc := 54) C dX6_openCall_54 ?_
  refine z_iload_n (pc := 55) C dX6_openCall_55 rfl rfl ?_
  refine z_iast (pc := 56) C hR_42 sh53 (by (try unfold zRg at *); (try simp only [IX, IM] at *); omega) (by (try unfold zRg at *); (try simp only [IX, IM] at *); omega) hc dX6_openCall_56 (fun σ_56 e_56 hR_56 => ?_)
  have hI_56 : IM σ_56 := by rw [e_56]; exact hI_42.upA rfl
  refine z_aload_nZ (pc := 57) C dX6_openCall_57 rfl rfl ?_
  refine z_getR (pc := 58) C fX6_84 sh31 rfl dX6_openCall_58 ?_
  refine z_iconst (pc := 61) C dX6_openCall_61 ?_
  refine z_aload_nZ (pc := 62) C dX6_openCall_62 rfl rfl ?_
  refine z_getIe (pc := 63) (v := σ 31 32) C fX6_184 sh31 rfl dX6_openCall_63 (by rw [e_56, zup_cell (by omega), e_42, zup_cell (by omega), e_25, zup_cell (by omega), e_11, zup_cell (by omega)]) ?_
  refine z_imul (pc := 66) C dX6_openCall_66 ?_
  refine z_iconst (pc := 67) C dX6_openCall_67 ?_
  refine z_iadd (pc := 68) C dX6_openCall_68 ?_
  refine z_aload_nZ (pc := 69) C dX6_openCall_69 rfl rfl ?_
  refine z_getIe (pc := 70) (v := σ 31 36) C fX6_190 sh31 rfl dX6_openCall_70 (by rw [e_56, zup_cell (by omega), e_42, zup_cell (by omega), e_25, zup_cell (by omega), e_11, zup_cell (by omega)]) ?_
  refine z_iast (pc := 73) C hR_56 sh53 (by (try unfold zRg at *); (try simp only [IX, IM] at *); omega) (by (try unfold zRg at *); (try simp only [IX, IM] at *); omega) (hR 31 _) dX6_openCall_73 (fun σ_73 e_73 hR_73 => ?_)
  have hI_73 : IM σ_73 := by rw [e_73]; exact hI_56.upA rfl
  refine z_aload_nZ (pc := 74) C dX6_openCall_74 rfl rfl ?_
  refine z_dup (pc := 75) C dX6_openCall_75 rfl ?_
  refine z_getIe (pc := 76) (v := σ 31 32) C fX6_184 sh31 rfl dX6_openCall_76 (by rw [e_73, zup_cell (by omega), e_56, zup_cell (by omega), e_42, zup_cell (by omega), e_25, zup_cell (by omega), e_11, zup_cell (by omega)]) ?_
  refine z_iconst (pc := 79) C dX6_openCall_79 ?_
  refine z_iadd (pc := 80) C dX6_openCall_80 ?_
  refine z_putI (pc := 81) C hR_73 fX6_184 sh31 rfl (by (try unfold zRg at *); (try simp only [IX, IM] at *); omega) dX6_openCall_81 (fun σ_81 e_81 hR_81 => ?_)
  have hI_81 : IM σ_81 := by rw [e_81]; exact hI_73.upF rfl
  refine z_aload_nZ (pc := 84) C dX6_openCall_84 rfl rfl ?_
  refine z_iload (pc := 85) C dX6_openCall_85 rfl ?_
  refine z_putI (pc := 87) C hR_81 fX6_190 sh31 rfl he dX6_openCall_87 (fun σ_87 e_87 hR_87 => ?_)
  have hI_87 : IM σ_87 := by rw [e_87]; exact hI_81.upF rfl
  refine z_aload_nZ (pc := 90) C dX6_openCall_90 rfl rfl ?_
  refine z_dup (pc := 91) C dX6_openCall_91 rfl ?_
  refine z_getIe (pc := 92) (v := σ 31 35) C fX6_187 sh31 rfl dX6_openCall_92 (by rw [e_87, zup_place (by decide), e_81, zup_place (by decide), e_73, zup_cell (by omega), e_56, zup_cell (by omega), e_42, zup_cell (by omega), e_25, zup_cell (by omega), e_11, zup_cell (by omega)]) ?_
  refine z_iconst (pc := 95) C dX6_openCall_95 ?_
  refine z_iadd (pc := 96) C dX6_openCall_96 ?_
  refine z_putI (pc := 97) C hR_87 fX6_187 sh31 rfl (by (try unfold zRg at *); (try simp only [IX, IM] at *); omega) dX6_openCall_97 (fun σ_97 e_97 hR_97 => ?_)
  have hI_97 : IM σ_97 := by rw [e_97]; exact hI_87.upF rfl
  refine z_aload_nZ (pc := 100) C dX6_openCall_100 rfl rfl ?_
  refine z_iconst (pc := 101) C dX6_openCall_101 ?_
  refine z_putZ (pc := 102) C hR_97 fX6_193 sh31 rfl (Or.inr rfl) dX6_openCall_102 (fun σ_102 e_102 hR_102 => ?_)
  have hI_102 : IM σ_102 := by rw [e_102]; exact hI_97.upF rfl
  refine hret 105 _ _ dX6_openCall_105 hR_102 ?_
  subst_vars; rfl
set_option maxRecDepth 20000 in
theorem C_X6_readOperand (E : ZE) (σ : ZSt) (hR : zRs σ) (hI : IM σ) (hM : RM σ) : ZMv E 2 yX6_readOperand cX6_readOperand 3 [zrf E 31] σ (fun σ' => σ' = mrdop σ) := by
  refine ZMv.intro (by decide) rfl (Nat.le_of_ble_eq_true rfl) (fun Γ C hN hret => ?_)
  show ZG E Γ 0 [some (zrf E 31), none, none] [] σ
  have hM9 := hM
  obtain ⟨hM1, hM2, hM3⟩ := hM
  have hlen := hI.len
  have L25 : ∀ (c : Int), zRg c → c = mchr σ → ZG E Γ 25 [some (zrf E 31), none, none] [ziv c] σ := by
    intro c hc ec
    refine z_istore_n (pc := 25) (lv' := [some (zrf E 31), some (ziv c), none]) C hN dX6_readOperand_25 rfl (by decide) rfl ?_
    have L41 : ∀ (p : Int), zRg p → p = mpre σ → ZG E Γ 41 [some (zrf E 31), some (ziv c), none] [ziv p] σ := by
      intro p hp ep
      refine z_istore_n (pc := 41) (lv' := [some (zrf E 31), some (ziv c), some (ziv p)]) C hN dX6_readOperand_41 rfl (by decide) rfl ?_
      refine z_iload_n (pc := 42) C dX6_readOperand_42 rfl rfl ?_
      refine z_callSp (pc := 43) (rest := []) C (C_X6_isLetter E σ hR c hc) vX6_97 (by decide) rfl rfl (Nat.le_of_ble_eq_true rfl) dX6_readOperand_43 (fun r_43 g_43 hp_43 => ?_)
      refine z_if_eq (pc := 46) C 87 g_43 dX6_readOperand_46 rfl (fun c_46 => ?_) (fun c_46 => ?_)
      · have c_46 := zb0 hp_43 c_46
        refine z_iload_n (pc := 87) C dX6_readOperand_87 rfl rfl ?_
        refine z_bipush (pc := 88) C dX6_readOperand_88 (by decide) ?_
        refine z_icmp_ne (pc := 90) C 107 hc (zRgL rfl) dX6_readOperand_90 rfl (fun c_90 => ?_) (fun c_90 => ?_)
        · refine z_iload_n (pc := 107) C dX6_readOperand_107 rfl rfl ?_
          refine z_if_lt (pc := 108) C 128 hp dX6_readOperand_108 rfl (fun c_108 => ?_) (fun c_108 => ?_)
          · refine z_aload_nZ (pc := 128) C dX6_readOperand_128 rfl rfl ?_
            refine z_iconst (pc := 129) C dX6_readOperand_129 ?_
            refine z_aload_nZ (pc := 130) C dX6_readOperand_130 rfl rfl ?_
            refine z_getI (pc := 131) C fX6_187 sh31 rfl dX6_readOperand_131 ?_
            refine z_callVv (pc := 134) (rest := []) C (C_X6_fail E σ hR 1 (zRgL rfl) (σ 31 35) (hR 31 _)) vX6_212 (by decide) sh31 rfl rfl rfl (Nat.le_of_ble_eq_true rfl) dX6_readOperand_134 (fun σ_134 hR_134 hp_134 => ?_)
            refine hret 137 _ _ dX6_readOperand_137 hR_134 ?_
            unfold mrdop
            rw [← ec, ← ep]
            first
            | (rw [zif_pos (by assumption), e_81, e_71, e_66, e_61, hp_58.2, hp_58.1])
            | (rw [zif_neg (by assumption), zif_pos (by assumption)]; assumption)
            | (rw [zif_neg (by assumption), zif_neg (by assumption), zif_pos (by omega)]; assumption)
            | (rw [zif_neg (by assumption), zif_neg (by assumption), zif_neg (by omega)]; assumption)
          · have hpb : p < 16 := by rw [ep]; exact mpre_b hI
            refine z_aload_nZ (pc := 111) C dX6_readOperand_111 rfl rfl ?_
            refine z_iconst (pc := 112) C dX6_readOperand_112 ?_
            refine z_iload_n (pc := 113) C dX6_readOperand_113 rfl rfl ?_
            refine z_bipush (pc := 114) C dX6_readOperand_114 (by decide) ?_
            refine z_aload_nZ (pc := 116) C dX6_readOperand_116 rfl rfl ?_
            refine z_getR (pc := 117) C fX6_16 sh31 rfl dX6_readOperand_117 ?_
            refine z_iload_n (pc := 120) C dX6_readOperand_120 rfl rfl ?_
            refine z_iald (pc := 121) C sh34 (by (try unfold zRg at *); (try simp only [IX, IM] at *); omega) (by (try unfold zRg at *); (try simp only [IX, IM] at *); omega) dX6_readOperand_121 ?_
            refine z_callVv (pc := 122) (rest := []) C (C_X6_openCall E σ hR 1 (zRgL rfl) p hp (-10) (zRgL rfl) (σ 34 p.toNat) (hR 34 _) hI hM9) vX6_209 (by decide) sh31 rfl rfl rfl (Nat.le_of_ble_eq_true rfl) dX6_readOperand_122 (fun σ_122 hR_122 hp_122 => ?_)
            refine z_goto (pc := 125) C 137 dX6_readOperand_125 rfl ?_
            refine hret 137 _ _ dX6_readOperand_137 hR_122 ?_
            unfold mrdop
            rw [← ec, ← ep]
            first
            | (rw [zif_pos (by assumption), e_81, e_71, e_66, e_61, hp_58.2, hp_58.1])
            | (rw [zif_neg (by assumption), zif_pos (by assumption)]; assumption)
            | (rw [zif_neg (by assumption), zif_neg (by assumption), zif_pos (by omega)]; assumption)
            | (rw [zif_neg (by assumption), zif_neg (by assumption), zif_neg (by omega)]; assumption)
        · refine z_aload_nZ (pc := 93) C dX6_readOperand_93 rfl rfl ?_
          refine z_bipush (pc := 94) C dX6_readOperand_94 (by decide) ?_
          refine z_bipush (pc := 96) C dX6_readOperand_96 (by decide) ?_
          refine z_bipush (pc := 98) C dX6_readOperand_98 (by decide) ?_
          refine z_iconst (pc := 100) C dX6_readOperand_100 ?_
          refine z_callVv (pc := 101) (rest := []) C (C_X6_openCall E σ hR 40 (zRgL rfl) (-10) (zRgL rfl) (-10) (zRgL rfl) 0 (zRgL rfl) hI hM9) vX6_209 (by decide) sh31 rfl rfl rfl (Nat.le_of_ble_eq_true rfl) dX6_readOperand_101 (fun σ_101 hR_101 hp_101 => ?_)
          refine z_goto (pc := 104) C 137 dX6_readOperand_104 rfl ?_
          refine hret 137 _ _ dX6_readOperand_137 hR_101 ?_
          unfold mrdop
          rw [← ec, ← ep]
          first
          | (rw [zif_pos (by assumption), e_81, e_71, e_66, e_61, hp_58.2, hp_58.1])
          | (rw [zif_neg (by assumption), zif_pos (by assumption)]; assumption)
          | (rw [zif_neg (by assumption), zif_neg (by assumption), zif_pos (by omega)]; assumption)
          | (rw [zif_neg (by assumption), zif_neg (by assumption), zif_neg (by omega)]; assumption)
      · have c_46 := zb1 hp_43 c_46
        refine z_aload_nZ (pc := 49) C dX6_readOperand_49 rfl rfl ?_
        refine z_aload_nZ (pc := 50) C dX6_readOperand_50 rfl rfl ?_
        refine z_bipush (pc := 51) C dX6_readOperand_51 (by decide) ?_
        refine z_iload_n (pc := 53) C dX6_readOperand_53 rfl rfl ?_
        refine z_bipush (pc := 54) C dX6_readOperand_54 (by decide) ?_
        refine z_bipush (pc := 56) C dX6_readOperand_56 (by decide) ?_
        refine z_callVi (pc := 58) (rest := [zrf E 31]) C (C_X6_addRead E σ hR (-10) (zRgL rfl) c hc (-10) (zRgL rfl) (-10) (zRgL rfl) hI (by (try unfold zRg at *); (try simp only [IX, IM] at *); omega)) vX6_200 (by decide) sh31 rfl rfl rfl (Nat.le_of_ble_eq_true rfl) dX6_readOperand_58 (fun r_58 σ_58 g_58 hR_58 hp_58 => ?_)
        have hI_58 : IM σ_58 := by rw [hp_58.2]; exact hI.mrd
        refine z_putI (pc := 61) C hR_58 fX6_203 sh31 rfl g_58 dX6_readOperand_61 (fun σ_61 e_61 hR_61 => ?_)
        have hI_61 : IM σ_61 := by rw [e_61]; exact hI_58.upF rfl
        refine z_aload_nZ (pc := 64) C dX6_readOperand_64 rfl rfl ?_
        refine z_iconst (pc := 65) C dX6_readOperand_65 ?_
        refine z_putZ (pc := 66) C hR_61 fX6_206 sh31 rfl (Or.inl rfl) dX6_readOperand_66 (fun σ_66 e_66 hR_66 => ?_)
        have hI_66 : IM σ_66 := by rw [e_66]; exact hI_61.upF rfl
        refine z_aload_nZ (pc := 69) C dX6_readOperand_69 rfl rfl ?_
        refine z_iconst (pc := 70) C dX6_readOperand_70 ?_
        refine z_putZ (pc := 71) C hR_66 fX6_193 sh31 rfl (Or.inl rfl) dX6_readOperand_71 (fun σ_71 e_71 hR_71 => ?_)
        have hI_71 : IM σ_71 := by rw [e_71]; exact hI_66.upF rfl
        refine z_aload_nZ (pc := 74) C dX6_readOperand_74 rfl rfl ?_
        refine z_dup (pc := 75) C dX6_readOperand_75 rfl ?_
        refine z_getIe (pc := 76) (v := σ 31 35) C fX6_187 sh31 rfl dX6_readOperand_76 (by rw [e_71, zup_place (by decide), e_66, zup_place (by decide), e_61, zup_place (by decide), hp_58.2, mrd_31 (by decide)]) ?_
        refine z_iconst (pc := 79) C dX6_readOperand_79 ?_
        refine z_iadd (pc := 80) C dX6_readOperand_80 ?_
        refine z_putI (pc := 81) C hR_71 fX6_187 sh31 rfl (by (try unfold zRg at *); (try simp only [IX, IM] at *); omega) dX6_readOperand_81 (fun σ_81 e_81 hR_81 => ?_)
        have hI_81 : IM σ_81 := by rw [e_81]; exact hI_71.upF rfl
        refine z_goto (pc := 84) C 137 dX6_readOperand_84 rfl ?_
        refine hret 137 _ _ dX6_readOperand_137 hR_81 ?_
        unfold mrdop
        rw [← ec, ← ep]
        first
        | (rw [zif_pos (by assumption), e_81, e_71, e_66, e_61, hp_58.2, hp_58.1])
        | (rw [zif_neg (by assumption), zif_pos (by assumption)]; assumption)
        | (rw [zif_neg (by assumption), zif_neg (by assumption), zif_pos (by omega)]; assumption)
        | (rw [zif_neg (by assumption), zif_neg (by assumption), zif_neg (by omega)]; assumption)
    refine z_iload_n (pc := 26) C dX6_readOperand_26 rfl rfl ?_
    refine z_if_ge (pc := 27) C 35 hc dX6_readOperand_27 rfl (fun c_27 => ?_) (fun c_27 => ?_)
    · refine z_aload_nZ (pc := 35) C dX6_readOperand_35 rfl rfl ?_
      refine z_iload_n (pc := 36) C dX6_readOperand_36 rfl rfl ?_
      refine z_iconst (pc := 37) C dX6_readOperand_37 ?_
      refine z_callVp (pc := 38) (rest := []) C (C_X6_operatorFor E σ hR c hc 1 (Or.inr rfl) hI) vX6_101 (by decide) sh31 rfl rfl rfl (Nat.le_of_ble_eq_true rfl) dX6_readOperand_38 (fun r_38 g_38 hp_38 => ?_)
      exact L41 _ g_38 (by unfold mpre; rw [← ec]; first | (rw [zif_pos (by assumption)]; done) | (rw [zif_neg (by omega)]; assumption))
    · refine z_bipush (pc := 30) C dX6_readOperand_30 (by decide) ?_
      refine z_goto (pc := 32) C 41 dX6_readOperand_32 rfl ?_
      exact L41 _ (zRgL rfl) (by unfold mpre; rw [← ec]; first | (rw [zif_pos (by assumption)]; done) | (rw [zif_neg (by omega)]; assumption))
  refine z_aload_nZ (pc := 0) C dX6_readOperand_0 rfl rfl ?_
  refine z_getI (pc := 1) C fX6_187 sh31 rfl dX6_readOperand_1 ?_
  refine z_aload_nZ (pc := 4) C dX6_readOperand_4 rfl rfl ?_
  refine z_getI (pc := 5) C fX6_197 sh31 rfl dX6_readOperand_5 ?_
  refine z_icmp_ge (pc := 8) C 23 (hR 31 _) (hR 31 _) dX6_readOperand_8 rfl (fun c_8 => ?_) (fun c_8 => ?_)
  · refine z_bipush (pc := 23) C dX6_readOperand_23 (by decide) ?_
    exact L25 _ (zRgL rfl) (by unfold mchr; first | rw [zif_pos (by assumption)] | rw [zif_neg (by omega)])
  · refine z_aload_nZ (pc := 11) C dX6_readOperand_11 rfl rfl ?_
    refine z_getR (pc := 12) C fX6_69 sh31 rfl dX6_readOperand_12 ?_
    refine z_aload_nZ (pc := 15) C dX6_readOperand_15 rfl rfl ?_
    refine z_getI (pc := 16) C fX6_187 sh31 rfl dX6_readOperand_16 ?_
    refine z_iald (pc := 19) C sh48 (by (try unfold zRg at *); (try simp only [IX, IM] at *); omega) (by (try unfold zRg at *); (try simp only [IX, IM] at *); omega) dX6_readOperand_19 ?_
    refine z_goto (pc := 20) C 25 dX6_readOperand_20 rfl ?_
    exact L25 _ (hR 48 _) (by unfold mchr; first | rw [zif_pos (by assumption)] | rw [zif_neg (by omega)])
set_option maxRecDepth 20000 in
theorem C_X6_isBareAndBarred (E : ZE) (σ : ZSt) (hR : zRs σ) (a : Int) (ha : zRg a) (hI : IM σ) (ho : 0 ≤ a ∧ a < 16) (hL : RL1 σ) : ZMi E 1 yX6_isBareAndBarred cX6_isBareAndBarred 2 (some .boolean) [zrf E 31, ziv a] σ (fun r σ' => (r = zb (mbb σ a)) ∧ σ' = σ) := by
  refine ZMi.introZ (by decide) rfl (Nat.le_of_ble_eq_true rfl) (fun Γ C hN hret => ?_)
  show ZG E Γ 0 [some (zrf E 31), some (ziv a)] [] σ
  obtain ⟨hL1, hL2⟩ := hL
  refine z_aload_nZ (pc := 0) C dX6_isBareAndBarred_0 rfl rfl ?_
  refine z_getI (pc := 1) C fX6_206 sh31 rfl dX6_isBareAndBarred_1 ?_
  refine z_if_ne (pc := 4) C 28 (hR 31 _) dX6_isBareAndBarred_4 rfl (fun c_4 => ?_) (fun c_4 => ?_)
  · refine z_iconst (pc := 28) C dX6_isBareAndBarred_28 ?_
    refine hret 29 _ _ _ dX6_isBareAndBarred_29 (Or.inl rfl) hR ?_
    exact ⟨by first | exact zb_one ⟨by assumption, by assumption⟩ | exact zb_zero (fun w => by first | exact absurd w.1 (by assumption) | exact absurd w.2 (by assumption)), rfl⟩
  · refine z_aload_nZ (pc := 7) C dX6_isBareAndBarred_7 rfl rfl ?_
    refine z_iload_n (pc := 8) C dX6_isBareAndBarred_8 rfl rfl ?_
    refine z_aload_nZ (pc := 9) C dX6_isBareAndBarred_9 rfl rfl ?_
    refine z_getR (pc := 10) C fX6_72 sh31 rfl dX6_isBareAndBarred_10 ?_
    refine z_aload_nZ (pc := 13) C dX6_isBareAndBarred_13 rfl rfl ?_
    refine z_getI (pc := 14) C fX6_203 sh31 rfl dX6_isBareAndBarred_14 ?_
    refine z_iald (pc := 17) C sh49 (by (try unfold zRg at *); (try simp only [IX, IM] at *); omega) (by (try unfold zRg at *); (try simp only [IX, IM] at *); omega) dX6_isBareAndBarred_17 ?_
    refine z_callVp (pc := 18) (rest := []) C (C_X6_isBarred E σ hR a ha (σ 49 (σ 31 37).toNat) (hR 49 _) hI ho hL2) vX6_119 (by decide) sh31 rfl rfl rfl (Nat.le_of_ble_eq_true rfl) dX6_isBareAndBarred_18 (fun r_18 g_18 hp_18 => ?_)
    refine z_if_eq (pc := 21) C 28 g_18 dX6_isBareAndBarred_21 rfl (fun c_21 => ?_) (fun c_21 => ?_)
    · have c_21 := zb0 hp_18 c_21
      refine z_iconst (pc := 28) C dX6_isBareAndBarred_28 ?_
      refine hret 29 _ _ _ dX6_isBareAndBarred_29 (Or.inl rfl) hR ?_
      exact ⟨by first | exact zb_one ⟨by assumption, by assumption⟩ | exact zb_zero (fun w => by first | exact absurd w.1 (by assumption) | exact absurd w.2 (by assumption)), rfl⟩
    · have c_21 := zb1 hp_18 c_21
      refine z_iconst (pc := 24) C dX6_isBareAndBarred_24 ?_
      refine z_goto (pc := 25) C 29 dX6_isBareAndBarred_25 rfl ?_
      refine hret 29 _ _ _ dX6_isBareAndBarred_29 (Or.inr rfl) hR ?_
      exact ⟨by first | exact zb_one ⟨by assumption, by assumption⟩ | exact zb_zero (fun w => by first | exact absurd w.1 (by assumption) | exact absurd w.2 (by assumption)), rfl⟩
set_option maxRecDepth 20000 in
theorem C_X6_readPostfix (E : ZE) (σ : ZSt) (hR : zRs σ) (a : Int) (ha : zRg a) (hI : IM σ) (ho : 0 ≤ a ∧ a < 16) (hM : RM σ) (hL : RL1 σ) : ZMv E 2 yX6_readPostfix cX6_readPostfix 2 [zrf E 31, ziv a] σ (fun σ' => σ' = mrpost σ a) := by
  refine ZMv.intro (by decide) rfl (Nat.le_of_ble_eq_true rfl) (fun Γ C hN hret => ?_)
  show ZG E Γ 0 [some (zrf E 31), some (ziv a)] [] σ
  obtain ⟨hM1, hM2, hM3⟩ := hM
  have hlen := hI.len
  refine z_aload_nZ (pc := 0) C dX6_readPostfix_0 rfl rfl ?_
  refine z_iload_n (pc := 1) C dX6_readPostfix_1 rfl rfl ?_
  refine z_callVp (pc := 2) (rest := []) C (C_X6_isBareAndBarred E σ hR a ha hI ho hL) vX6_216 (by decide) sh31 rfl rfl rfl (Nat.le_of_ble_eq_true rfl) dX6_readPostfix_2 (fun r_2 g_2 hp_2 => ?_)
  refine z_if_eq (pc := 5) C 19 g_2 dX6_readPostfix_5 rfl (fun c_5 => ?_) (fun c_5 => ?_)
  · have c_5 := zb0 hp_2 c_5
    refine z_aload_nZ (pc := 19) C dX6_readPostfix_19 rfl rfl ?_
    refine z_aload_nZ (pc := 20) C dX6_readPostfix_20 rfl rfl ?_
    refine z_iload_n (pc := 21) C dX6_readPostfix_21 rfl rfl ?_
    refine z_bipush (pc := 22) C dX6_readPostfix_22 (by decide) ?_
    refine z_aload_nZ (pc := 24) C dX6_readPostfix_24 rfl rfl ?_
    refine z_getI (pc := 25) C fX6_203 sh31 rfl dX6_readPostfix_25 ?_
    refine z_bipush (pc := 28) C dX6_readPostfix_28 (by decide) ?_
    refine z_callVi (pc := 30) (rest := [zrf E 31]) C (C_X6_addRead E σ hR a ha (-10) (zRgL rfl) (σ 31 37) (hR 31 _) (-10) (zRgL rfl) hI (by (try unfold zRg at *); (try simp only [IX, IM] at *); omega)) vX6_200 (by decide) sh31 rfl rfl rfl (Nat.le_of_ble_eq_true rfl) dX6_readPostfix_30 (fun r_30 σ_30 g_30 hR_30 hp_30 => ?_)
    have hI_30 : IM σ_30 := by rw [hp_30.2]; exact hI.mrd
    refine z_putI (pc := 33) C hR_30 fX6_203 sh31 rfl g_30 dX6_readPostfix_33 (fun σ_33 e_33 hR_33 => ?_)
    have hI_33 : IM σ_33 := by rw [e_33]; exact hI_30.upF rfl
    refine z_aload_nZ (pc := 36) C dX6_readPostfix_36 rfl rfl ?_
    refine z_iconst (pc := 37) C dX6_readPostfix_37 ?_
    refine z_putZ (pc := 38) C hR_33 fX6_206 sh31 rfl (Or.inl rfl) dX6_readPostfix_38 (fun σ_38 e_38 hR_38 => ?_)
    have hI_38 : IM σ_38 := by rw [e_38]; exact hI_33.upF rfl
    refine z_aload_nZ (pc := 41) C dX6_readPostfix_41 rfl rfl ?_
    refine z_dup (pc := 42) C dX6_readPostfix_42 rfl ?_
    refine z_getIe (pc := 43) (v := σ 31 35) C fX6_187 sh31 rfl dX6_readPostfix_43 (by rw [e_38, zup_place (by decide), e_33, zup_place (by decide), hp_30.2, mrd_31 (by decide)]) ?_
    refine z_iconst (pc := 46) C dX6_readPostfix_46 ?_
    refine z_iadd (pc := 47) C dX6_readPostfix_47 ?_
    refine z_putI (pc := 48) C hR_38 fX6_187 sh31 rfl (by (try unfold zRg at *); (try simp only [IX, IM] at *); omega) dX6_readPostfix_48 (fun σ_48 e_48 hR_48 => ?_)
    have hI_48 : IM σ_48 := by rw [e_48]; exact hI_38.upF rfl
    refine hret 51 _ _ dX6_readPostfix_51 hR_48 ?_
    unfold mrpost
    first | (rw [zif_pos (by assumption)]; assumption) | (rw [zif_neg (by assumption), e_48, e_38, e_33, hp_30.2, hp_30.1])
  · have c_5 := zb1 hp_2 c_5
    refine z_aload_nZ (pc := 8) C dX6_readPostfix_8 rfl rfl ?_
    refine z_bipush (pc := 9) C dX6_readPostfix_9 (by decide) ?_
    refine z_aload_nZ (pc := 11) C dX6_readPostfix_11 rfl rfl ?_
    refine z_getI (pc := 12) C fX6_187 sh31 rfl dX6_readPostfix_12 ?_
    refine z_callVv (pc := 15) (rest := []) C (C_X6_fail E σ hR 6 (zRgL rfl) (σ 31 35) (hR 31 _)) vX6_212 (by decide) sh31 rfl rfl rfl (Nat.le_of_ble_eq_true rfl) dX6_readPostfix_15 (fun σ_15 hR_15 hp_15 => ?_)
    refine hret 18 _ _ dX6_readPostfix_18 hR_15 ?_
    unfold mrpost
    first | (rw [zif_pos (by assumption)]; assumption) | (rw [zif_neg (by assumption), e_48, e_38, e_33, hp_30.2, hp_30.1])
set_option maxRecDepth 20000 in
theorem C_X6_readInfix (E : ZE) (σ : ZSt) (hR : zRs σ) (a : Int) (ha : zRg a) (hI : IM σ) (ho : 0 ≤ a ∧ a < 16) (hM : RM σ) (hL : RL1 σ) : ZMv E 2 yX6_readInfix cX6_readInfix 2 [zrf E 31, ziv a] σ (fun σ' => σ' = mrinf σ a) := by
  refine ZMv.intro (by decide) rfl (Nat.le_of_ble_eq_true rfl) (fun Γ C hN hret => ?_)
  show ZG E Γ 0 [some (zrf E 31), some (ziv a)] [] σ
  have hL9 := hL.1
  refine z_aload_nZ (pc := 0) C dX6_readInfix_0 rfl rfl ?_
  refine z_getI (pc := 1) C fX6_206 sh31 rfl dX6_readInfix_1 ?_
  refine z_if_ne (pc := 4) C 36 (hR 31 _) dX6_readInfix_4 rfl (fun c_4 => ?_) (fun c_4 => ?_)
  · refine z_aload_nZ (pc := 36) C dX6_readInfix_36 rfl rfl ?_
    refine z_iload_n (pc := 37) C dX6_readInfix_37 rfl rfl ?_
    refine z_callVp (pc := 38) (rest := []) C (C_X6_isBareAndBarred E σ hR a ha hI ho hL) vX6_216 (by decide) sh31 rfl rfl rfl (Nat.le_of_ble_eq_true rfl) dX6_readInfix_38 (fun r_38 g_38 hp_38 => ?_)
    refine z_if_eq (pc := 41) C 57 g_38 dX6_readInfix_41 rfl (fun c_41 => ?_) (fun c_41 => ?_)
    · have c_41 := zb0 hp_38 c_41
      refine z_aload_nZ (pc := 57) C dX6_readInfix_57 rfl rfl ?_
      refine z_iconst (pc := 58) C dX6_readInfix_58 ?_
      refine z_iload_n (pc := 59) C dX6_readInfix_59 rfl rfl ?_
      refine z_aload_nZ (pc := 60) C dX6_readInfix_60 rfl rfl ?_
      refine z_getI (pc := 61) C fX6_203 sh31 rfl dX6_readInfix_61 ?_
      refine z_aload_nZ (pc := 64) C dX6_readInfix_64 rfl rfl ?_
      refine z_iload_n (pc := 65) C dX6_readInfix_65 rfl rfl ?_
      refine z_callVp (pc := 66) (rest := [ziv (σ 31 37), ziv a, ziv 0, zrf E 31]) C (C_X6_rightLevel E σ hR a ha hI ho) vX6_140 (by decide) sh31 rfl rfl rfl (Nat.le_of_ble_eq_true rfl) dX6_readInfix_66 (fun r_66 g_66 hp_66 => ?_)
      refine z_callVv (pc := 69) (rest := []) C (C_X6_openCall E σ hR 0 (zRgL rfl) a ha (σ 31 37) (hR 31 _) r_66 g_66 hI hM) vX6_209 (by decide) sh31 rfl rfl rfl (Nat.le_of_ble_eq_true rfl) dX6_readInfix_69 (fun σ_69 hR_69 hp_69 => ?_)
      refine hret 72 _ _ dX6_readInfix_72 hR_69 ?_
      unfold mrinf
      first
      | (rw [zif_pos ⟨by assumption, by assumption⟩]; assumption)
      | (rw [zif_neg (fun w => by first | exact absurd w.1 (by assumption) | exact absurd w.2 (by assumption)), zif_pos (by assumption)]; assumption)
      | (rw [zif_neg (fun w => by first | exact absurd w.1 (by assumption) | exact absurd w.2 (by assumption)), zif_neg (by assumption), ← hp_66]; assumption)
    · have c_41 := zb1 hp_38 c_41
      refine z_aload_nZ (pc := 44) C dX6_readInfix_44 rfl rfl ?_
      refine z_bipush (pc := 45) C dX6_readInfix_45 (by decide) ?_
      refine z_aload_nZ (pc := 47) C dX6_readInfix_47 rfl rfl ?_
      refine z_getI (pc := 48) C fX6_187 sh31 rfl dX6_readInfix_48 ?_
      refine z_callVv (pc := 51) (rest := []) C (C_X6_fail E σ hR 6 (zRgL rfl) (σ 31 35) (hR 31 _)) vX6_212 (by decide) sh31 rfl rfl rfl (Nat.le_of_ble_eq_true rfl) dX6_readInfix_51 (fun σ_51 hR_51 hp_51 => ?_)
      refine z_goto (pc := 54) C 72 dX6_readInfix_54 rfl ?_
      refine hret 72 _ _ dX6_readInfix_72 hR_51 ?_
      unfold mrinf
      first
      | (rw [zif_pos ⟨by assumption, by assumption⟩]; assumption)
      | (rw [zif_neg (fun w => by first | exact absurd w.1 (by assumption) | exact absurd w.2 (by assumption)), zif_pos (by assumption)]; assumption)
      | (rw [zif_neg (fun w => by first | exact absurd w.1 (by assumption) | exact absurd w.2 (by assumption)), zif_neg (by assumption), ← hp_66]; assumption)
  · refine z_aload_nZ (pc := 7) C dX6_readInfix_7 rfl rfl ?_
    refine z_iload_n (pc := 8) C dX6_readInfix_8 rfl rfl ?_
    refine z_aload_nZ (pc := 9) C dX6_readInfix_9 rfl rfl ?_
    refine z_getR (pc := 10) C fX6_72 sh31 rfl dX6_readInfix_10 ?_
    refine z_aload_nZ (pc := 13) C dX6_readInfix_13 rfl rfl ?_
    refine z_getI (pc := 14) C fX6_203 sh31 rfl dX6_readInfix_14 ?_
    refine z_iald (pc := 17) C sh49 (by (try unfold zRg at *); (try simp only [IX, IM] at *); omega) (by (try unfold zRg at *); (try simp only [IX, IM] at *); omega) dX6_readInfix_17 ?_
    refine z_callVp (pc := 18) (rest := []) C (C_X6_isClash E σ hR a ha (σ 49 (σ 31 37).toNat) (hR 49 _) hI ho hL.2) vX6_123 (by decide) sh31 rfl rfl rfl (Nat.le_of_ble_eq_true rfl) dX6_readInfix_18 (fun r_18 g_18 hp_18 => ?_)
    refine z_if_eq (pc := 21) C 36 g_18 dX6_readInfix_21 rfl (fun c_21 => ?_) (fun c_21 => ?_)
    · have c_21 := zb0 hp_18 c_21
      refine z_aload_nZ (pc := 36) C dX6_readInfix_36 rfl rfl ?_
      refine z_iload_n (pc := 37) C dX6_readInfix_37 rfl rfl ?_
      refine z_callVp (pc := 38) (rest := []) C (C_X6_isBareAndBarred E σ hR a ha hI ho hL) vX6_216 (by decide) sh31 rfl rfl rfl (Nat.le_of_ble_eq_true rfl) dX6_readInfix_38 (fun r_38 g_38 hp_38 => ?_)
      refine z_if_eq (pc := 41) C 57 g_38 dX6_readInfix_41 rfl (fun c_41 => ?_) (fun c_41 => ?_)
      · have c_41 := zb0 hp_38 c_41
        refine z_aload_nZ (pc := 57) C dX6_readInfix_57 rfl rfl ?_
        refine z_iconst (pc := 58) C dX6_readInfix_58 ?_
        refine z_iload_n (pc := 59) C dX6_readInfix_59 rfl rfl ?_
        refine z_aload_nZ (pc := 60) C dX6_readInfix_60 rfl rfl ?_
        refine z_getI (pc := 61) C fX6_203 sh31 rfl dX6_readInfix_61 ?_
        refine z_aload_nZ (pc := 64) C dX6_readInfix_64 rfl rfl ?_
        refine z_iload_n (pc := 65) C dX6_readInfix_65 rfl rfl ?_
        refine z_callVp (pc := 66) (rest := [ziv (σ 31 37), ziv a, ziv 0, zrf E 31]) C (C_X6_rightLevel E σ hR a ha hI ho) vX6_140 (by decide) sh31 rfl rfl rfl (Nat.le_of_ble_eq_true rfl) dX6_readInfix_66 (fun r_66 g_66 hp_66 => ?_)
        refine z_callVv (pc := 69) (rest := []) C (C_X6_openCall E σ hR 0 (zRgL rfl) a ha (σ 31 37) (hR 31 _) r_66 g_66 hI hM) vX6_209 (by decide) sh31 rfl rfl rfl (Nat.le_of_ble_eq_true rfl) dX6_readInfix_69 (fun σ_69 hR_69 hp_69 => ?_)
        refine hret 72 _ _ dX6_readInfix_72 hR_69 ?_
        unfold mrinf
        first
        | (rw [zif_pos ⟨by assumption, by assumption⟩]; assumption)
        | (rw [zif_neg (fun w => by first | exact absurd w.1 (by assumption) | exact absurd w.2 (by assumption)), zif_pos (by assumption)]; assumption)
        | (rw [zif_neg (fun w => by first | exact absurd w.1 (by assumption) | exact absurd w.2 (by assumption)), zif_neg (by assumption), ← hp_66]; assumption)
      · have c_41 := zb1 hp_38 c_41
        refine z_aload_nZ (pc := 44) C dX6_readInfix_44 rfl rfl ?_
        refine z_bipush (pc := 45) C dX6_readInfix_45 (by decide) ?_
        refine z_aload_nZ (pc := 47) C dX6_readInfix_47 rfl rfl ?_
        refine z_getI (pc := 48) C fX6_187 sh31 rfl dX6_readInfix_48 ?_
        refine z_callVv (pc := 51) (rest := []) C (C_X6_fail E σ hR 6 (zRgL rfl) (σ 31 35) (hR 31 _)) vX6_212 (by decide) sh31 rfl rfl rfl (Nat.le_of_ble_eq_true rfl) dX6_readInfix_51 (fun σ_51 hR_51 hp_51 => ?_)
        refine z_goto (pc := 54) C 72 dX6_readInfix_54 rfl ?_
        refine hret 72 _ _ dX6_readInfix_72 hR_51 ?_
        unfold mrinf
        first
        | (rw [zif_pos ⟨by assumption, by assumption⟩]; assumption)
        | (rw [zif_neg (fun w => by first | exact absurd w.1 (by assumption) | exact absurd w.2 (by assumption)), zif_pos (by assumption)]; assumption)
        | (rw [zif_neg (fun w => by first | exact absurd w.1 (by assumption) | exact absurd w.2 (by assumption)), zif_neg (by assumption), ← hp_66]; assumption)
    · have c_21 := zb1 hp_18 c_21
      refine z_aload_nZ (pc := 24) C dX6_readInfix_24 rfl rfl ?_
      refine z_iconst (pc := 25) C dX6_readInfix_25 ?_
      refine z_aload_nZ (pc := 26) C dX6_readInfix_26 rfl rfl ?_
      refine z_getI (pc := 27) C fX6_187 sh31 rfl dX6_readInfix_27 ?_
      refine z_callVv (pc := 30) (rest := []) C (C_X6_fail E σ hR 5 (zRgL rfl) (σ 31 35) (hR 31 _)) vX6_212 (by decide) sh31 rfl rfl rfl (Nat.le_of_ble_eq_true rfl) dX6_readInfix_30 (fun σ_30 hR_30 hp_30 => ?_)
      refine z_goto (pc := 33) C 72 dX6_readInfix_33 rfl ?_
      refine hret 72 _ _ dX6_readInfix_72 hR_30 ?_
      unfold mrinf
      first
      | (rw [zif_pos ⟨by assumption, by assumption⟩]; assumption)
      | (rw [zif_neg (fun w => by first | exact absurd w.1 (by assumption) | exact absurd w.2 (by assumption)), zif_pos (by assumption)]; assumption)
      | (rw [zif_neg (fun w => by first | exact absurd w.1 (by assumption) | exact absurd w.2 (by assumption)), zif_neg (by assumption), ← hp_66]; assumption)
theorem mbb_up7 {σ ρ : ZSt} {v o : Int} (e : ρ = zup σ 31 32 v) (h : mbb ρ o) : mbb σ o := by
  rw [e] at h
  exact h
theorem mbb_up7n {σ ρ : ZSt} {v o : Int} (e : ρ = zup σ 31 32 v) (h : ¬ mbb ρ o) : ¬ mbb σ o := by
  rw [e] at h
  exact h
set_option maxRecDepth 20000 in
theorem C_X6_endCall (E : ZE) (σ : ZSt) (hR : zRs σ) (hI : IM σ) (hM : RM σ) (hL : RL1 σ) (ho1 : 0 < σ 31 32) (hfo : σ 53 (5 * (σ 31 32 - 1)).toNat ≠ 40 → 0 ≤ σ 53 (5 * (σ 31 32 - 1) + 1).toNat ∧ σ 53 (5 * (σ 31 32 - 1) + 1).toNat < 16) : ZMv E 2 yX6_endCall cX6_endCall 4 [zrf E 31] σ (fun σ' => σ' = mend σ) := by
  refine ZMv.intro (by decide) rfl (Nat.le_of_ble_eq_true rfl) (fun Γ C hN hret => ?_)
  show ZG E Γ 0 [some (zrf E 31), none, none, none] [] σ
  obtain ⟨hM1, hM2, hM3⟩ := hM
  have hlen := hI.len
  refine z_aload_nZ (pc := 0) C dX6_endCall_0 rfl rfl ?_
  refine z_dup (pc := 1) C dX6_endCall_1 rfl ?_
  refine z_getI (pc := 2) C fX6_184 sh31 rfl dX6_endCall_2 ?_
  refine z_iconst (pc := 5) C dX6_endCall_5 ?_
  refine z_isub (pc := 6) C dX6_endCall_6 ?_
  refine z_putI (pc := 7) C hR fX6_184 sh31 rfl (by (try unfold zRg at *); (try simp only [IX, IM] at *); omega) dX6_endCall_7 (fun σ_7 e_7 hR_7 => ?_)
  have hI_7 : IM σ_7 := by rw [e_7]; exact hI.upF rfl
  refine z_aload_nZ (pc := 10) C dX6_endCall_10 rfl rfl ?_
  refine z_getR (pc := 11) C fX6_84 sh31 rfl dX6_endCall_11 ?_
  refine z_iconst (pc := 14) C dX6_endCall_14 ?_
  refine z_aload_nZ (pc := 15) C dX6_endCall_15 rfl rfl ?_
  refine z_getIe (pc := 16) (v := (σ 31 32) - 1) C fX6_184 sh31 rfl dX6_endCall_16 (by rw [e_7, zup_same]) ?_
  refine z_imul (pc := 19) C dX6_endCall_19 ?_
  refine z_ialde (pc := 20) (v := σ 53 (5 * ((σ 31 32) - 1)).toNat) C sh53 (by (try unfold zRg at *); (try simp only [IX, IM] at *); omega) (by (try unfold zRg at *); (try simp only [IX, IM] at *); omega) dX6_endCall_20 (by rw [e_7, zup_cell (by omega)]) ?_
  refine z_istore_n (pc := 21) (lv' := [some (zrf E 31), some (ziv (σ 53 (5 * ((σ 31 32) - 1)).toNat)), none, none]) C hN dX6_endCall_21 rfl (by decide) rfl ?_
  refine z_aload_nZ (pc := 22) C dX6_endCall_22 rfl rfl ?_
  refine z_getR (pc := 23) C fX6_84 sh31 rfl dX6_endCall_23 ?_
  refine z_iconst (pc := 26) C dX6_endCall_26 ?_
  refine z_aload_nZ (pc := 27) C dX6_endCall_27 rfl rfl ?_
  refine z_getIe (pc := 28) (v := (σ 31 32) - 1) C fX6_184 sh31 rfl dX6_endCall_28 (by rw [e_7, zup_same]) ?_
  refine z_imul (pc := 31) C dX6_endCall_31 ?_
  refine z_iconst (pc := 32) C dX6_endCall_32 ?_
  refine z_iadd (pc := 33) C dX6_endCall_33 ?_
  refine z_ialde (pc := 34) (v := σ 53 ((5 * ((σ 31 32) - 1)) + 1).toNat) C sh53 (by (try unfold zRg at *); (try simp only [IX, IM] at *); omega) (by (try unfold zRg at *); (try simp only [IX, IM] at *); omega) dX6_endCall_34 (by rw [e_7, zup_cell (by omega)]) ?_
  refine z_istore_n (pc := 35) (lv' := [some (zrf E 31), some (ziv (σ 53 (5 * ((σ 31 32) - 1)).toNat)), some (ziv (σ 53 ((5 * ((σ 31 32) - 1)) + 1).toNat)), none]) C hN dX6_endCall_35 rfl (by decide) rfl ?_
  refine z_aload_nZ (pc := 36) C dX6_endCall_36 rfl rfl ?_
  refine z_getR (pc := 37) C fX6_84 sh31 rfl dX6_endCall_37 ?_
  refine z_iconst (pc := 40) C dX6_endCall_40 ?_
  refine z_aload_nZ (pc := 41) C dX6_endCall_41 rfl rfl ?_
  refine z_getIe (pc := 42) (v := (σ 31 32) - 1) C fX6_184 sh31 rfl dX6_endCall_42 (by rw [e_7, zup_same]) ?_
  refine z_imul (pc := 45) C dX6_endCall_45 ?_
  refine z_iconst (pc := 46) C dX6_endCall_46 ?_
  refine z_iadd (pc := 47) C dX6_endCall_47 ?_
  refine z_ialde (pc := 48) (v := σ 53 ((5 * ((σ 31 32) - 1)) + 2).toNat) C sh53 (by (try unfold zRg at *); (try simp only [IX, IM] at *); omega) (by (try unfold zRg at *); (try simp only [IX, IM] at *); omega) dX6_endCall_48 (by rw [e_7, zup_cell (by omega)]) ?_
  refine z_istore_n (pc := 49) (lv' := [some (zrf E 31), some (ziv (σ 53 (5 * ((σ 31 32) - 1)).toNat)), some (ziv (σ 53 ((5 * ((σ 31 32) - 1)) + 1).toNat)), some (ziv (σ 53 ((5 * ((σ 31 32) - 1)) + 2).toNat))]) C hN dX6_endCall_49 rfl (by decide) rfl ?_
  have L166 : ∀ (ρ : ZSt), zRs ρ → IM ρ → ρ 31 32 = σ 31 32 - 1 → ρ 53 = σ 53 → mend σ = zup ρ 31 36 (σ 53 (5 * (σ 31 32 - 1) + 4).toNat) → ZG E Γ 166 [some (zrf E 31), some (ziv (σ 53 (5 * ((σ 31 32) - 1)).toNat)), some (ziv (σ 53 ((5 * ((σ 31 32) - 1)) + 1).toNat)), some (ziv (σ 53 ((5 * ((σ 31 32) - 1)) + 2).toNat))] [] ρ := by
    intro ρ hRr hIr h32 h53 he
    refine z_aload_nZ (pc := 166) C dX6_endCall_166 rfl rfl ?_
    refine z_aload_nZ (pc := 167) C dX6_endCall_167 rfl rfl ?_
    refine z_getR (pc := 168) C fX6_84 sh31 rfl dX6_endCall_168 ?_
    refine z_iconst (pc := 171) C dX6_endCall_171 ?_
    refine z_aload_nZ (pc := 172) C dX6_endCall_172 rfl rfl ?_
    refine z_getIe (pc := 173) (v := σ 31 32 - 1) C fX6_184 sh31 rfl dX6_endCall_173 h32 ?_
    refine z_imul (pc := 176) C dX6_endCall_176 ?_
    refine z_iconst (pc := 177) C dX6_endCall_177 ?_
    refine z_iadd (pc := 178) C dX6_endCall_178 ?_
    refine z_ialde (pc := 179) (v := σ 53 (5 * (σ 31 32 - 1) + 4).toNat) C sh53 (by (try unfold zRg at *); (try simp only [IX, IM] at *); omega) (by (try unfold zRg at *); (try simp only [IX, IM] at *); omega) dX6_endCall_179 (by rw [h53]) ?_
    refine z_putI (pc := 180) C hRr fX6_190 sh31 rfl (hR 53 _) dX6_endCall_180 (fun σ_180 e_180 hR_180 => ?_)
    have hI_180 : IM σ_180 := by rw [e_180]; exact hIr.upF rfl
    refine hret 183 _ _ dX6_endCall_183 hR_180 ?_
    rw [he]; assumption
  refine z_iload_n (pc := 50) C dX6_endCall_50 rfl rfl ?_
  refine z_bipush (pc := 51) C dX6_endCall_51 (by decide) ?_
  refine z_icmp_ne (pc := 53) C 94 (hR 53 _) (zRgL rfl) dX6_endCall_53 rfl (fun c_53 => ?_) (fun c_53 => ?_)
  · refine z_aload_nZ (pc := 94) C dX6_endCall_94 rfl rfl ?_
    refine z_iload_n (pc := 95) C dX6_endCall_95 rfl rfl ?_
    refine z_callVp (pc := 96) (rest := []) C (C_X6_isBareAndBarred E σ_7 hR_7 (σ 53 ((5 * ((σ 31 32) - 1)) + 1).toNat) (hR 53 _) hI_7 (hfo (by assumption)) (by rw [e_7]; exact hL)) vX6_216 (by decide) sh31 rfl rfl rfl (Nat.le_of_ble_eq_true rfl) dX6_endCall_96 (fun r_96 g_96 hp_96 => ?_)
    refine z_if_eq (pc := 99) C 112 g_96 dX6_endCall_99 rfl (fun c_99 => ?_) (fun c_99 => ?_)
    · have c_99 := zb0 hp_96 c_99
      refine z_aload_nZ (pc := 112) C dX6_endCall_112 rfl rfl ?_
      refine z_iload_n (pc := 113) C dX6_endCall_113 rfl rfl ?_
      refine z_iconst (pc := 114) C dX6_endCall_114 ?_
      refine z_icmp_ne (pc := 115) C 134 (hR 53 _) (zRgL rfl) dX6_endCall_115 rfl (fun c_115 => ?_) (fun c_115 => ?_)
      · refine z_aload_nZ (pc := 134) C dX6_endCall_134 rfl rfl ?_
        refine z_iload_n (pc := 135) C dX6_endCall_135 rfl rfl ?_
        refine z_bipush (pc := 136) C dX6_endCall_136 (by decide) ?_
        refine z_aload_nZ (pc := 138) C dX6_endCall_138 rfl rfl ?_
        refine z_getR (pc := 139) C fX6_84 sh31 rfl dX6_endCall_139 ?_
        refine z_iconst (pc := 142) C dX6_endCall_142 ?_
        refine z_aload_nZ (pc := 143) C dX6_endCall_143 rfl rfl ?_
        refine z_getIe (pc := 144) (v := (σ 31 32) - 1) C fX6_184 sh31 rfl dX6_endCall_144 (by rw [e_7, zup_same]) ?_
        refine z_imul (pc := 147) C dX6_endCall_147 ?_
        refine z_iconst (pc := 148) C dX6_endCall_148 ?_
        refine z_iadd (pc := 149) C dX6_endCall_149 ?_
        refine z_ialde (pc := 150) (v := σ 53 ((5 * ((σ 31 32) - 1)) + 3).toNat) C sh53 (by (try unfold zRg at *); (try simp only [IX, IM] at *); omega) (by (try unfold zRg at *); (try simp only [IX, IM] at *); omega) dX6_endCall_150 (by rw [e_7, zup_cell (by omega)]) ?_
        refine z_aload_nZ (pc := 151) C dX6_endCall_151 rfl rfl ?_
        refine z_getIe (pc := 152) (v := σ 31 37) C fX6_203 sh31 rfl dX6_endCall_152 (by rw [e_7, zup_place (by decide)]) ?_
        refine z_callVi (pc := 155) (rest := [zrf E 31]) C (C_X6_addRead E σ_7 hR_7 (σ 53 ((5 * ((σ 31 32) - 1)) + 1).toNat) (hR 53 _) (-10) (zRgL rfl) (σ 53 ((5 * ((σ 31 32) - 1)) + 3).toNat) (hR 53 _) (σ 31 37) (hR 31 _) hI_7 (by rw [e_7, zup_place (by decide)]; exact hM1)) vX6_200 (by decide) sh31 rfl rfl rfl (Nat.le_of_ble_eq_true rfl) dX6_endCall_155 (fun r_155 σ_155 g_155 hR_155 hp_155 => ?_)
        have hI_155 : IM σ_155 := by rw [hp_155.2]; exact hI_7.mrd
        refine z_putI (pc := 158) C hR_155 fX6_203 sh31 rfl g_155 dX6_endCall_158 (fun σ_158 e_158 hR_158 => ?_)
        have hI_158 : IM σ_158 := by rw [e_158]; exact hI_155.upF rfl
        refine z_aload_nZ (pc := 161) C dX6_endCall_161 rfl rfl ?_
        refine z_iconst (pc := 162) C dX6_endCall_162 ?_
        refine z_putZ (pc := 163) C hR_158 fX6_206 sh31 rfl (Or.inl rfl) dX6_endCall_163 (fun σ_163 e_163 hR_163 => ?_)
        have hI_163 : IM σ_163 := by rw [e_163]; exact hI_158.upF rfl
        refine L166 _ hR_163 hI_163 ?_ ?_ ?_
        · first
          | (rw [e_88, zup_place (by decide), e_83, zup_place (by decide), hp_73, mfail_31 (by decide), e_7, zup_same])
          | (rw [e_88, zup_place (by decide), e_83, zup_place (by decide), e_7, zup_same])
          | (rw [hp_106, mfail_31 (by decide), e_7, zup_same])
          | (rw [e_163, zup_place (by decide), e_158, zup_place (by decide), hp_128.2, mrd_31 (by decide), e_7, zup_same])
          | (rw [e_163, zup_place (by decide), e_158, zup_place (by decide), hp_155.2, mrd_31 (by decide), e_7, zup_same])
        · first
          | (rw [e_88, zup_row (by decide), e_83, zup_row (by decide), hp_73, mfail_row (by decide), e_7, zup_row (by decide)])
          | (rw [e_88, zup_row (by decide), e_83, zup_row (by decide), e_7, zup_row (by decide)])
          | (rw [hp_106, mfail_row (by decide), e_7, zup_row (by decide)])
          | (rw [e_163, zup_row (by decide), e_158, zup_row (by decide), hp_128.2, mrd_row (by decide), e_7, zup_row (by decide)])
          | (rw [e_163, zup_row (by decide), e_158, zup_row (by decide), hp_155.2, mrd_row (by decide), e_7, zup_row (by decide)])
        · unfold mend
          first
          | (rw [zif_pos (by assumption), zif_pos (by assumption), e_88, e_83, hp_73, e_7])
          | (rw [zif_pos (by assumption), zif_neg (by assumption), e_88, e_83, e_7])
          | (rw [zif_neg (by assumption), zif_pos (mbb_up7 e_7 (by assumption)), hp_106, e_7])
          | (rw [zif_neg (by assumption), zif_neg (mbb_up7n e_7 (by assumption)), zif_pos (by assumption), e_163, e_158, hp_128.1, hp_128.2, e_7]; rfl)
          | (rw [zif_neg (by assumption), zif_neg (mbb_up7n e_7 (by assumption)), zif_neg (by assumption), e_163, e_158, hp_155.1, hp_155.2, e_7]; rfl)
      · refine z_aload_nZ (pc := 118) C dX6_endCall_118 rfl rfl ?_
        refine z_iload_n (pc := 119) C dX6_endCall_119 rfl rfl ?_
        refine z_bipush (pc := 120) C dX6_endCall_120 (by decide) ?_
        refine z_aload_nZ (pc := 122) C dX6_endCall_122 rfl rfl ?_
        refine z_getIe (pc := 123) (v := σ 31 37) C fX6_203 sh31 rfl dX6_endCall_123 (by rw [e_7, zup_place (by decide)]) ?_
        refine z_bipush (pc := 126) C dX6_endCall_126 (by decide) ?_
        refine z_callVi (pc := 128) (rest := [zrf E 31]) C (C_X6_addRead E σ_7 hR_7 (σ 53 ((5 * ((σ 31 32) - 1)) + 1).toNat) (hR 53 _) (-10) (zRgL rfl) (σ 31 37) (hR 31 _) (-10) (zRgL rfl) hI_7 (by rw [e_7, zup_place (by decide)]; exact hM1)) vX6_200 (by decide) sh31 rfl rfl rfl (Nat.le_of_ble_eq_true rfl) dX6_endCall_128 (fun r_128 σ_128 g_128 hR_128 hp_128 => ?_)
        have hI_128 : IM σ_128 := by rw [hp_128.2]; exact hI_7.mrd
        refine z_goto (pc := 131) C 158 dX6_endCall_131 rfl ?_
        refine z_putI (pc := 158) C hR_128 fX6_203 sh31 rfl g_128 dX6_endCall_158 (fun σ_158 e_158 hR_158 => ?_)
        have hI_158 : IM σ_158 := by rw [e_158]; exact hI_128.upF rfl
        refine z_aload_nZ (pc := 161) C dX6_endCall_161 rfl rfl ?_
        refine z_iconst (pc := 162) C dX6_endCall_162 ?_
        refine z_putZ (pc := 163) C hR_158 fX6_206 sh31 rfl (Or.inl rfl) dX6_endCall_163 (fun σ_163 e_163 hR_163 => ?_)
        have hI_163 : IM σ_163 := by rw [e_163]; exact hI_158.upF rfl
        refine L166 _ hR_163 hI_163 ?_ ?_ ?_
        · first
          | (rw [e_88, zup_place (by decide), e_83, zup_place (by decide), hp_73, mfail_31 (by decide), e_7, zup_same])
          | (rw [e_88, zup_place (by decide), e_83, zup_place (by decide), e_7, zup_same])
          | (rw [hp_106, mfail_31 (by decide), e_7, zup_same])
          | (rw [e_163, zup_place (by decide), e_158, zup_place (by decide), hp_128.2, mrd_31 (by decide), e_7, zup_same])
          | (rw [e_163, zup_place (by decide), e_158, zup_place (by decide), hp_155.2, mrd_31 (by decide), e_7, zup_same])
        · first
          | (rw [e_88, zup_row (by decide), e_83, zup_row (by decide), hp_73, mfail_row (by decide), e_7, zup_row (by decide)])
          | (rw [e_88, zup_row (by decide), e_83, zup_row (by decide), e_7, zup_row (by decide)])
          | (rw [hp_106, mfail_row (by decide), e_7, zup_row (by decide)])
          | (rw [e_163, zup_row (by decide), e_158, zup_row (by decide), hp_128.2, mrd_row (by decide), e_7, zup_row (by decide)])
          | (rw [e_163, zup_row (by decide), e_158, zup_row (by decide), hp_155.2, mrd_row (by decide), e_7, zup_row (by decide)])
        · unfold mend
          first
          | (rw [zif_pos (by assumption), zif_pos (by assumption), e_88, e_83, hp_73, e_7])
          | (rw [zif_pos (by assumption), zif_neg (by assumption), e_88, e_83, e_7])
          | (rw [zif_neg (by assumption), zif_pos (mbb_up7 e_7 (by assumption)), hp_106, e_7])
          | (rw [zif_neg (by assumption), zif_neg (mbb_up7n e_7 (by assumption)), zif_pos (by assumption), e_163, e_158, hp_128.1, hp_128.2, e_7]; rfl)
          | (rw [zif_neg (by assumption), zif_neg (mbb_up7n e_7 (by assumption)), zif_neg (by assumption), e_163, e_158, hp_155.1, hp_155.2, e_7]; rfl)
    · have c_99 := zb1 hp_96 c_99
      refine z_aload_nZ (pc := 102) C dX6_endCall_102 rfl rfl ?_
      refine z_bipush (pc := 103) C dX6_endCall_103 (by decide) ?_
      refine z_iload_n (pc := 105) C dX6_endCall_105 rfl rfl ?_
      refine z_callVv (pc := 106) (rest := []) C (C_X6_fail E σ_7 hR_7 6 (zRgL rfl) (σ 53 ((5 * ((σ 31 32) - 1)) + 2).toNat) (hR 53 _)) vX6_212 (by decide) sh31 rfl rfl rfl (Nat.le_of_ble_eq_true rfl) dX6_endCall_106 (fun σ_106 hR_106 hp_106 => ?_)
      have hI_106 : IM σ_106 := by rw [hp_106]; exact hI_7.mfail
      refine z_goto (pc := 109) C 166 dX6_endCall_109 rfl ?_
      refine L166 _ hR_106 hI_106 ?_ ?_ ?_
      · first
        | (rw [e_88, zup_place (by decide), e_83, zup_place (by decide), hp_73, mfail_31 (by decide), e_7, zup_same])
        | (rw [e_88, zup_place (by decide), e_83, zup_place (by decide), e_7, zup_same])
        | (rw [hp_106, mfail_31 (by decide), e_7, zup_same])
        | (rw [e_163, zup_place (by decide), e_158, zup_place (by decide), hp_128.2, mrd_31 (by decide), e_7, zup_same])
        | (rw [e_163, zup_place (by decide), e_158, zup_place (by decide), hp_155.2, mrd_31 (by decide), e_7, zup_same])
      · first
        | (rw [e_88, zup_row (by decide), e_83, zup_row (by decide), hp_73, mfail_row (by decide), e_7, zup_row (by decide)])
        | (rw [e_88, zup_row (by decide), e_83, zup_row (by decide), e_7, zup_row (by decide)])
        | (rw [hp_106, mfail_row (by decide), e_7, zup_row (by decide)])
        | (rw [e_163, zup_row (by decide), e_158, zup_row (by decide), hp_128.2, mrd_row (by decide), e_7, zup_row (by decide)])
        | (rw [e_163, zup_row (by decide), e_158, zup_row (by decide), hp_155.2, mrd_row (by decide), e_7, zup_row (by decide)])
      · unfold mend
        first
        | (rw [zif_pos (by assumption), zif_pos (by assumption), e_88, e_83, hp_73, e_7])
        | (rw [zif_pos (by assumption), zif_neg (by assumption), e_88, e_83, e_7])
        | (rw [zif_neg (by assumption), zif_pos (mbb_up7 e_7 (by assumption)), hp_106, e_7])
        | (rw [zif_neg (by assumption), zif_neg (mbb_up7n e_7 (by assumption)), zif_pos (by assumption), e_163, e_158, hp_128.1, hp_128.2, e_7]; rfl)
        | (rw [zif_neg (by assumption), zif_neg (mbb_up7n e_7 (by assumption)), zif_neg (by assumption), e_163, e_158, hp_155.1, hp_155.2, e_7]; rfl)
  · refine z_aload_nZ (pc := 56) C dX6_endCall_56 rfl rfl ?_
    refine z_getIe (pc := 57) (v := σ 31 35) C fX6_187 sh31 rfl dX6_endCall_57 (by rw [e_7, zup_place (by decide)]) ?_
    refine z_aload_nZ (pc := 60) C dX6_endCall_60 rfl rfl ?_
    refine z_getIe (pc := 61) (v := σ 31 25) C fX6_197 sh31 rfl dX6_endCall_61 (by rw [e_7, zup_place (by decide)]) ?_
    refine z_icmp_ne (pc := 64) C 76 (hR 31 _) (hR 31 _) dX6_endCall_64 rfl (fun c_64 => ?_) (fun c_64 => ?_)
    · refine z_aload_nZ (pc := 76) C dX6_endCall_76 rfl rfl ?_
      refine z_dup (pc := 77) C dX6_endCall_77 rfl ?_
      refine z_getIe (pc := 78) (v := σ 31 35) C fX6_187 sh31 rfl dX6_endCall_78 (by first | (rw [hp_73, mfail_31 (by decide), e_7, zup_place (by decide)]) | (rw [e_7, zup_place (by decide)])) ?_
      refine z_iconst (pc := 81) C dX6_endCall_81 ?_
      refine z_iadd (pc := 82) C dX6_endCall_82 ?_
      refine z_putI (pc := 83) C hR_7 fX6_187 sh31 rfl (by (try unfold zRg at *); (try simp only [IX, IM] at *); omega) dX6_endCall_83 (fun σ_83 e_83 hR_83 => ?_)
      have hI_83 : IM σ_83 := by rw [e_83]; exact hI_7.upF rfl
      refine z_aload_nZ (pc := 86) C dX6_endCall_86 rfl rfl ?_
      refine z_iconst (pc := 87) C dX6_endCall_87 ?_
      refine z_putZ (pc := 88) C hR_83 fX6_206 sh31 rfl (Or.inr rfl) dX6_endCall_88 (fun σ_88 e_88 hR_88 => ?_)
      have hI_88 : IM σ_88 := by rw [e_88]; exact hI_83.upF rfl
      refine z_goto (pc := 91) C 166 dX6_endCall_91 rfl ?_
      refine L166 _ hR_88 hI_88 ?_ ?_ ?_
      · first
        | (rw [e_88, zup_place (by decide), e_83, zup_place (by decide), hp_73, mfail_31 (by decide), e_7, zup_same])
        | (rw [e_88, zup_place (by decide), e_83, zup_place (by decide), e_7, zup_same])
        | (rw [hp_106, mfail_31 (by decide), e_7, zup_same])
        | (rw [e_163, zup_place (by decide), e_158, zup_place (by decide), hp_128.2, mrd_31 (by decide), e_7, zup_same])
        | (rw [e_163, zup_place (by decide), e_158, zup_place (by decide), hp_155.2, mrd_31 (by decide), e_7, zup_same])
      · first
        | (rw [e_88, zup_row (by decide), e_83, zup_row (by decide), hp_73, mfail_row (by decide), e_7, zup_row (by decide)])
        | (rw [e_88, zup_row (by decide), e_83, zup_row (by decide), e_7, zup_row (by decide)])
        | (rw [hp_106, mfail_row (by decide), e_7, zup_row (by decide)])
        | (rw [e_163, zup_row (by decide), e_158, zup_row (by decide), hp_128.2, mrd_row (by decide), e_7, zup_row (by decide)])
        | (rw [e_163, zup_row (by decide), e_158, zup_row (by decide), hp_155.2, mrd_row (by decide), e_7, zup_row (by decide)])
      · unfold mend
        first
        | (rw [zif_pos (by assumption), zif_pos (by assumption), e_88, e_83, hp_73, e_7])
        | (rw [zif_pos (by assumption), zif_neg (by assumption), e_88, e_83, e_7])
        | (rw [zif_neg (by assumption), zif_pos (mbb_up7 e_7 (by assumption)), hp_106, e_7])
        | (rw [zif_neg (by assumption), zif_neg (mbb_up7n e_7 (by assumption)), zif_pos (by assumption), e_163, e_158, hp_128.1, hp_128.2, e_7]; rfl)
        | (rw [zif_neg (by assumption), zif_neg (mbb_up7n e_7 (by assumption)), zif_neg (by assumption), e_163, e_158, hp_155.1, hp_155.2, e_7]; rfl)
    · refine z_aload_nZ (pc := 67) C dX6_endCall_67 rfl rfl ?_
      refine z_iconst (pc := 68) C dX6_endCall_68 ?_
      refine z_aload_nZ (pc := 69) C dX6_endCall_69 rfl rfl ?_
      refine z_getIe (pc := 70) (v := σ 31 35) C fX6_187 sh31 rfl dX6_endCall_70 (by rw [e_7, zup_place (by decide)]) ?_
      refine z_callVv (pc := 73) (rest := []) C (C_X6_fail E σ_7 hR_7 3 (zRgL rfl) (σ 31 35) (hR 31 _)) vX6_212 (by decide) sh31 rfl rfl rfl (Nat.le_of_ble_eq_true rfl) dX6_endCall_73 (fun σ_73 hR_73 hp_73 => ?_)
      have hI_73 : IM σ_73 := by rw [hp_73]; exact hI_7.mfail
      refine z_aload_nZ (pc := 76) C dX6_endCall_76 rfl rfl ?_
      refine z_dup (pc := 77) C dX6_endCall_77 rfl ?_
      refine z_getIe (pc := 78) (v := σ 31 35) C fX6_187 sh31 rfl dX6_endCall_78 (by first | (rw [hp_73, mfail_31 (by decide), e_7, zup_place (by decide)]) | (rw [e_7, zup_place (by decide)])) ?_
      refine z_iconst (pc := 81) C dX6_endCall_81 ?_
      refine z_iadd (pc := 82) C dX6_endCall_82 ?_
      refine z_putI (pc := 83) C hR_73 fX6_187 sh31 rfl (by (try unfold zRg at *); (try simp only [IX, IM] at *); omega) dX6_endCall_83 (fun σ_83 e_83 hR_83 => ?_)
      have hI_83 : IM σ_83 := by rw [e_83]; exact hI_73.upF rfl
      refine z_aload_nZ (pc := 86) C dX6_endCall_86 rfl rfl ?_
      refine z_iconst (pc := 87) C dX6_endCall_87 ?_
      refine z_putZ (pc := 88) C hR_83 fX6_206 sh31 rfl (Or.inr rfl) dX6_endCall_88 (fun σ_88 e_88 hR_88 => ?_)
      have hI_88 : IM σ_88 := by rw [e_88]; exact hI_83.upF rfl
      refine z_goto (pc := 91) C 166 dX6_endCall_91 rfl ?_
      refine L166 _ hR_88 hI_88 ?_ ?_ ?_
      · first
        | (rw [e_88, zup_place (by decide), e_83, zup_place (by decide), hp_73, mfail_31 (by decide), e_7, zup_same])
        | (rw [e_88, zup_place (by decide), e_83, zup_place (by decide), e_7, zup_same])
        | (rw [hp_106, mfail_31 (by decide), e_7, zup_same])
        | (rw [e_163, zup_place (by decide), e_158, zup_place (by decide), hp_128.2, mrd_31 (by decide), e_7, zup_same])
        | (rw [e_163, zup_place (by decide), e_158, zup_place (by decide), hp_155.2, mrd_31 (by decide), e_7, zup_same])
      · first
        | (rw [e_88, zup_row (by decide), e_83, zup_row (by decide), hp_73, mfail_row (by decide), e_7, zup_row (by decide)])
        | (rw [e_88, zup_row (by decide), e_83, zup_row (by decide), e_7, zup_row (by decide)])
        | (rw [hp_106, mfail_row (by decide), e_7, zup_row (by decide)])
        | (rw [e_163, zup_row (by decide), e_158, zup_row (by decide), hp_128.2, mrd_row (by decide), e_7, zup_row (by decide)])
        | (rw [e_163, zup_row (by decide), e_158, zup_row (by decide), hp_155.2, mrd_row (by decide), e_7, zup_row (by decide)])
      · unfold mend
        first
        | (rw [zif_pos (by assumption), zif_pos (by assumption), e_88, e_83, hp_73, e_7])
        | (rw [zif_pos (by assumption), zif_neg (by assumption), e_88, e_83, e_7])
        | (rw [zif_neg (by assumption), zif_pos (mbb_up7 e_7 (by assumption)), hp_106, e_7])
        | (rw [zif_neg (by assumption), zif_neg (mbb_up7n e_7 (by assumption)), zif_pos (by assumption), e_163, e_158, hp_128.1, hp_128.2, e_7]; rfl)
        | (rw [zif_neg (by assumption), zif_neg (mbb_up7n e_7 (by assumption)), zif_neg (by assumption), e_163, e_158, hp_155.1, hp_155.2, e_7]; rfl)
