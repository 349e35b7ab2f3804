set_option maxRecDepth 20000 in
theorem C_X2_faultKind (E : ZE) (σ : ZSt) (hR : zRs σ) : ZMi E 0 yX2_faultKind cX2_faultKind 1 (some .int) [zrf E 25] σ (fun r σ' => (r = σ 25 12) ∧ σ' = σ) := by
  refine ZMi.intro (by decide) rfl (Nat.le_of_ble_eq_true rfl) (fun Γ C hN hret => ?_)
  show ZG E Γ 0 [some (zrf E 25)] [] σ
  refine z_aload_nZ (pc := 0) C dX2_faultKind_0 rfl rfl ?_
  refine z_getI (pc := 1) C fX2_33 sh25 rfl dX2_faultKind_1 ?_
  refine hret 4 _ _ _ dX2_faultKind_4 (hR 25 _) hR ?_
  exact ⟨by (first | rfl | omega | (split <;> first | rfl | omega) | (simp_all; done) | (split <;> split <;> first | rfl | omega) | grind), rfl⟩
set_option maxRecDepth 20000 in
theorem C_X2_faultPosition (E : ZE) (σ : ZSt) (hR : zRs σ) : ZMi E 0 yX2_faultPosition cX2_faultPosition 1 (some .int) [zrf E 25] σ (fun r σ' => (r = σ 25 13) ∧ σ' = σ) := by
  refine ZMi.intro (by decide) rfl (Nat.le_of_ble_eq_true rfl) (fun Γ C hN hret => ?_)
  show ZG E Γ 0 [some (zrf E 25)] [] σ
  refine z_aload_nZ (pc := 0) C dX2_faultPosition_0 rfl rfl ?_
  refine z_getI (pc := 1) C fX2_37 sh25 rfl dX2_faultPosition_1 ?_
  refine hret 4 _ _ _ dX2_faultPosition_4 (hR 25 _) hR ?_
  exact ⟨by (first | rfl | omega | (split <;> first | rfl | omega) | (simp_all; done) | (split <;> split <;> first | rfl | omega) | grind), rfl⟩
set_option maxRecDepth 20000 in
theorem C_X2_takeLeftSide (E : ZE) (σ : ZSt) (hR : zRs σ) (a : Int) (ha : zRg a) : ZMv E 0 yX2_takeLeftSide cX2_takeLeftSide 2 [zrf E 25, ziv a] σ (fun σ' => σ' = xtake σ a) := by
  refine ZMv.intro (by decide) rfl (Nat.le_of_ble_eq_true rfl) (fun Γ C hN hret => ?_)
  show ZG E Γ 0 [some (zrf E 25), some (ziv a)] [] σ
  refine z_aload_nZ (pc := 0) C dX2_takeLeftSide_0 rfl rfl ?_
  refine z_iload_n (pc := 1) C dX2_takeLeftSide_1 rfl rfl ?_
  refine z_putI (pc := 2) C hR fX2_67 sh25 rfl ha dX2_takeLeftSide_2 (fun σ_2 e_2 hR_2 => ?_)
  refine z_aload_nZ (pc := 5) C dX2_takeLeftSide_5 rfl rfl ?_
  refine z_iconst (pc := 6) C dX2_takeLeftSide_6 ?_
  refine z_putZ (pc := 7) C hR_2 fX2_70 sh25 rfl (Or.inl rfl) dX2_takeLeftSide_7 (fun σ_7 e_7 hR_7 => ?_)
  refine z_aload_nZ (pc := 10) C dX2_takeLeftSide_10 rfl rfl ?_
  refine z_iconst (pc := 11) C dX2_takeLeftSide_11 ?_
  refine z_putZ (pc := 12) C hR_7 fX2_47 sh25 rfl (Or.inl rfl) dX2_takeLeftSide_12 (fun σ_12 e_12 hR_12 => ?_)
  refine hret 15 _ _ dX2_takeLeftSide_15 hR_12 ?_
  subst_vars; rfl
set_option maxRecDepth 20000 in
theorem C_X2_fail (E : ZE) (σ : ZSt) (hR : zRs σ) (a : Int) (ha : zRg a) (b : Int) (hb : zRg b) : ZMv E 0 yX2_fail cX2_fail 3 [zrf E 25, ziv a, ziv b] σ (fun σ' => σ' = xfail σ a b) := by
  refine ZMv.intro (by decide) rfl (Nat.le_of_ble_eq_true rfl) (fun Γ C hN hret => ?_)
  show ZG E Γ 0 [some (zrf E 25), some (ziv a), some (ziv b)] [] σ
  refine z_aload_nZ (pc := 0) C dX2_fail_0 rfl rfl ?_
  refine z_iload_n (pc := 1) C dX2_fail_1 rfl rfl ?_
  refine z_putI (pc := 2) C hR fX2_33 sh25 rfl ha dX2_fail_2 (fun σ_2 e_2 hR_2 => ?_)
  refine z_aload_nZ (pc := 5) C dX2_fail_5 rfl rfl ?_
  refine z_iload_n (pc := 6) C dX2_fail_6 rfl rfl ?_
  refine z_putI (pc := 7) C hR_2 fX2_37 sh25 rfl hb dX2_fail_7 (fun σ_7 e_7 hR_7 => ?_)
  refine z_aload_nZ (pc := 10) C dX2_fail_10 rfl rfl ?_
  refine z_iconst (pc := 11) C dX2_fail_11 ?_
  refine z_putZ (pc := 12) C hR_7 fX2_43 sh25 rfl (Or.inr rfl) dX2_fail_12 (fun σ_12 e_12 hR_12 => ?_)
  refine hret 15 _ _ dX2_fail_15 hR_12 ?_
  subst_vars; rfl
set_option maxRecDepth 20000 in
theorem C_X2_openFrame (E : ZE) (σ : ZSt) (hR : zRs σ) (a : Int) (ha : zRg a) (b : Int) (hb : zRg b) (hI : IX σ) (hpos : 0 ≤ σ 25 7 ∧ σ 25 7 ≤ 1000) : ZMv E 0 yX2_openFrame cX2_openFrame 3 [zrf E 25, ziv a, ziv b] σ (fun σ' => σ' = xopenf σ a b) := by
  refine ZMv.intro (by decide) rfl (Nat.le_of_ble_eq_true rfl) (fun Γ C hN hret => ?_)
  show ZG E Γ 0 [some (zrf E 25), some (ziv a), some (ziv b)] [] σ
  have hfr := hI.frm
  refine z_aload_nZ (pc := 0) C dX2_openFrame_0 rfl rfl ?_
  refine z_getI (pc := 1) C fX2_61 sh25 rfl dX2_openFrame_1 ?_
  refine z_bipush (pc := 4) C dX2_openFrame_4 (by decide) ?_
  refine z_icmp_ge (pc := 6) C 52 (hR 25 _) (zRgL rfl) dX2_openFrame_6 rfl (fun c_6 => ?_) (fun c_6 => ?_)
  · refine z_aload_nZ (pc := 52) C dX2_openFrame_52 rfl rfl ?_
    refine z_dup (pc := 53) C dX2_openFrame_53 rfl ?_
    refine z_getI (pc := 54) C fX2_64 sh25 rfl dX2_openFrame_54 ?_
    refine z_iconst (pc := 57) C dX2_openFrame_57 ?_
    refine z_iadd (pc := 58) C dX2_openFrame_58 ?_
    refine z_putI (pc := 59) C hR fX2_64 sh25 rfl (by (try unfold zRg at *); (try simp only [IX] at *); omega) dX2_openFrame_59 (fun σ_59 e_59 hR_59 => ?_)
    have hI_59 : IX σ_59 := by rw [e_59]; exact hI.upF (by decide)
    refine z_aload_nZ (pc := 62) C dX2_openFrame_62 rfl rfl ?_
    refine z_iconst (pc := 63) C dX2_openFrame_63 ?_
    refine z_putZ (pc := 64) C hR_59 fX2_47 sh25 rfl (Or.inr rfl) dX2_openFrame_64 (fun σ_64 e_64 hR_64 => ?_)
    have hI_64 : IX σ_64 := by rw [e_64]; exact hI_59.upF (by decide)
    refine hret 67 _ _ dX2_openFrame_67 hR_64 ?_
    subst_vars; unfold xopenf; first | (rw [zif_pos (by assumption)] <;> try rfl) | (rw [zif_neg (by omega)] <;> try rfl)
  · refine z_aload_nZ (pc := 9) C dX2_openFrame_9 rfl rfl ?_
    refine z_getR (pc := 10) C fX2_9 sh25 rfl dX2_openFrame_10 ?_
    refine z_aload_nZ (pc := 13) C dX2_openFrame_13 rfl rfl ?_
    refine z_getI (pc := 14) C fX2_61 sh25 rfl dX2_openFrame_14 ?_
    refine z_iload_n (pc := 17) C dX2_openFrame_17 rfl rfl ?_
    refine z_iast (pc := 18) C hR sh26 (by (try unfold zRg at *); (try simp only [IX] at *); omega) (by (try unfold zRg at *); (try simp only [IX] at *); omega) ha dX2_openFrame_18 (fun σ_18 e_18 hR_18 => ?_)
    have hI_18 : IX σ_18 := by rw [e_18]; exact hI.upA rfl
    refine z_aload_nZ (pc := 19) C dX2_openFrame_19 rfl rfl ?_
    refine z_getR (pc := 20) C fX2_15 sh25 rfl dX2_openFrame_20 ?_
    refine z_aload_nZ (pc := 23) C dX2_openFrame_23 rfl rfl ?_
    refine z_getIe (pc := 24) (v := σ 25 6) C fX2_61 sh25 rfl dX2_openFrame_24 (by rw [e_18, zup_cell (by omega)]) ?_
    refine z_aload_nZ (pc := 27) C dX2_openFrame_27 rfl rfl ?_
    refine z_getIe (pc := 28) (v := σ 25 7) C fX2_64 sh25 rfl dX2_openFrame_28 (by rw [e_18, zup_cell (by omega)]) ?_
    refine z_iast (pc := 31) C hR_18 sh27 (by (try unfold zRg at *); (try simp only [IX] at *); omega) (by (try unfold zRg at *); (try simp only [IX] at *); omega) (hR 25 _) dX2_openFrame_31 (fun σ_31 e_31 hR_31 => ?_)
    have hI_31 : IX σ_31 := by rw [e_31]; exact hI_18.upA rfl
    refine z_aload_nZ (pc := 32) C dX2_openFrame_32 rfl rfl ?_
    refine z_getR (pc := 33) C fX2_18 sh25 rfl dX2_openFrame_33 ?_
    refine z_aload_nZ (pc := 36) C dX2_openFrame_36 rfl rfl ?_
    refine z_getIe (pc := 37) (v := σ 25 6) C fX2_61 sh25 rfl dX2_openFrame_37 (by rw [e_31, zup_cell (by omega), e_18, zup_cell (by omega)]) ?_
    refine z_iload_n (pc := 40) C dX2_openFrame_40 rfl rfl ?_
    refine z_iast (pc := 41) C hR_31 sh28 (by (try unfold zRg at *); (try simp only [IX] at *); omega) (by (try unfold zRg at *); (try simp only [IX] at *); omega) hb dX2_openFrame_41 (fun σ_41 e_41 hR_41 => ?_)
    have hI_41 : IX σ_41 := by rw [e_41]; exact hI_31.upA rfl
    refine z_aload_nZ (pc := 42) C dX2_openFrame_42 rfl rfl ?_
    refine z_dup (pc := 43) C dX2_openFrame_43 rfl ?_
    refine z_getIe (pc := 44) (v := σ 25 6) C fX2_61 sh25 rfl dX2_openFrame_44 (by rw [e_41, zup_cell (by omega), e_31, zup_cell (by omega), e_18, zup_cell (by omega)]) ?_
    refine z_iconst (pc := 47) C dX2_openFrame_47 ?_
    refine z_iadd (pc := 48) C dX2_openFrame_48 ?_
    refine z_putI (pc := 49) C hR_41 fX2_61 sh25 rfl (by (try unfold zRg at *); (try simp only [IX] at *); omega) dX2_openFrame_49 (fun σ_49 e_49 hR_49 => ?_)
    have hI_49 : IX σ_49 := by rw [e_49]; exact hI_41.upfr (by (try unfold zRg at *); (try simp only [IX] at *); omega)
    refine z_aload_nZ (pc := 52) C dX2_openFrame_52 rfl rfl ?_
    refine z_dup (pc := 53) C dX2_openFrame_53 rfl ?_
    refine z_getIe (pc := 54) (v := σ 25 7) C fX2_64 sh25 rfl dX2_openFrame_54 (by rw [e_49, zup_place (by decide), e_41, zup_cell (by omega), e_31, zup_cell (by omega), e_18, zup_cell (by omega)]) ?_
    refine z_iconst (pc := 57) C dX2_openFrame_57 ?_
    refine z_iadd (pc := 58) C dX2_openFrame_58 ?_
    refine z_putI (pc := 59) C hR_49 fX2_64 sh25 rfl (by (try unfold zRg at *); (try simp only [IX] at *); omega) dX2_openFrame_59 (fun σ_59 e_59 hR_59 => ?_)
    have hI_59 : IX σ_59 := by rw [e_59]; exact hI_49.upF (by decide)
    refine z_aload_nZ (pc := 62) C dX2_openFrame_62 rfl rfl ?_
    refine z_iconst (pc := 63) C dX2_openFrame_63 ?_
    refine z_putZ (pc := 64) C hR_59 fX2_47 sh25 rfl (Or.inr rfl) dX2_openFrame_64 (fun σ_64 e_64 hR_64 => ?_)
    have hI_64 : IX σ_64 := by rw [e_64]; exact hI_59.upF (by decide)
    refine hret 67 _ _ dX2_openFrame_67 hR_64 ?_
    subst_vars; unfold xopenf; first | (rw [zif_pos (by assumption)] <;> try rfl) | (rw [zif_neg (by omega)] <;> try rfl)
set_option maxRecDepth 20000 in
theorem C_X2_topFrame (E : ZE) (σ : ZSt) (hR : zRs σ) (hI : IX σ) : ZMi E 0 yX2_topFrame cX2_topFrame 1 (some .int) [zrf E 25] σ (fun r σ' => (r = xtop σ) ∧ σ' = σ) := by
  refine ZMi.intro (by decide) rfl (Nat.le_of_ble_eq_true rfl) (fun Γ C hN hret => ?_)
  show ZG E Γ 0 [some (zrf E 25)] [] σ
  refine z_aload_nZ (pc := 0) C dX2_topFrame_0 rfl rfl ?_
  refine z_getI (pc := 1) C fX2_61 sh25 rfl dX2_topFrame_1 ?_
  refine z_if_le (pc := 4) C 25 (hR 25 _) dX2_topFrame_4 rfl (fun c_4 => ?_) (fun c_4 => ?_)
  · refine z_iconst (pc := 25) C dX2_topFrame_25 ?_
    refine hret 26 _ _ _ dX2_topFrame_26 (zRgL rfl) hR ?_
    exact ⟨by unfold xtop; first | rw [zif_pos (by omega)] | rw [zif_neg (by omega)], rfl⟩
  · refine z_aload_nZ (pc := 7) C dX2_topFrame_7 rfl rfl ?_
    refine z_getI (pc := 8) C fX2_61 sh25 rfl dX2_topFrame_8 ?_
    refine z_bipush (pc := 11) C dX2_topFrame_11 (by decide) ?_
    refine z_icmp_gt (pc := 13) C 25 (hR 25 _) (zRgL rfl) dX2_topFrame_13 rfl (fun c_13 => ?_) (fun c_13 => ?_)
    · refine z_iconst (pc := 25) C dX2_topFrame_25 ?_
      refine hret 26 _ _ _ dX2_topFrame_26 (zRgL rfl) hR ?_
      exact ⟨by unfold xtop; first | rw [zif_pos (by omega)] | rw [zif_neg (by omega)], rfl⟩
    · refine z_aload_nZ (pc := 16) C dX2_topFrame_16 rfl rfl ?_
      refine z_getI (pc := 17) C fX2_61 sh25 rfl dX2_topFrame_17 ?_
      refine z_iconst (pc := 20) C dX2_topFrame_20 ?_
      refine z_isub (pc := 21) C dX2_topFrame_21 ?_
      refine z_goto (pc := 22) C 26 dX2_topFrame_22 rfl ?_
      refine hret 26 _ _ _ dX2_topFrame_26 (by (try unfold zRg at *); (try simp only [IX] at *); omega) hR ?_
      exact ⟨by unfold xtop; first | rw [zif_pos (by omega)] | rw [zif_neg (by omega)], rfl⟩
set_option maxRecDepth 20000 in
theorem C_X2_frameMin (E : ZE) (σ : ZSt) (hR : zRs σ) (hI : IX σ) : ZMi E 2 yX2_frameMin cX2_frameMin 2 (some .int) [zrf E 25] σ (fun r σ' => (r = xfmin σ) ∧ σ' = σ) := by
  refine ZMi.intro (by decide) rfl (Nat.le_of_ble_eq_true rfl) (fun Γ C hN hret => ?_)
  show ZG E Γ 0 [some (zrf E 25), none] [] σ
  refine z_aload_nZ (pc := 0) C dX2_frameMin_0 rfl rfl ?_
  refine z_callVp (pc := 1) (rest := []) C (C_X2_topFrame E σ hR hI) vX2_130 (by decide) sh25 rfl rfl rfl (Nat.le_of_ble_eq_true rfl) dX2_frameMin_1 (fun r_1 g_1 hp_1 => ?_)
  refine z_istore_n (pc := 4) (lv' := [some (zrf E 25), some (ziv r_1)]) C hN dX2_frameMin_4 rfl (by decide) rfl ?_
  refine z_iload_n (pc := 5) C dX2_frameMin_5 rfl rfl ?_
  refine z_iconst (pc := 6) C dX2_frameMin_6 ?_
  refine z_icmp_ne (pc := 7) C 14 g_1 (zRgL rfl) dX2_frameMin_7 rfl (fun c_7 => ?_) (fun c_7 => ?_)
  · have htp := xtop_in hI (by rw [← hp_1]; assumption)
    have hfr := hI.frm
    refine z_aload_nZ (pc := 14) C dX2_frameMin_14 rfl rfl ?_
    refine z_getR (pc := 15) C fX2_21 sh25 rfl dX2_frameMin_15 ?_
    refine z_aload_nZ (pc := 18) C dX2_frameMin_18 rfl rfl ?_
    refine z_getR (pc := 19) C fX2_9 sh25 rfl dX2_frameMin_19 ?_
    refine z_iload_n (pc := 22) C dX2_frameMin_22 rfl rfl ?_
    refine z_iald (pc := 23) C sh26 (by (try unfold zRg at *); (try simp only [IX] at *); omega) (by (try unfold zRg at *); (try simp only [IX] at *); omega) dX2_frameMin_23 ?_
    refine z_callVp (pc := 24) (rest := []) C (C_X1_minAfter E σ hR (σ 26 r_1.toNat) (hR 26 _) hI) vX2_133 (by decide) sh1 rfl rfl rfl (Nat.le_of_ble_eq_true rfl) dX2_frameMin_24 (fun r_24 g_24 hp_24 => ?_)
    refine hret 27 _ _ _ dX2_frameMin_27 g_24 hR ?_
    exact ⟨by unfold xfmin; rw [← hp_1]; first | (rw [zif_pos (by assumption)]; done) | (rw [zif_neg (by assumption)]; assumption), rfl⟩
  · refine z_iconst (pc := 10) C dX2_frameMin_10 ?_
    refine z_goto (pc := 11) C 27 dX2_frameMin_11 rfl ?_
    refine hret 27 _ _ _ dX2_frameMin_27 (zRgL rfl) hR ?_
    exact ⟨by unfold xfmin; rw [← hp_1]; first | (rw [zif_pos (by assumption)]; done) | (rw [zif_neg (by assumption)]; assumption), rfl⟩
set_option maxRecDepth 20000 in
theorem C_X2_isForbiddenUnder (E : ZE) (σ : ZSt) (hR : zRs σ) (a : Int) (ha : zRg a) (hI : IX σ) : ZMi E 2 yX2_isForbiddenUnder cX2_isForbiddenUnder 2 (some .boolean) [zrf E 25, ziv a] σ (fun r σ' => (r = zb (xfu σ a)) ∧ σ' = σ) := by
  refine ZMi.introZ (by decide) rfl (Nat.le_of_ble_eq_true rfl) (fun Γ C hN hret => ?_)
  show ZG E Γ 0 [some (zrf E 25), some (ziv a)] [] σ
  refine z_aload_nZ (pc := 0) C dX2_isForbiddenUnder_0 rfl rfl ?_
  refine z_getI (pc := 1) C fX2_70 sh25 rfl dX2_isForbiddenUnder_1 ?_
  refine z_if_ne (pc := 4) C 33 (hR 25 _) dX2_isForbiddenUnder_4 rfl (fun c_4 => ?_) (fun c_4 => ?_)
  · refine z_iconst (pc := 33) C dX2_isForbiddenUnder_33 ?_
    refine hret 34 _ _ _ dX2_isForbiddenUnder_34 (Or.inl rfl) hR ?_
    exact ⟨by first | exact zb_one ⟨by assumption, by rw [← hp_20]; assumption⟩ | exact zb_zero (fun w => by first | exact absurd w.1 (by assumption) | (have w2 := w.2; rw [← hp_20] at w2; contradiction)), rfl⟩
  · refine z_aload_nZ (pc := 7) C dX2_isForbiddenUnder_7 rfl rfl ?_
    refine z_getR (pc := 8) C fX2_21 sh25 rfl dX2_isForbiddenUnder_8 ?_
    refine z_iload_n (pc := 11) C dX2_isForbiddenUnder_11 rfl rfl ?_
    refine z_aload_nZ (pc := 12) C dX2_isForbiddenUnder_12 rfl rfl ?_
    refine z_getR (pc := 13) C fX2_25 sh25 rfl dX2_isForbiddenUnder_13 ?_
    refine z_aload_nZ (pc := 16) C dX2_isForbiddenUnder_16 rfl rfl ?_
    refine z_getI (pc := 17) C fX2_67 sh25 rfl dX2_isForbiddenUnder_17 ?_
    refine z_callVp (pc := 20) (rest := [ziv a, zrf E 1]) C (C_X0_operatorAt E σ hR 13 (Or.inr rfl) (σ 25 9) (hR 25 _) hI) vX2_117 (by decide) sh13 rfl rfl rfl (Nat.le_of_ble_eq_true rfl) dX2_isForbiddenUnder_20 (fun r_20 g_20 hp_20 => ?_)
    refine z_callVp (pc := 23) (rest := []) C (C_X1_isForbidden E σ hR a ha r_20 g_20 hI) vX2_145 (by decide) sh1 rfl rfl rfl (Nat.le_of_ble_eq_true rfl) dX2_isForbiddenUnder_23 (fun r_23 g_23 hp_23 => ?_)
    refine z_if_eq (pc := 26) C 33 g_23 dX2_isForbiddenUnder_26 rfl (fun c_26 => ?_) (fun c_26 => ?_)
    · have c_26 := zb0 hp_23 c_26
      refine z_iconst (pc := 33) C dX2_isForbiddenUnder_33 ?_
      refine hret 34 _ _ _ dX2_isForbiddenUnder_34 (Or.inl rfl) hR ?_
      exact ⟨by first | exact zb_one ⟨by assumption, by rw [← hp_20]; assumption⟩ | exact zb_zero (fun w => by first | exact absurd w.1 (by assumption) | (have w2 := w.2; rw [← hp_20] at w2; contradiction)), rfl⟩
    · have c_26 := zb1 hp_23 c_26
      refine z_iconst (pc := 29) C dX2_isForbiddenUnder_29 ?_
      refine z_goto (pc := 30) C 34 dX2_isForbiddenUnder_30 rfl ?_
      refine hret 34 _ _ _ dX2_isForbiddenUnder_34 (Or.inr rfl) hR ?_
      exact ⟨by first | exact zb_one ⟨by assumption, by rw [← hp_20]; assumption⟩ | exact zb_zero (fun w => by first | exact absurd w.1 (by assumption) | (have w2 := w.2; rw [← hp_20] at w2; contradiction)), rfl⟩
set_option maxRecDepth 20000 in
theorem C_X2_endText (E : ZE) (σ : ZSt) (hR : zRs σ) (hI : IX σ) : ZMv E 1 yX2_endText cX2_endText 1 [zrf E 25] σ (fun σ' => σ' = xendt σ) := by
  refine ZMv.intro (by decide) rfl (Nat.le_of_ble_eq_true rfl) (fun Γ C hN hret => ?_)
  show ZG E Γ 0 [some (zrf E 25)] [] σ
  refine z_aload_nZ (pc := 0) C dX2_endText_0 rfl rfl ?_
  refine z_getR (pc := 1) C fX2_29 sh25 rfl dX2_endText_1 ?_
  refine z_aload_nZ (pc := 4) C dX2_endText_4 rfl rfl ?_
  refine z_getI (pc := 5) C fX2_64 sh25 rfl dX2_endText_5 ?_
  refine z_callVp (pc := 8) (rest := []) C (C_X3_at E σ hR 23 (Or.inr (Or.inr rfl)) (σ 25 7) (hR 25 _) hI) vX2_73 (by decide) sh23 rfl rfl rfl (Nat.le_of_ble_eq_true rfl) dX2_endText_8 (fun r_8 g_8 hp_8 => ?_)
  refine z_bipush (pc := 11) C dX2_endText_11 (by decide) ?_
  refine z_icmp_ne (pc := 13) C 25 g_8 (zRgL rfl) dX2_endText_13 rfl (fun c_13 => ?_) (fun c_13 => ?_)
  · refine z_aload_nZ (pc := 25) C dX2_endText_25 rfl rfl ?_
    refine z_iconst (pc := 26) C dX2_endText_26 ?_
    refine z_putZ (pc := 27) C hR fX2_43 sh25 rfl (Or.inr rfl) dX2_endText_27 (fun σ_27 e_27 hR_27 => ?_)
    have hI_27 : IX σ_27 := by rw [e_27]; exact hI.upF (by decide)
    refine hret 30 _ _ dX2_endText_30 hR_27 ?_
    first | (subst_vars; unfold xendt; rw [zif_pos (by assumption)]; done) | (subst_vars; unfold xendt; rw [zif_neg (by assumption)])
  · refine z_aload_nZ (pc := 16) C dX2_endText_16 rfl rfl ?_
    refine z_iconst (pc := 17) C dX2_endText_17 ?_
    refine z_aload_nZ (pc := 18) C dX2_endText_18 rfl rfl ?_
    refine z_getI (pc := 19) C fX2_64 sh25 rfl dX2_endText_19 ?_
    refine z_callVv (pc := 22) (rest := []) C (C_X2_fail E σ hR 4 (zRgL rfl) (σ 25 7) (hR 25 _)) vX2_101 (by decide) sh25 rfl rfl rfl (Nat.le_of_ble_eq_true rfl) dX2_endText_22 (fun σ_22 hR_22 hp_22 => ?_)
    refine z_aload_nZ (pc := 25) C dX2_endText_25 rfl rfl ?_
    refine z_iconst (pc := 26) C dX2_endText_26 ?_
    refine z_putZ (pc := 27) C hR_22 fX2_43 sh25 rfl (Or.inr rfl) dX2_endText_27 (fun σ_27 e_27 hR_27 => ?_)
    refine hret 30 _ _ dX2_endText_30 hR_27 ?_
    first | (subst_vars; unfold xendt; rw [zif_pos (by assumption)]; done) | (subst_vars; unfold xendt; rw [zif_neg (by assumption)])
set_option maxRecDepth 20000 in
theorem C_X2_endBracket (E : ZE) (σ : ZSt) (hR : zRs σ) (hI : IX σ) (hpos : 0 ≤ σ 25 7 ∧ σ 25 7 ≤ 1000) (hf0 : 0 < σ 25 6) : ZMv E 1 yX2_endBracket cX2_endBracket 1 [zrf E 25] σ (fun σ' => σ' = xendb σ) := by
  refine ZMv.intro (by decide) rfl (Nat.le_of_ble_eq_true rfl) (fun Γ C hN hret => ?_)
  show ZG E Γ 0 [some (zrf E 25)] [] σ
  have hfr := hI.frm
  refine z_aload_nZ (pc := 0) C dX2_endBracket_0 rfl rfl ?_
  refine z_getR (pc := 1) C fX2_29 sh25 rfl dX2_endBracket_1 ?_
  refine z_aload_nZ (pc := 4) C dX2_endBracket_4 rfl rfl ?_
  refine z_getI (pc := 5) C fX2_64 sh25 rfl dX2_endBracket_5 ?_
  refine z_callVp (pc := 8) (rest := []) C (C_X3_at E σ hR 23 (Or.inr (Or.inr rfl)) (σ 25 7) (hR 25 _) hI) vX2_73 (by decide) sh23 rfl rfl rfl (Nat.le_of_ble_eq_true rfl) dX2_endBracket_8 (fun r_8 g_8 hp_8 => ?_)
  refine z_bipush (pc := 11) C dX2_endBracket_11 (by decide) ?_
  refine z_icmp_ne (pc := 13) C 44 g_8 (zRgL rfl) dX2_endBracket_13 rfl (fun c_13 => ?_) (fun c_13 => ?_)
  · refine z_aload_nZ (pc := 44) C dX2_endBracket_44 rfl rfl ?_
    refine z_iconst (pc := 45) C dX2_endBracket_45 ?_
    refine z_aload_nZ (pc := 46) C dX2_endBracket_46 rfl rfl ?_
    refine z_getI (pc := 47) C fX2_64 sh25 rfl dX2_endBracket_47 ?_
    refine z_callVv (pc := 50) (rest := []) C (C_X2_fail E σ hR 3 (zRgL rfl) (σ 25 7) (hR 25 _)) vX2_101 (by decide) sh25 rfl rfl rfl (Nat.le_of_ble_eq_true rfl) dX2_endBracket_50 (fun σ_50 hR_50 hp_50 => ?_)
    refine hret 53 _ _ dX2_endBracket_53 hR_50 ?_
    first | (subst_vars; unfold xendb; rw [zif_pos (by assumption)] <;> try rfl) | (subst_vars; unfold xendb; rw [zif_neg (by assumption)])
  · refine z_aload_nZ (pc := 16) C dX2_endBracket_16 rfl rfl ?_
    refine z_dup (pc := 17) C dX2_endBracket_17 rfl ?_
    refine z_getI (pc := 18) C fX2_64 sh25 rfl dX2_endBracket_18 ?_
    refine z_iconst (pc := 21) C dX2_endBracket_21 ?_
    refine z_iadd (pc := 22) C dX2_endBracket_22 ?_
    refine z_putI (pc := 23) C hR fX2_64 sh25 rfl (by (try unfold zRg at *); (try simp only [IX] at *); omega) dX2_endBracket_23 (fun σ_23 e_23 hR_23 => ?_)
    have hI_23 : IX σ_23 := by rw [e_23]; exact hI.upF (by decide)
    refine z_aload_nZ (pc := 26) C dX2_endBracket_26 rfl rfl ?_
    refine z_dup (pc := 27) C dX2_endBracket_27 rfl ?_
    refine z_getIe (pc := 28) (v := σ 25 6) C fX2_61 sh25 rfl dX2_endBracket_28 (by rw [e_23, zup_place (by decide)]) ?_
    refine z_iconst (pc := 31) C dX2_endBracket_31 ?_
    refine z_isub (pc := 32) C dX2_endBracket_32 ?_
    refine z_putI (pc := 33) C hR_23 fX2_61 sh25 rfl (by (try unfold zRg at *); (try simp only [IX] at *); omega) dX2_endBracket_33 (fun σ_33 e_33 hR_33 => ?_)
    have hI_33 : IX σ_33 := by rw [e_33]; exact hI_23.upfr (by (try unfold zRg at *); (try simp only [IX] at *); omega)
    refine z_aload_nZ (pc := 36) C dX2_endBracket_36 rfl rfl ?_
    refine z_iconst (pc := 37) C dX2_endBracket_37 ?_
    refine z_putZ (pc := 38) C hR_33 fX2_70 sh25 rfl (Or.inr rfl) dX2_endBracket_38 (fun σ_38 e_38 hR_38 => ?_)
    have hI_38 : IX σ_38 := by rw [e_38]; exact hI_33.upF (by decide)
    refine z_goto (pc := 41) C 53 dX2_endBracket_41 rfl ?_
    refine hret 53 _ _ dX2_endBracket_53 hR_38 ?_
    first | (subst_vars; unfold xendb; rw [zif_pos (by assumption)] <;> try rfl) | (subst_vars; unfold xendb; rw [zif_neg (by assumption)])
set_option maxRecDepth 20000 in
theorem C_X2_completeNode (E : ZE) (σ : ZSt) (hR : zRs σ) (a : Int) (ha : zRg a) (hI : IX σ) (hf0 : 0 < σ 25 6 ∧ a = σ 25 6 - 1) : ZMv E 3 yX2_completeNode cX2_completeNode 3 [zrf E 25, ziv a] σ (fun σ' => σ' = xcomplete σ a) := by
  refine ZMv.intro (by decide) rfl (Nat.le_of_ble_eq_true rfl) (fun Γ C hN hret => ?_)
  show ZG E Γ 0 [some (zrf E 25), some (ziv a), none] [] σ
  have hfr := hI.frm
  refine z_aload_nZ (pc := 0) C dX2_completeNode_0 rfl rfl ?_
  refine z_getR (pc := 1) C fX2_9 sh25 rfl dX2_completeNode_1 ?_
  refine z_iload_n (pc := 4) C dX2_completeNode_4 rfl rfl ?_
  refine z_iald (pc := 5) C sh26 (by (try unfold zRg at *); (try simp only [IX] at *); omega) (by (try unfold zRg at *); (try simp only [IX] at *); omega) dX2_completeNode_5 ?_
  refine z_istore_n (pc := 6) (lv' := [some (zrf E 25), some (ziv a), some (ziv (σ 26 a.toNat))]) C hN dX2_completeNode_6 rfl (by decide) rfl ?_
  refine z_aload_nZ (pc := 7) C dX2_completeNode_7 rfl rfl ?_
  refine z_iload_n (pc := 8) C dX2_completeNode_8 rfl rfl ?_
  refine z_callVp (pc := 9) (rest := []) C (C_X2_isForbiddenUnder E σ hR (σ 26 a.toNat) (hR 26 _) hI) vX2_124 (by decide) sh25 rfl rfl rfl (Nat.le_of_ble_eq_true rfl) dX2_completeNode_9 (fun r_9 g_9 hp_9 => ?_)
  refine z_if_eq (pc := 12) C 28 g_9 dX2_completeNode_12 rfl (fun c_12 => ?_) (fun c_12 => ?_)
  · have c_12 := zb0 hp_9 c_12
    refine z_aload_nZ (pc := 28) C dX2_completeNode_28 rfl rfl ?_
    refine z_dup (pc := 29) C dX2_completeNode_29 rfl ?_
    refine z_getI (pc := 30) C fX2_61 sh25 rfl dX2_completeNode_30 ?_
    refine z_iconst (pc := 33) C dX2_completeNode_33 ?_
    refine z_isub (pc := 34) C dX2_completeNode_34 ?_
    refine z_putI (pc := 35) C hR fX2_61 sh25 rfl (by (try unfold zRg at *); (try simp only [IX] at *); omega) dX2_completeNode_35 (fun σ_35 e_35 hR_35 => ?_)
    have hI_35 : IX σ_35 := by rw [e_35]; exact hI.upfr (by (try unfold zRg at *); (try simp only [IX] at *); omega)
    refine z_aload_nZ (pc := 38) C dX2_completeNode_38 rfl rfl ?_
    refine z_aload_nZ (pc := 39) C dX2_completeNode_39 rfl rfl ?_
    refine z_getR (pc := 40) C fX2_25 sh25 rfl dX2_completeNode_40 ?_
    refine z_iload_n (pc := 43) C dX2_completeNode_43 rfl rfl ?_
    refine z_iconst (pc := 44) C dX2_completeNode_44 ?_
    refine z_aload_nZ (pc := 45) C dX2_completeNode_45 rfl rfl ?_
    refine z_getR (pc := 46) C fX2_18 sh25 rfl dX2_completeNode_46 ?_
    refine z_iload_n (pc := 49) C dX2_completeNode_49 rfl rfl ?_
    refine z_ialde (pc := 50) (v := σ 28 a.toNat) C sh28 (by (try unfold zRg at *); (try simp only [IX] at *); omega) (by (try unfold zRg at *); (try simp only [IX] at *); omega) dX2_completeNode_50 (by rw [e_35, zup_cell (by omega)]) ?_
    refine z_aload_nZ (pc := 51) C dX2_completeNode_51 rfl rfl ?_
    refine z_getIe (pc := 52) (v := σ 25 9) C fX2_67 sh25 rfl dX2_completeNode_52 (by rw [e_35, zup_place (by decide)]) ?_
    refine z_callVi (pc := 55) (rest := [zrf E 25]) C (C_X0_add E σ_35 hR_35 13 (Or.inr rfl) (σ 26 a.toNat) (hR 26 _) (-1) (zRgL rfl) (σ 28 a.toNat) (hR 28 _) (σ 25 9) (hR 25 _) hI_35) vX2_89 (by decide) sh13 rfl rfl rfl (Nat.le_of_ble_eq_true rfl) dX2_completeNode_55 (fun r_55 σ_55 g_55 hR_55 hp_55 => ?_)
    refine z_callVv (pc := 58) (rest := []) C (C_X2_takeLeftSide E σ_55 hR_55 r_55 g_55) vX2_93 (by decide) sh25 rfl rfl rfl (Nat.le_of_ble_eq_true rfl) dX2_completeNode_58 (fun σ_58 hR_58 hp_58 => ?_)
    refine hret 61 _ _ dX2_completeNode_61 hR_58 ?_
    obtain ⟨q1, q2⟩ := hp_55; rw [hp_58, q1, q2, e_35]; unfold xcomplete; rw [zif_neg (by assumption)]
  · have c_12 := zb1 hp_9 c_12
    refine z_aload_nZ (pc := 15) C dX2_completeNode_15 rfl rfl ?_
    refine z_bipush (pc := 16) C dX2_completeNode_16 (by decide) ?_
    refine z_aload_nZ (pc := 18) C dX2_completeNode_18 rfl rfl ?_
    refine z_getR (pc := 19) C fX2_15 sh25 rfl dX2_completeNode_19 ?_
    refine z_iload_n (pc := 22) C dX2_completeNode_22 rfl rfl ?_
    refine z_iald (pc := 23) C sh27 (by (try unfold zRg at *); (try simp only [IX] at *); omega) (by (try unfold zRg at *); (try simp only [IX] at *); omega) dX2_completeNode_23 ?_
    refine z_callVv (pc := 24) (rest := []) C (C_X2_fail E σ hR 6 (zRgL rfl) (σ 27 a.toNat) (hR 27 _)) vX2_101 (by decide) sh25 rfl rfl rfl (Nat.le_of_ble_eq_true rfl) dX2_completeNode_24 (fun σ_24 hR_24 hp_24 => ?_)
    refine hret 27 _ _ dX2_completeNode_27 hR_24 ?_
    rw [hp_24]; unfold xcomplete; rw [zif_pos (by assumption)]
set_option maxRecDepth 20000 in
theorem C_X2_endFrame (E : ZE) (σ : ZSt) (hR : zRs σ) (hI : IX σ) (hpos : 0 ≤ σ 25 7 ∧ σ 25 7 ≤ 1000) : ZMv E 4 yX2_endFrame cX2_endFrame 2 [zrf E 25] σ (fun σ' => σ' = xendf σ) := by
  refine ZMv.intro (by decide) rfl (Nat.le_of_ble_eq_true rfl) (fun Γ C hN hret => ?_)
  show ZG E Γ 0 [some (zrf E 25), none] [] σ
  refine z_aload_nZ (pc := 0) C dX2_endFrame_0 rfl rfl ?_
  refine z_callVp (pc := 1) (rest := []) C (C_X2_topFrame E σ hR hI) vX2_130 (by decide) sh25 rfl rfl rfl (Nat.le_of_ble_eq_true rfl) dX2_endFrame_1 (fun r_1 g_1 hp_1 => ?_)
  refine z_istore_n (pc := 4) (lv' := [some (zrf E 25), some (ziv r_1)]) C hN dX2_endFrame_4 rfl (by decide) rfl ?_
  refine z_iload_n (pc := 5) C dX2_endFrame_5 rfl rfl ?_
  refine z_iconst (pc := 6) C dX2_endFrame_6 ?_
  refine z_icmp_ne (pc := 7) C 17 g_1 (zRgL rfl) dX2_endFrame_7 rfl (fun c_7 => ?_) (fun c_7 => ?_)
  · have htp := xtop_in hI (by rw [← hp_1]; assumption)
    have hfr := hI.frm
    refine z_aload_nZ (pc := 17) C dX2_endFrame_17 rfl rfl ?_
    refine z_getR (pc := 18) C fX2_9 sh25 rfl dX2_endFrame_18 ?_
    refine z_iload_n (pc := 21) C dX2_endFrame_21 rfl rfl ?_
    refine z_iald (pc := 22) C sh26 (by (try unfold zRg at *); (try simp only [IX] at *); omega) (by (try unfold zRg at *); (try simp only [IX] at *); omega) dX2_endFrame_22 ?_
    refine z_iconst (pc := 23) C dX2_endFrame_23 ?_
    refine z_icmp_ne (pc := 24) C 34 (hR 26 _) (zRgL rfl) dX2_endFrame_24 rfl (fun c_24 => ?_) (fun c_24 => ?_)
    · refine z_aload_nZ (pc := 34) C dX2_endFrame_34 rfl rfl ?_
      refine z_iload_n (pc := 35) C dX2_endFrame_35 rfl rfl ?_
      refine z_callVv (pc := 36) (rest := []) C (C_X2_completeNode E σ hR r_1 g_1 hI (by (try unfold zRg at *); (try simp only [IX] at *); omega)) vX2_142 (by decide) sh25 rfl rfl rfl (Nat.le_of_ble_eq_true rfl) dX2_endFrame_36 (fun σ_36 hR_36 hp_36 => ?_)
      refine hret 39 _ _ dX2_endFrame_39 hR_36 ?_
      unfold xendf; rw [← hp_1]; first | (rw [zif_pos (by assumption)]; assumption) | (rw [zif_neg (by assumption), zif_pos (by assumption)]; assumption) | (rw [zif_neg (by assumption), zif_neg (by assumption)]; assumption)
    · refine z_aload_nZ (pc := 27) C dX2_endFrame_27 rfl rfl ?_
      refine z_callVv (pc := 28) (rest := []) C (C_X2_endBracket E σ hR hI (by (try unfold zRg at *); (try simp only [IX] at *); omega) (by (try unfold zRg at *); (try simp only [IX] at *); omega)) vX2_139 (by decide) sh25 rfl rfl rfl (Nat.le_of_ble_eq_true rfl) dX2_endFrame_28 (fun σ_28 hR_28 hp_28 => ?_)
      refine z_goto (pc := 31) C 39 dX2_endFrame_31 rfl ?_
      refine hret 39 _ _ dX2_endFrame_39 hR_28 ?_
      unfold xendf; rw [← hp_1]; first | (rw [zif_pos (by assumption)]; assumption) | (rw [zif_neg (by assumption), zif_pos (by assumption)]; assumption) | (rw [zif_neg (by assumption), zif_neg (by assumption)]; assumption)
  · refine z_aload_nZ (pc := 10) C dX2_endFrame_10 rfl rfl ?_
    refine z_callVv (pc := 11) (rest := []) C (C_X2_endText E σ hR hI) vX2_136 (by decide) sh25 rfl rfl rfl (Nat.le_of_ble_eq_true rfl) dX2_endFrame_11 (fun σ_11 hR_11 hp_11 => ?_)
    refine z_goto (pc := 14) C 39 dX2_endFrame_14 rfl ?_
    refine hret 39 _ _ dX2_endFrame_39 hR_11 ?_
    unfold xendf; rw [← hp_1]; first | (rw [zif_pos (by assumption)]; assumption) | (rw [zif_neg (by assumption), zif_pos (by assumption)]; assumption) | (rw [zif_neg (by assumption), zif_neg (by assumption)]; assumption)
set_option maxRecDepth 20000 in
theorem C_X2_joinLeftSide (E : ZE) (σ : ZSt) (hR : zRs σ) (a : Int) (ha : zRg a) (hI : IX σ) (hpos : 0 ≤ σ 25 7 ∧ σ 25 7 ≤ 1000) : ZMv E 3 yX2_joinLeftSide cX2_joinLeftSide 2 [zrf E 25, ziv a] σ (fun σ' => σ' = xjoin σ a) := by
  refine ZMv.intro (by decide) rfl (Nat.le_of_ble_eq_true rfl) (fun Γ C hN hret => ?_)
  show ZG E Γ 0 [some (zrf E 25), some (ziv a)] [] σ
  refine z_aload_nZ (pc := 0) C dX2_joinLeftSide_0 rfl rfl ?_
  refine z_getI (pc := 1) C fX2_70 sh25 rfl dX2_joinLeftSide_1 ?_
  refine z_if_ne (pc := 4) C 41 (hR 25 _) dX2_joinLeftSide_4 rfl (fun c_4 => ?_) (fun c_4 => ?_)
  · refine z_aload_nZ (pc := 41) C dX2_joinLeftSide_41 rfl rfl ?_
    refine z_iload_n (pc := 42) C dX2_joinLeftSide_42 rfl rfl ?_
    refine z_callVp (pc := 43) (rest := []) C (C_X2_isForbiddenUnder E σ hR a ha hI) vX2_124 (by decide) sh25 rfl rfl rfl (Nat.le_of_ble_eq_true rfl) dX2_joinLeftSide_43 (fun r_43 g_43 hp_43 => ?_)
    refine z_if_eq (pc := 46) C 62 g_43 dX2_joinLeftSide_46 rfl (fun c_46 => ?_) (fun c_46 => ?_)
    · have c_46 := zb0 hp_43 c_46
      refine z_aload_nZ (pc := 62) C dX2_joinLeftSide_62 rfl rfl ?_
      refine z_getR (pc := 63) C fX2_21 sh25 rfl dX2_joinLeftSide_63 ?_
      refine z_iload_n (pc := 66) C dX2_joinLeftSide_66 rfl rfl ?_
      refine z_callVp (pc := 67) (rest := []) C (C_X1_kindAt E σ hR a ha hI) vX2_127 (by decide) sh1 rfl rfl rfl (Nat.le_of_ble_eq_true rfl) dX2_joinLeftSide_67 (fun r_67 g_67 hp_67 => ?_)
      refine z_iconst (pc := 70) C dX2_joinLeftSide_70 ?_
      refine z_icmp_ne (pc := 71) C 105 g_67 (zRgL rfl) dX2_joinLeftSide_71 rfl (fun c_71 => ?_) (fun c_71 => ?_)
      · refine z_aload_nZ (pc := 105) C dX2_joinLeftSide_105 rfl rfl ?_
        refine z_iload_n (pc := 106) C dX2_joinLeftSide_106 rfl rfl ?_
        refine z_aload_nZ (pc := 107) C dX2_joinLeftSide_107 rfl rfl ?_
        refine z_getI (pc := 108) C fX2_67 sh25 rfl dX2_joinLeftSide_108 ?_
        refine z_callVv (pc := 111) (rest := []) C (C_X2_openFrame E σ hR a ha (σ 25 9) (hR 25 _) hI (by (try unfold zRg at *); (try simp only [IX] at *); omega)) vX2_97 (by decide) sh25 rfl rfl rfl (Nat.le_of_ble_eq_true rfl) dX2_joinLeftSide_111 (fun σ_111 hR_111 hp_111 => ?_)
        refine hret 114 _ _ dX2_joinLeftSide_114 hR_111 ?_
        unfold xjoin
        first
        | (rw [zif_pos ⟨by assumption, by rw [← hp_20]; assumption⟩]; assumption)
        | (rw [zif_neg (fun w => by first | exact absurd w.1 (by assumption) | (have w2 := w.2; rw [← hp_20] at w2; contradiction)), zif_pos (by assumption)]; assumption)
        | (rw [zif_neg (fun w => by first | exact absurd w.1 (by assumption) | (have w2 := w.2; rw [← hp_20] at w2; contradiction)), zif_neg (by assumption), zif_pos (by rw [← hp_67]; assumption)]; obtain ⟨q1, q2⟩ := hp_96; rw [hp_99, q1, q2, e_81])
        | (rw [zif_neg (fun w => by first | exact absurd w.1 (by assumption) | (have w2 := w.2; rw [← hp_20] at w2; contradiction)), zif_neg (by assumption), zif_neg (by rw [← hp_67]; assumption)]; assumption)
      · refine z_aload_nZ (pc := 74) C dX2_joinLeftSide_74 rfl rfl ?_
        refine z_dup (pc := 75) C dX2_joinLeftSide_75 rfl ?_
        refine z_getI (pc := 76) C fX2_64 sh25 rfl dX2_joinLeftSide_76 ?_
        refine z_iconst (pc := 79) C dX2_joinLeftSide_79 ?_
        refine z_iadd (pc := 80) C dX2_joinLeftSide_80 ?_
        refine z_putI (pc := 81) C hR fX2_64 sh25 rfl (by (try unfold zRg at *); (try simp only [IX] at *); omega) dX2_joinLeftSide_81 (fun σ_81 e_81 hR_81 => ?_)
        have hI_81 : IX σ_81 := by rw [e_81]; exact hI.upF (by decide)
        refine z_aload_nZ (pc := 84) C dX2_joinLeftSide_84 rfl rfl ?_
        refine z_aload_nZ (pc := 85) C dX2_joinLeftSide_85 rfl rfl ?_
        refine z_getR (pc := 86) C fX2_25 sh25 rfl dX2_joinLeftSide_86 ?_
        refine z_iload_n (pc := 89) C dX2_joinLeftSide_89 rfl rfl ?_
        refine z_iconst (pc := 90) C dX2_joinLeftSide_90 ?_
        refine z_aload_nZ (pc := 91) C dX2_joinLeftSide_91 rfl rfl ?_
        refine z_getIe (pc := 92) (v := σ 25 9) C fX2_67 sh25 rfl dX2_joinLeftSide_92 (by rw [e_81, zup_place (by decide)]) ?_
        refine z_iconst (pc := 95) C dX2_joinLeftSide_95 ?_
        refine z_callVi (pc := 96) (rest := [zrf E 25]) C (C_X0_add E σ_81 hR_81 13 (Or.inr rfl) a ha (-1) (zRgL rfl) (σ 25 9) (hR 25 _) (-1) (zRgL rfl) hI_81) vX2_89 (by decide) sh13 rfl rfl rfl (Nat.le_of_ble_eq_true rfl) dX2_joinLeftSide_96 (fun r_96 σ_96 g_96 hR_96 hp_96 => ?_)
        refine z_callVv (pc := 99) (rest := []) C (C_X2_takeLeftSide E σ_96 hR_96 r_96 g_96) vX2_93 (by decide) sh25 rfl rfl rfl (Nat.le_of_ble_eq_true rfl) dX2_joinLeftSide_99 (fun σ_99 hR_99 hp_99 => ?_)
        refine z_goto (pc := 102) C 114 dX2_joinLeftSide_102 rfl ?_
        refine hret 114 _ _ dX2_joinLeftSide_114 hR_99 ?_
        unfold xjoin
        first
        | (rw [zif_pos ⟨by assumption, by rw [← hp_20]; assumption⟩]; assumption)
        | (rw [zif_neg (fun w => by first | exact absurd w.1 (by assumption) | (have w2 := w.2; rw [← hp_20] at w2; contradiction)), zif_pos (by assumption)]; assumption)
        | (rw [zif_neg (fun w => by first | exact absurd w.1 (by assumption) | (have w2 := w.2; rw [← hp_20] at w2; contradiction)), zif_neg (by assumption), zif_pos (by rw [← hp_67]; assumption)]; obtain ⟨q1, q2⟩ := hp_96; rw [hp_99, q1, q2, e_81])
        | (rw [zif_neg (fun w => by first | exact absurd w.1 (by assumption) | (have w2 := w.2; rw [← hp_20] at w2; contradiction)), zif_neg (by assumption), zif_neg (by rw [← hp_67]; assumption)]; assumption)
    · have c_46 := zb1 hp_43 c_46
      refine z_aload_nZ (pc := 49) C dX2_joinLeftSide_49 rfl rfl ?_
      refine z_bipush (pc := 50) C dX2_joinLeftSide_50 (by decide) ?_
      refine z_aload_nZ (pc := 52) C dX2_joinLeftSide_52 rfl rfl ?_
      refine z_getI (pc := 53) C fX2_64 sh25 rfl dX2_joinLeftSide_53 ?_
      refine z_callVv (pc := 56) (rest := []) C (C_X2_fail E σ hR 6 (zRgL rfl) (σ 25 7) (hR 25 _)) vX2_101 (by decide) sh25 rfl rfl rfl (Nat.le_of_ble_eq_true rfl) dX2_joinLeftSide_56 (fun σ_56 hR_56 hp_56 => ?_)
      refine z_goto (pc := 59) C 114 dX2_joinLeftSide_59 rfl ?_
      refine hret 114 _ _ dX2_joinLeftSide_114 hR_56 ?_
      unfold xjoin
      first
      | (rw [zif_pos ⟨by assumption, by rw [← hp_20]; assumption⟩]; assumption)
      | (rw [zif_neg (fun w => by first | exact absurd w.1 (by assumption) | (have w2 := w.2; rw [← hp_20] at w2; contradiction)), zif_pos (by assumption)]; assumption)
      | (rw [zif_neg (fun w => by first | exact absurd w.1 (by assumption) | (have w2 := w.2; rw [← hp_20] at w2; contradiction)), zif_neg (by assumption), zif_pos (by rw [← hp_67]; assumption)]; obtain ⟨q1, q2⟩ := hp_96; rw [hp_99, q1, q2, e_81])
      | (rw [zif_neg (fun w => by first | exact absurd w.1 (by assumption) | (have w2 := w.2; rw [← hp_20] at w2; contradiction)), zif_neg (by assumption), zif_neg (by rw [← hp_67]; assumption)]; assumption)
  · refine z_aload_nZ (pc := 7) C dX2_joinLeftSide_7 rfl rfl ?_
    refine z_getR (pc := 8) C fX2_21 sh25 rfl dX2_joinLeftSide_8 ?_
    refine z_iload_n (pc := 11) C dX2_joinLeftSide_11 rfl rfl ?_
    refine z_aload_nZ (pc := 12) C dX2_joinLeftSide_12 rfl rfl ?_
    refine z_getR (pc := 13) C fX2_25 sh25 rfl dX2_joinLeftSide_13 ?_
    refine z_aload_nZ (pc := 16) C dX2_joinLeftSide_16 rfl rfl ?_
    refine z_getI (pc := 17) C fX2_67 sh25 rfl dX2_joinLeftSide_17 ?_
    refine z_callVp (pc := 20) (rest := [ziv a, zrf E 1]) C (C_X0_operatorAt E σ hR 13 (Or.inr rfl) (σ 25 9) (hR 25 _) hI) vX2_117 (by decide) sh13 rfl rfl rfl (Nat.le_of_ble_eq_true rfl) dX2_joinLeftSide_20 (fun r_20 g_20 hp_20 => ?_)
    refine z_callVp (pc := 23) (rest := []) C (C_X1_isNotAssociative E σ hR a ha r_20 g_20 hI) vX2_120 (by decide) sh1 rfl rfl rfl (Nat.le_of_ble_eq_true rfl) dX2_joinLeftSide_23 (fun r_23 g_23 hp_23 => ?_)
    refine z_if_eq (pc := 26) C 41 g_23 dX2_joinLeftSide_26 rfl (fun c_26 => ?_) (fun c_26 => ?_)
    · have c_26 := zb0 hp_23 c_26
      refine z_aload_nZ (pc := 41) C dX2_joinLeftSide_41 rfl rfl ?_
      refine z_iload_n (pc := 42) C dX2_joinLeftSide_42 rfl rfl ?_
      refine z_callVp (pc := 43) (rest := []) C (C_X2_isForbiddenUnder E σ hR a ha hI) vX2_124 (by decide) sh25 rfl rfl rfl (Nat.le_of_ble_eq_true rfl) dX2_joinLeftSide_43 (fun r_43 g_43 hp_43 => ?_)
      refine z_if_eq (pc := 46) C 62 g_43 dX2_joinLeftSide_46 rfl (fun c_46 => ?_) (fun c_46 => ?_)
      · have c_46 := zb0 hp_43 c_46
        refine z_aload_nZ (pc := 62) C dX2_joinLeftSide_62 rfl rfl ?_
        refine z_getR (pc := 63) C fX2_21 sh25 rfl dX2_joinLeftSide_63 ?_
        refine z_iload_n (pc := 66) C dX2_joinLeftSide_66 rfl rfl ?_
        refine z_callVp (pc := 67) (rest := []) C (C_X1_kindAt E σ hR a ha hI) vX2_127 (by decide) sh1 rfl rfl rfl (Nat.le_of_ble_eq_true rfl) dX2_joinLeftSide_67 (fun r_67 g_67 hp_67 => ?_)
        refine z_iconst (pc := 70) C dX2_joinLeftSide_70 ?_
        refine z_icmp_ne (pc := 71) C 105 g_67 (zRgL rfl) dX2_joinLeftSide_71 rfl (fun c_71 => ?_) (fun c_71 => ?_)
        · refine z_aload_nZ (pc := 105) C dX2_joinLeftSide_105 rfl rfl ?_
          refine z_iload_n (pc := 106) C dX2_joinLeftSide_106 rfl rfl ?_
          refine z_aload_nZ (pc := 107) C dX2_joinLeftSide_107 rfl rfl ?_
          refine z_getI (pc := 108) C fX2_67 sh25 rfl dX2_joinLeftSide_108 ?_
          refine z_callVv (pc := 111) (rest := []) C (C_X2_openFrame E σ hR a ha (σ 25 9) (hR 25 _) hI (by (try unfold zRg at *); (try simp only [IX] at *); omega)) vX2_97 (by decide) sh25 rfl rfl rfl (Nat.le_of_ble_eq_true rfl) dX2_joinLeftSide_111 (fun σ_111 hR_111 hp_111 => ?_)
          refine hret 114 _ _ dX2_joinLeftSide_114 hR_111 ?_
          unfold xjoin
          first
          | (rw [zif_pos ⟨by assumption, by rw [← hp_20]; assumption⟩]; assumption)
          | (rw [zif_neg (fun w => by first | exact absurd w.1 (by assumption) | (have w2 := w.2; rw [← hp_20] at w2; contradiction)), zif_pos (by assumption)]; assumption)
          | (rw [zif_neg (fun w => by first | exact absurd w.1 (by assumption) | (have w2 := w.2; rw [← hp_20] at w2; contradiction)), zif_neg (by assumption), zif_pos (by rw [← hp_67]; assumption)]; obtain ⟨q1, q2⟩ := hp_96; rw [hp_99, q1, q2, e_81])
          | (rw [zif_neg (fun w => by first | exact absurd w.1 (by assumption) | (have w2 := w.2; rw [← hp_20] at w2; contradiction)), zif_neg (by assumption), zif_neg (by rw [← hp_67]; assumption)]; assumption)
        · refine z_aload_nZ (pc := 74) C dX2_joinLeftSide_74 rfl rfl ?_
          refine z_dup (pc := 75) C dX2_joinLeftSide_75 rfl ?_
          refine z_getI (pc := 76) C fX2_64 sh25 rfl dX2_joinLeftSide_76 ?_
          refine z_iconst (pc := 79) C dX2_joinLeftSide_79 ?_
          refine z_iadd (pc := 80) C dX2_joinLeftSide_80 ?_
          refine z_putI (pc := 81) C hR fX2_64 sh25 rfl (by (try unfold zRg at *); (try simp only [IX] at *); omega) dX2_joinLeftSide_81 (fun σ_81 e_81 hR_81 => ?_)
          have hI_81 : IX σ_81 := by rw [e_81]; exact hI.upF (by decide)
          refine z_aload_nZ (pc := 84) C dX2_joinLeftSide_84 rfl rfl ?_
          refine z_aload_nZ (pc := 85) C dX2_joinLeftSide_85 rfl rfl ?_
          refine z_getR (pc := 86) C fX2_25 sh25 rfl dX2_joinLeftSide_86 ?_
          refine z_iload_n (pc := 89) C dX2_joinLeftSide_89 rfl rfl ?_
          refine z_iconst (pc := 90) C dX2_joinLeftSide_90 ?_
          refine z_aload_nZ (pc := 91) C dX2_joinLeftSide_91 rfl rfl ?_
          refine z_getIe (pc := 92) (v := σ 25 9) C fX2_67 sh25 rfl dX2_joinLeftSide_92 (by rw [e_81, zup_place (by decide)]) ?_
          refine z_iconst (pc := 95) C dX2_joinLeftSide_95 ?_
          refine z_callVi (pc := 96) (rest := [zrf E 25]) C (C_X0_add E σ_81 hR_81 13 (Or.inr rfl) a ha (-1) (zRgL rfl) (σ 25 9) (hR 25 _) (-1) (zRgL rfl) hI_81) vX2_89 (by decide) sh13 rfl rfl rfl (Nat.le_of_ble_eq_true rfl) dX2_joinLeftSide_96 (fun r_96 σ_96 g_96 hR_96 hp_96 => ?_)
          refine z_callVv (pc := 99) (rest := []) C (C_X2_takeLeftSide E σ_96 hR_96 r_96 g_96) vX2_93 (by decide) sh25 rfl rfl rfl (Nat.le_of_ble_eq_true rfl) dX2_joinLeftSide_99 (fun σ_99 hR_99 hp_99 => ?_)
          refine z_goto (pc := 102) C 114 dX2_joinLeftSide_102 rfl ?_
          refine hret 114 _ _ dX2_joinLeftSide_114 hR_99 ?_
          unfold xjoin
          first
          | (rw [zif_pos ⟨by assumption, by rw [← hp_20]; assumption⟩]; assumption)
          | (rw [zif_neg (fun w => by first | exact absurd w.1 (by assumption) | (have w2 := w.2; rw [← hp_20] at w2; contradiction)), zif_pos (by assumption)]; assumption)
          | (rw [zif_neg (fun w => by first | exact absurd w.1 (by assumption) | (have w2 := w.2; rw [← hp_20] at w2; contradiction)), zif_neg (by assumption), zif_pos (by rw [← hp_67]; assumption)]; obtain ⟨q1, q2⟩ := hp_96; rw [hp_99, q1, q2, e_81])
          | (rw [zif_neg (fun w => by first | exact absurd w.1 (by assumption) | (have w2 := w.2; rw [← hp_20] at w2; contradiction)), zif_neg (by assumption), zif_neg (by rw [← hp_67]; assumption)]; assumption)
      · have c_46 := zb1 hp_43 c_46
        refine z_aload_nZ (pc := 49) C dX2_joinLeftSide_49 rfl rfl ?_
        refine z_bipush (pc := 50) C dX2_joinLeftSide_50 (by decide) ?_
        refine z_aload_nZ (pc := 52) C dX2_joinLeftSide_52 rfl rfl ?_
        refine z_getI (pc := 53) C fX2_64 sh25 rfl dX2_joinLeftSide_53 ?_
        refine z_callVv (pc := 56) (rest := []) C (C_X2_fail E σ hR 6 (zRgL rfl) (σ 25 7) (hR 25 _)) vX2_101 (by decide) sh25 rfl rfl rfl (Nat.le_of_ble_eq_true rfl) dX2_joinLeftSide_56 (fun σ_56 hR_56 hp_56 => ?_)
        refine z_goto (pc := 59) C 114 dX2_joinLeftSide_59 rfl ?_
        refine hret 114 _ _ dX2_joinLeftSide_114 hR_56 ?_
        unfold xjoin
        first
        | (rw [zif_pos ⟨by assumption, by rw [← hp_20]; assumption⟩]; assumption)
        | (rw [zif_neg (fun w => by first | exact absurd w.1 (by assumption) | (have w2 := w.2; rw [← hp_20] at w2; contradiction)), zif_pos (by assumption)]; assumption)
        | (rw [zif_neg (fun w => by first | exact absurd w.1 (by assumption) | (have w2 := w.2; rw [← hp_20] at w2; contradiction)), zif_neg (by assumption), zif_pos (by rw [← hp_67]; assumption)]; obtain ⟨q1, q2⟩ := hp_96; rw [hp_99, q1, q2, e_81])
        | (rw [zif_neg (fun w => by first | exact absurd w.1 (by assumption) | (have w2 := w.2; rw [← hp_20] at w2; contradiction)), zif_neg (by assumption), zif_neg (by rw [← hp_67]; assumption)]; assumption)
    · have c_26 := zb1 hp_23 c_26
      refine z_aload_nZ (pc := 29) C dX2_joinLeftSide_29 rfl rfl ?_
      refine z_iconst (pc := 30) C dX2_joinLeftSide_30 ?_
      refine z_aload_nZ (pc := 31) C dX2_joinLeftSide_31 rfl rfl ?_
      refine z_getI (pc := 32) C fX2_64 sh25 rfl dX2_joinLeftSide_32 ?_
      refine z_callVv (pc := 35) (rest := []) C (C_X2_fail E σ hR 5 (zRgL rfl) (σ 25 7) (hR 25 _)) vX2_101 (by decide) sh25 rfl rfl rfl (Nat.le_of_ble_eq_true rfl) dX2_joinLeftSide_35 (fun σ_35 hR_35 hp_35 => ?_)
      refine z_goto (pc := 38) C 114 dX2_joinLeftSide_38 rfl ?_
      refine hret 114 _ _ dX2_joinLeftSide_114 hR_35 ?_
      unfold xjoin
      first
      | (rw [zif_pos ⟨by assumption, by rw [← hp_20]; assumption⟩]; assumption)
      | (rw [zif_neg (fun w => by first | exact absurd w.1 (by assumption) | (have w2 := w.2; rw [← hp_20] at w2; contradiction)), zif_pos (by assumption)]; assumption)
      | (rw [zif_neg (fun w => by first | exact absurd w.1 (by assumption) | (have w2 := w.2; rw [← hp_20] at w2; contradiction)), zif_neg (by assumption), zif_pos (by rw [← hp_67]; assumption)]; obtain ⟨q1, q2⟩ := hp_96; rw [hp_99, q1, q2, e_81])
      | (rw [zif_neg (fun w => by first | exact absurd w.1 (by assumption) | (have w2 := w.2; rw [← hp_20] at w2; contradiction)), zif_neg (by assumption), zif_neg (by rw [← hp_67]; assumption)]; assumption)
set_option maxRecDepth 20000 in
theorem C_X2_readOperand (E : ZE) (σ : ZSt) (hR : zRs σ) (hI : IX σ) (hpos : 0 ≤ σ 25 7 ∧ σ 25 7 ≤ 1000) : ZMv E 3 yX2_readOperand cX2_readOperand 3 [zrf E 25] σ (fun σ' => σ' = xrdop σ) := by
  refine ZMv.intro (by decide) rfl (Nat.le_of_ble_eq_true rfl) (fun Γ C hN hret => ?_)
  show ZG E Γ 0 [some (zrf E 25), none, none] [] σ
  refine z_aload_nZ (pc := 0) C dX2_readOperand_0 rfl rfl ?_
  refine z_getR (pc := 1) C fX2_29 sh25 rfl dX2_readOperand_1 ?_
  refine z_aload_nZ (pc := 4) C dX2_readOperand_4 rfl rfl ?_
  refine z_getI (pc := 5) C fX2_64 sh25 rfl dX2_readOperand_5 ?_
  refine z_callVp (pc := 8) (rest := []) C (C_X3_at E σ hR 23 (Or.inr (Or.inr rfl)) (σ 25 7) (hR 25 _) hI) vX2_73 (by decide) sh23 rfl rfl rfl (Nat.le_of_ble_eq_true rfl) dX2_readOperand_8 (fun r_8 g_8 hp_8 => ?_)
  refine z_istore_n (pc := 11) (lv' := [some (zrf E 25), some (ziv r_8), none]) C hN dX2_readOperand_11 rfl (by decide) rfl ?_
  refine z_aload_nZ (pc := 12) C dX2_readOperand_12 rfl rfl ?_
  refine z_getR (pc := 13) C fX2_21 sh25 rfl dX2_readOperand_13 ?_
  refine z_iload_n (pc := 16) C dX2_readOperand_16 rfl rfl ?_
  refine z_iconst (pc := 17) C dX2_readOperand_17 ?_
  refine z_callVp (pc := 18) (rest := []) C (C_X1_find E σ hR r_8 g_8 1 (Or.inr rfl) hI) vX2_79 (by decide) sh1 rfl rfl rfl (Nat.le_of_ble_eq_true rfl) dX2_readOperand_18 (fun r_18 g_18 hp_18 => ?_)
  refine z_istore_n (pc := 21) (lv' := [some (zrf E 25), some (ziv r_8), some (ziv r_18)]) C hN dX2_readOperand_21 rfl (by decide) rfl ?_
  refine z_iload_n (pc := 22) C dX2_readOperand_22 rfl rfl ?_
  refine z_callNp (pc := 23) (rest := []) C (C_X5_isLetter E σ hR r_8 g_8) vX2_85 (by decide) rfl rfl (Nat.le_of_ble_eq_true rfl) dX2_readOperand_23 (fun r_23 g_23 hp_23 => ?_)
  refine z_if_eq (pc := 26) C 57 g_23 dX2_readOperand_26 rfl (fun c_26 => ?_) (fun c_26 => ?_)
  · have c_26 := zb0 hp_23 c_26
    refine z_iload_n (pc := 57) C dX2_readOperand_57 rfl rfl ?_
    refine z_bipush (pc := 58) C dX2_readOperand_58 (by decide) ?_
    refine z_icmp_eq (pc := 60) C 68 g_8 (zRgL rfl) dX2_readOperand_60 rfl (fun c_60 => ?_) (fun c_60 => ?_)
    · refine z_aload_nZ (pc := 68) C dX2_readOperand_68 rfl rfl ?_
      refine z_iload_n (pc := 69) C dX2_readOperand_69 rfl rfl ?_
      refine z_iconst (pc := 70) C dX2_readOperand_70 ?_
      refine z_callVv (pc := 71) (rest := []) C (C_X2_openFrame E σ hR r_18 g_18 (-1) (zRgL rfl) hI (by (try unfold zRg at *); (try simp only [IX] at *); omega)) vX2_97 (by decide) sh25 rfl rfl rfl (Nat.le_of_ble_eq_true rfl) dX2_readOperand_71 (fun σ_71 hR_71 hp_71 => ?_)
      refine z_goto (pc := 74) C 86 dX2_readOperand_74 rfl ?_
      refine hret 86 _ _ dX2_readOperand_86 hR_71 ?_
      unfold xrdop
      rw [← hp_8, ← hp_18]
      first
      | (rw [zif_pos (by assumption)]; obtain ⟨q1, q2⟩ := hp_48; rw [hp_51, q1, q2, e_36])
      | (rw [zif_neg (by assumption), zif_pos (by omega)]; assumption)
      | (rw [zif_neg (by assumption), zif_neg (by omega)]; assumption)
    · refine z_iload_n (pc := 63) C dX2_readOperand_63 rfl rfl ?_
      refine z_iconst (pc := 64) C dX2_readOperand_64 ?_
      refine z_icmp_eq (pc := 65) C 77 g_18 (zRgL rfl) dX2_readOperand_65 rfl (fun c_65 => ?_) (fun c_65 => ?_)
      · refine z_aload_nZ (pc := 77) C dX2_readOperand_77 rfl rfl ?_
        refine z_iconst (pc := 78) C dX2_readOperand_78 ?_
        refine z_aload_nZ (pc := 79) C dX2_readOperand_79 rfl rfl ?_
        refine z_getI (pc := 80) C fX2_64 sh25 rfl dX2_readOperand_80 ?_
        refine z_callVv (pc := 83) (rest := []) C (C_X2_fail E σ hR 1 (zRgL rfl) (σ 25 7) (hR 25 _)) vX2_101 (by decide) sh25 rfl rfl rfl (Nat.le_of_ble_eq_true rfl) dX2_readOperand_83 (fun σ_83 hR_83 hp_83 => ?_)
        refine hret 86 _ _ dX2_readOperand_86 hR_83 ?_
        unfold xrdop
        rw [← hp_8, ← hp_18]
        first
        | (rw [zif_pos (by assumption)]; obtain ⟨q1, q2⟩ := hp_48; rw [hp_51, q1, q2, e_36])
        | (rw [zif_neg (by assumption), zif_pos (by omega)]; assumption)
        | (rw [zif_neg (by assumption), zif_neg (by omega)]; assumption)
      · refine z_aload_nZ (pc := 68) C dX2_readOperand_68 rfl rfl ?_
        refine z_iload_n (pc := 69) C dX2_readOperand_69 rfl rfl ?_
        refine z_iconst (pc := 70) C dX2_readOperand_70 ?_
        refine z_callVv (pc := 71) (rest := []) C (C_X2_openFrame E σ hR r_18 g_18 (-1) (zRgL rfl) hI (by (try unfold zRg at *); (try simp only [IX] at *); omega)) vX2_97 (by decide) sh25 rfl rfl rfl (Nat.le_of_ble_eq_true rfl) dX2_readOperand_71 (fun σ_71 hR_71 hp_71 => ?_)
        refine z_goto (pc := 74) C 86 dX2_readOperand_74 rfl ?_
        refine hret 86 _ _ dX2_readOperand_86 hR_71 ?_
        unfold xrdop
        rw [← hp_8, ← hp_18]
        first
        | (rw [zif_pos (by assumption)]; obtain ⟨q1, q2⟩ := hp_48; rw [hp_51, q1, q2, e_36])
        | (rw [zif_neg (by assumption), zif_pos (by omega)]; assumption)
        | (rw [zif_neg (by assumption), zif_neg (by omega)]; assumption)
  · have c_26 := zb1 hp_23 c_26
    refine z_aload_nZ (pc := 29) C dX2_readOperand_29 rfl rfl ?_
    refine z_dup (pc := 30) C dX2_readOperand_30 rfl ?_
    refine z_getI (pc := 31) C fX2_64 sh25 rfl dX2_readOperand_31 ?_
    refine z_iconst (pc := 34) C dX2_readOperand_34 ?_
    refine z_iadd (pc := 35) C dX2_readOperand_35 ?_
    refine z_putI (pc := 36) C hR fX2_64 sh25 rfl (by (try unfold zRg at *); (try simp only [IX] at *); omega) dX2_readOperand_36 (fun σ_36 e_36 hR_36 => ?_)
    have hI_36 : IX σ_36 := by rw [e_36]; exact hI.upF (by decide)
    refine z_aload_nZ (pc := 39) C dX2_readOperand_39 rfl rfl ?_
    refine z_aload_nZ (pc := 40) C dX2_readOperand_40 rfl rfl ?_
    refine z_getR (pc := 41) C fX2_25 sh25 rfl dX2_readOperand_41 ?_
    refine z_iconst (pc := 44) C dX2_readOperand_44 ?_
    refine z_iload_n (pc := 45) C dX2_readOperand_45 rfl rfl ?_
    refine z_iconst (pc := 46) C dX2_readOperand_46 ?_
    refine z_iconst (pc := 47) C dX2_readOperand_47 ?_
    refine z_callVi (pc := 48) (rest := [zrf E 25]) C (C_X0_add E σ_36 hR_36 13 (Or.inr rfl) (-1) (zRgL rfl) r_8 g_8 (-1) (zRgL rfl) (-1) (zRgL rfl) hI_36) vX2_89 (by decide) sh13 rfl rfl rfl (Nat.le_of_ble_eq_true rfl) dX2_readOperand_48 (fun r_48 σ_48 g_48 hR_48 hp_48 => ?_)
    refine z_callVv (pc := 51) (rest := []) C (C_X2_takeLeftSide E σ_48 hR_48 r_48 g_48) vX2_93 (by decide) sh25 rfl rfl rfl (Nat.le_of_ble_eq_true rfl) dX2_readOperand_51 (fun σ_51 hR_51 hp_51 => ?_)
    refine z_goto (pc := 54) C 86 dX2_readOperand_54 rfl ?_
    refine hret 86 _ _ dX2_readOperand_86 hR_51 ?_
    unfold xrdop
    rw [← hp_8, ← hp_18]
    first
    | (rw [zif_pos (by assumption)]; obtain ⟨q1, q2⟩ := hp_48; rw [hp_51, q1, q2, e_36])
    | (rw [zif_neg (by assumption), zif_pos (by omega)]; assumption)
    | (rw [zif_neg (by assumption), zif_neg (by omega)]; assumption)
set_option maxRecDepth 20000 in
theorem C_X2_readOperator (E : ZE) (σ : ZSt) (hR : zRs σ) (hI : IX σ) (hpos : 0 ≤ σ 25 7 ∧ σ 25 7 ≤ 1000) : ZMv E 5 yX2_readOperator cX2_readOperator 3 [zrf E 25] σ (fun σ' => σ' = xrdor σ) := by
  refine ZMv.intro (by decide) rfl (Nat.le_of_ble_eq_true rfl) (fun Γ C hN hret => ?_)
  show ZG E Γ 0 [some (zrf E 25), none, none] [] σ
  refine z_aload_nZ (pc := 0) C dX2_readOperator_0 rfl rfl ?_
  refine z_getR (pc := 1) C fX2_29 sh25 rfl dX2_readOperator_1 ?_
  refine z_aload_nZ (pc := 4) C dX2_readOperator_4 rfl rfl ?_
  refine z_getI (pc := 5) C fX2_64 sh25 rfl dX2_readOperator_5 ?_
  refine z_callVp (pc := 8) (rest := []) C (C_X3_at E σ hR 23 (Or.inr (Or.inr rfl)) (σ 25 7) (hR 25 _) hI) vX2_73 (by decide) sh23 rfl rfl rfl (Nat.le_of_ble_eq_true rfl) dX2_readOperator_8 (fun r_8 g_8 hp_8 => ?_)
  refine z_istore_n (pc := 11) (lv' := [some (zrf E 25), some (ziv r_8), none]) C hN dX2_readOperator_11 rfl (by decide) rfl ?_
  refine z_iload_n (pc := 12) C dX2_readOperator_12 rfl rfl ?_
  refine z_iconst (pc := 13) C dX2_readOperator_13 ?_
  refine z_icmp_eq (pc := 14) C 23 g_8 (zRgL rfl) dX2_readOperator_14 rfl (fun c_14 => ?_) (fun c_14 => ?_)
  · refine z_aload_nZ (pc := 23) C dX2_readOperator_23 rfl rfl ?_
    refine z_callVv (pc := 24) (rest := []) C (C_X2_endFrame E σ hR hI (by (try unfold zRg at *); (try simp only [IX] at *); omega)) vX2_104 (by decide) sh25 rfl rfl rfl (Nat.le_of_ble_eq_true rfl) dX2_readOperator_24 (fun σ_24 hR_24 hp_24 => ?_)
    refine hret 27 _ _ dX2_readOperator_27 hR_24 ?_
    unfold xrdor
    rw [← hp_8, zif_pos (by omega)]
    assumption
  · refine z_iload_n (pc := 17) C dX2_readOperator_17 rfl rfl ?_
    refine z_bipush (pc := 18) C dX2_readOperator_18 (by decide) ?_
    refine z_icmp_ne (pc := 20) C 28 g_8 (zRgL rfl) dX2_readOperator_20 rfl (fun c_20 => ?_) (fun c_20 => ?_)
    · refine z_aload_nZ (pc := 28) C dX2_readOperator_28 rfl rfl ?_
      refine z_getR (pc := 29) C fX2_21 sh25 rfl dX2_readOperator_29 ?_
      refine z_iload_n (pc := 32) C dX2_readOperator_32 rfl rfl ?_
      refine z_iconst (pc := 33) C dX2_readOperator_33 ?_
      refine z_callVp (pc := 34) (rest := []) C (C_X1_find E σ hR r_8 g_8 0 (Or.inl rfl) hI) vX2_79 (by decide) sh1 rfl rfl rfl (Nat.le_of_ble_eq_true rfl) dX2_readOperator_34 (fun r_34 g_34 hp_34 => ?_)
      refine z_istore_n (pc := 37) (lv' := [some (zrf E 25), some (ziv r_8), some (ziv r_34)]) C hN dX2_readOperator_37 rfl (by decide) rfl ?_
      refine z_iload_n (pc := 38) C dX2_readOperator_38 rfl rfl ?_
      refine z_iconst (pc := 39) C dX2_readOperator_39 ?_
      refine z_icmp_ne (pc := 40) C 55 g_34 (zRgL rfl) dX2_readOperator_40 rfl (fun c_40 => ?_) (fun c_40 => ?_)
      · refine z_aload_nZ (pc := 55) C dX2_readOperator_55 rfl rfl ?_
        refine z_getR (pc := 56) C fX2_21 sh25 rfl dX2_readOperator_56 ?_
        refine z_iload_n (pc := 59) C dX2_readOperator_59 rfl rfl ?_
        refine z_callVp (pc := 60) (rest := []) C (C_X1_levelAt E σ hR r_34 g_34 hI) vX2_107 (by decide) sh1 rfl rfl rfl (Nat.le_of_ble_eq_true rfl) dX2_readOperator_60 (fun r_60 g_60 hp_60 => ?_)
        refine z_aload_nZ (pc := 63) C dX2_readOperator_63 rfl rfl ?_
        refine z_callVp (pc := 64) (rest := [ziv r_60]) C (C_X2_frameMin E σ hR hI) vX2_110 (by decide) sh25 rfl rfl rfl (Nat.le_of_ble_eq_true rfl) dX2_readOperator_64 (fun r_64 g_64 hp_64 => ?_)
        refine z_icmp_ge (pc := 67) C 77 g_60 g_64 dX2_readOperator_67 rfl (fun c_67 => ?_) (fun c_67 => ?_)
        · refine z_aload_nZ (pc := 77) C dX2_readOperator_77 rfl rfl ?_
          refine z_iload_n (pc := 78) C dX2_readOperator_78 rfl rfl ?_
          refine z_callVv (pc := 79) (rest := []) C (C_X2_joinLeftSide E σ hR r_34 g_34 hI (by (try unfold zRg at *); (try simp only [IX] at *); omega)) vX2_114 (by decide) sh25 rfl rfl rfl (Nat.le_of_ble_eq_true rfl) dX2_readOperator_79 (fun σ_79 hR_79 hp_79 => ?_)
          refine hret 82 _ _ dX2_readOperator_82 hR_79 ?_
          unfold xrdor
          rw [← hp_8, zif_neg (by omega), ← hp_34]
          first
          | (rw [zif_pos (by assumption)]; assumption)
          | (rw [zif_neg (by assumption), ← hp_60, ← hp_64, zif_pos (by omega)]; assumption)
          | (rw [zif_neg (by assumption), ← hp_60, ← hp_64, zif_neg (by omega)]; assumption)
        · refine z_aload_nZ (pc := 70) C dX2_readOperator_70 rfl rfl ?_
          refine z_callVv (pc := 71) (rest := []) C (C_X2_endFrame E σ hR hI (by (try unfold zRg at *); (try simp only [IX] at *); omega)) vX2_104 (by decide) sh25 rfl rfl rfl (Nat.le_of_ble_eq_true rfl) dX2_readOperator_71 (fun σ_71 hR_71 hp_71 => ?_)
          refine z_goto (pc := 74) C 82 dX2_readOperator_74 rfl ?_
          refine hret 82 _ _ dX2_readOperator_82 hR_71 ?_
          unfold xrdor
          rw [← hp_8, zif_neg (by omega), ← hp_34]
          first
          | (rw [zif_pos (by assumption)]; assumption)
          | (rw [zif_neg (by assumption), ← hp_60, ← hp_64, zif_pos (by omega)]; assumption)
          | (rw [zif_neg (by assumption), ← hp_60, ← hp_64, zif_neg (by omega)]; assumption)
      · refine z_aload_nZ (pc := 43) C dX2_readOperator_43 rfl rfl ?_
        refine z_iconst (pc := 44) C dX2_readOperator_44 ?_
        refine z_aload_nZ (pc := 45) C dX2_readOperator_45 rfl rfl ?_
        refine z_getI (pc := 46) C fX2_64 sh25 rfl dX2_readOperator_46 ?_
        refine z_callVv (pc := 49) (rest := []) C (C_X2_fail E σ hR 2 (zRgL rfl) (σ 25 7) (hR 25 _)) vX2_101 (by decide) sh25 rfl rfl rfl (Nat.le_of_ble_eq_true rfl) dX2_readOperator_49 (fun σ_49 hR_49 hp_49 => ?_)
        refine z_goto (pc := 52) C 82 dX2_readOperator_52 rfl ?_
        refine hret 82 _ _ dX2_readOperator_82 hR_49 ?_
        unfold xrdor
        rw [← hp_8, zif_neg (by omega), ← hp_34]
        first
        | (rw [zif_pos (by assumption)]; assumption)
        | (rw [zif_neg (by assumption), ← hp_60, ← hp_64, zif_pos (by omega)]; assumption)
        | (rw [zif_neg (by assumption), ← hp_60, ← hp_64, zif_neg (by omega)]; assumption)
    · refine z_aload_nZ (pc := 23) C dX2_readOperator_23 rfl rfl ?_
      refine z_callVv (pc := 24) (rest := []) C (C_X2_endFrame E σ hR hI (by (try unfold zRg at *); (try simp only [IX] at *); omega)) vX2_104 (by decide) sh25 rfl rfl rfl (Nat.le_of_ble_eq_true rfl) dX2_readOperator_24 (fun σ_24 hR_24 hp_24 => ?_)
      refine hret 27 _ _ dX2_readOperator_27 hR_24 ?_
      unfold xrdor
      rw [← hp_8, zif_pos (by omega)]
      assumption
set_option maxRecDepth 20000 in
theorem C_X2_start (E : ZE) (σ : ZSt) (hR : zRs σ) (hI : IX σ) : ZMv E 1 yX2_start cX2_start 1 [zrf E 25] σ (fun σ' => σ' = xstart σ) := by
  refine ZMv.intro (by decide) rfl (Nat.le_of_ble_eq_true rfl) (fun Γ C hN hret => ?_)
  show ZG E Γ 0 [some (zrf E 25)] [] σ
  refine z_aload_nZ (pc := 0) C dX2_start_0 rfl rfl ?_
  refine z_getR (pc := 1) C fX2_25 sh25 rfl dX2_start_1 ?_
  refine z_callVv (pc := 4) (rest := []) C (C_X0_empty E σ hR 13 (Or.inr rfl)) vX2_56 (by decide) sh13 rfl rfl rfl (Nat.le_of_ble_eq_true rfl) dX2_start_4 (fun σ_4 hR_4 hp_4 => ?_)
  have hI_4 : IX σ_4 := by rw [hp_4]; exact hI.upNT (Or.inr rfl) (by decide)
  refine z_aload_nZ (pc := 7) C dX2_start_7 rfl rfl ?_
  refine z_iconst (pc := 8) C dX2_start_8 ?_
  refine z_putI (pc := 9) C hR_4 fX2_61 sh25 rfl (zRgL rfl) dX2_start_9 (fun σ_9 e_9 hR_9 => ?_)
  have hI_9 : IX σ_9 := by rw [e_9]; exact hI_4.upfr (by (try unfold zRg at *); (try simp only [IX] at *); omega)
  refine z_aload_nZ (pc := 12) C dX2_start_12 rfl rfl ?_
  refine z_iconst (pc := 13) C dX2_start_13 ?_
  refine z_putI (pc := 14) C hR_9 fX2_64 sh25 rfl (zRgL rfl) dX2_start_14 (fun σ_14 e_14 hR_14 => ?_)
  have hI_14 : IX σ_14 := by rw [e_14]; exact hI_9.upF (by decide)
  refine z_aload_nZ (pc := 17) C dX2_start_17 rfl rfl ?_
  refine z_iconst (pc := 18) C dX2_start_18 ?_
  refine z_putZ (pc := 19) C hR_14 fX2_47 sh25 rfl (Or.inr rfl) dX2_start_19 (fun σ_19 e_19 hR_19 => ?_)
  have hI_19 : IX σ_19 := by rw [e_19]; exact hI_14.upF (by decide)
  refine z_aload_nZ (pc := 22) C dX2_start_22 rfl rfl ?_
  refine z_iconst (pc := 23) C dX2_start_23 ?_
  refine z_putI (pc := 24) C hR_19 fX2_67 sh25 rfl (zRgL rfl) dX2_start_24 (fun σ_24 e_24 hR_24 => ?_)
  have hI_24 : IX σ_24 := by rw [e_24]; exact hI_19.upF (by decide)
  refine z_aload_nZ (pc := 27) C dX2_start_27 rfl rfl ?_
  refine z_iconst (pc := 28) C dX2_start_28 ?_
  refine z_putZ (pc := 29) C hR_24 fX2_70 sh25 rfl (Or.inl rfl) dX2_start_29 (fun σ_29 e_29 hR_29 => ?_)
  have hI_29 : IX σ_29 := by rw [e_29]; exact hI_24.upF (by decide)
  refine z_aload_nZ (pc := 32) C dX2_start_32 rfl rfl ?_
  refine z_iconst (pc := 33) C dX2_start_33 ?_
  refine z_putZ (pc := 34) C hR_29 fX2_43 sh25 rfl (Or.inl rfl) dX2_start_34 (fun σ_34 e_34 hR_34 => ?_)
  have hI_34 : IX σ_34 := by rw [e_34]; exact hI_29.upF (by decide)
  refine z_aload_nZ (pc := 37) C dX2_start_37 rfl rfl ?_
  refine z_bipush (pc := 38) C dX2_start_38 (by decide) ?_
  refine z_putI (pc := 40) C hR_34 fX2_33 sh25 rfl (zRgL rfl) dX2_start_40 (fun σ_40 e_40 hR_40 => ?_)
  have hI_40 : IX σ_40 := by rw [e_40]; exact hI_34.upF (by decide)
  refine z_aload_nZ (pc := 43) C dX2_start_43 rfl rfl ?_
  refine z_bipush (pc := 44) C dX2_start_44 (by decide) ?_
  refine z_putI (pc := 46) C hR_40 fX2_37 sh25 rfl (zRgL rfl) dX2_start_46 (fun σ_46 e_46 hR_46 => ?_)
  have hI_46 : IX σ_46 := by rw [e_46]; exact hI_40.upF (by decide)
  refine hret 49 _ _ dX2_start_49 hR_46 ?_
  subst_vars; rfl
theorem xstart_IX {σ : ZSt} (hI : IX σ) : IX (xstart σ) := ((((((((hI.upNT (Or.inr rfl) (by decide)).upfr (by decide)).upF (by decide)).upF (by decide)).upF (by decide)).upF (by decide)).upF (by decide)).upF (by decide)).upF (by decide)
theorem xrun_st {i : Int} {τ : ZSt} (h : i < 242) : xrun (242 - i).toNat τ = zif (τ 25 11 = 0) (xrun (242 - (i + 1)).toNat (xstep τ)) τ := by
  rw [show (242 - i).toNat = (242 - (i + 1)).toNat + 1 by omega]
  rfl
theorem xpos_fail (σ : ZSt) (a b : Int) : xfail σ a b 25 7 = σ 25 7 := rfl
theorem xpos_take (σ : ZSt) (a : Int) : xtake σ a 25 7 = σ 25 7 := rfl
theorem xpos_nadd (σ : ZSt) (o l b a : Int) : xnadd σ 13 o l b a 25 7 = σ 25 7 := by rw [xnadd_row (by decide)]
theorem xstep_pos (σ : ZSt) : xstep σ 25 7 = σ 25 7 ∨ xstep σ 25 7 = σ 25 7 + 1 := by
  have ef : xendf σ 25 7 = σ 25 7 ∨ xendf σ 25 7 = σ 25 7 + 1 := by
    unfold xendf
    by_cases ht : xtop σ = -1
    · rw [zif_pos ht]
      unfold xendt
      left
      by_cases hc : xat σ 23 (σ 25 7) = 41
      · rw [zif_pos hc]; rfl
      · rw [zif_neg hc]; rfl
    · rw [zif_neg ht]
      by_cases hb : σ 26 (xtop σ).toNat = -1
      · rw [zif_pos hb]
        unfold xendb
        by_cases hc : xat σ 23 (σ 25 7) = 41
        · rw [zif_pos hc]; right; rfl
        · rw [zif_neg hc]; left; rfl
      · rw [zif_neg hb]
        unfold xcomplete
        left
        by_cases hc : xfu σ (σ 26 (xtop σ).toNat)
        · rw [zif_pos hc]; rfl
        · rw [zif_neg hc, xpos_take, xpos_nadd]; rfl
  unfold xstep
  by_cases h8 : σ 25 8 = 0
  · rw [zif_pos h8]
    unfold xrdor
    by_cases h1 : xat σ 23 (σ 25 7) = -1 ∨ xat σ 23 (σ 25 7) = 41
    · rw [zif_pos h1]; exact ef
    · rw [zif_neg h1]
      by_cases h2 : xfind σ (xat σ 23 (σ 25 7)) 0 = -1
      · rw [zif_pos h2]; left; rfl
      · rw [zif_neg h2]
        by_cases h3 : xlev σ (xfind σ (xat σ 23 (σ 25 7)) 0) < xfmin σ
        · rw [zif_pos h3]; exact ef
        · rw [zif_neg h3]
          unfold xjoin
          generalize xfind σ (xat σ 23 (σ 25 7)) 0 = o
          by_cases h4 : σ 25 10 = 0 ∧ xna σ o (xnop σ 13 (σ 25 9))
          · rw [zif_pos h4]; left; rfl
          · rw [zif_neg h4]
            by_cases h5 : xfu σ o
            · rw [zif_pos h5]; left; rfl
            · rw [zif_neg h5]
              right
              by_cases h6 : xkind σ o = 2
              · rw [zif_pos h6, xpos_take, xpos_nadd, zup_same]
              · rw [zif_neg h6]; rfl
  · rw [zif_neg h8]
    unfold xrdop
    by_cases h1 : 97 ≤ xat σ 23 (σ 25 7) ∧ xat σ 23 (σ 25 7) ≤ 122
    · rw [zif_pos h1, xpos_take, xpos_nadd, zup_same]; right; rfl
    · rw [zif_neg h1]
      by_cases h2 : xat σ 23 (σ 25 7) = 40 ∨ xfind σ (xat σ 23 (σ 25 7)) 1 ≠ -1
      · rw [zif_pos h2]; right; rfl
      · rw [zif_neg h2]; left; rfl
set_option maxRecDepth 20000 in
theorem C_X2_reads (E : ZE) (σ : ZSt) (hR : zRs σ) (hI : IX σ) : ZMi E 6 yX2_reads cX2_reads 2 (some .boolean) [zrf E 25] σ (fun r σ' => r = zb (xreadOk (xreads σ)) ∧ σ' = xreads σ) := by
  refine ZMi.introZ (by decide) rfl (Nat.le_of_ble_eq_true rfl) (fun Γ C hN hret => ?_)
  show ZG E Γ 0 [some (zrf E 25), none] [] σ
  refine z_aload_nZ (pc := 0) C dX2_reads_0 rfl rfl ?_
  refine z_callVv (pc := 1) (rest := []) C (C_X2_start E σ hR hI) vX2_40 (by decide) sh25 rfl rfl rfl (Nat.le_of_ble_eq_true rfl) dX2_reads_1 (fun σ_1 hR_1 hp_1 => ?_)
  refine z_iconst (pc := 4) C dX2_reads_4 ?_
  refine z_istore_n (pc := 5) (lv' := [some (zrf E 25), some (ziv 0)]) C hN dX2_reads_5 rfl (by decide) rfl ?_
  have L6 : ∀ (n : Nat) (i : Int) (τ : ZSt), zRg i → 0 ≤ i ∧ i ≤ 242 → 0 ≤ τ 25 7 ∧ τ 25 7 ≤ i → xreads σ = xrun (242 - i).toNat τ → zRs τ → IX τ → (242 - i).toNat < n → ZG E Γ 6 [some (zrf E 25), some (ziv i)] [] τ := by
    intro n
    induction n with
    | zero => intro i τ hi h0 hpos ht hRt hIt hm; exact absurd hm (by omega)
    | succ n ih =>
      intro i τ hi h0 hpos ht hRt hIt hm
      refine z_iload_n (pc := 6) C dX2_reads_6 rfl rfl ?_
      refine z_sipush (pc := 7) C dX2_reads_7 (by decide) ?_
      refine z_icmp_ge (pc := 10) C 44 hi (zRgL rfl) dX2_reads_10 rfl (fun c_10 => ?_) (fun c_10 => ?_)
      · refine z_aload_nZ (pc := 44) C dX2_reads_44 rfl rfl ?_
        refine z_getI (pc := 45) C fX2_43 sh25 rfl dX2_reads_45 ?_
        refine z_if_eq (pc := 48) C 64 (hRt 25 _) dX2_reads_48 rfl (fun c_48 => ?_) (fun c_48 => ?_)
        · refine z_iconst (pc := 64) C dX2_reads_64 ?_
          refine hret 65 _ _ _ dX2_reads_65 (Or.inl rfl) hRt ?_
          have e8 : xreads σ = τ := by rw [ht]; first | exact xrun_done (by assumption) _ | (rw [show (242 - i).toNat = 0 by omega]; rfl)
          rw [e8]
          refine ⟨?_, rfl⟩
          first | exact zb_one ⟨by assumption, by assumption⟩ | exact zb_zero (fun w => by first | exact absurd (by assumption) w.1 | exact absurd w.2 (by assumption))
        · refine z_aload_nZ (pc := 51) C dX2_reads_51 rfl rfl ?_
          refine z_getI (pc := 52) C fX2_33 sh25 rfl dX2_reads_52 ?_
          refine z_bipush (pc := 55) C dX2_reads_55 (by decide) ?_
          refine z_icmp_ne (pc := 57) C 64 (hRt 25 _) (zRgL rfl) dX2_reads_57 rfl (fun c_57 => ?_) (fun c_57 => ?_)
          · refine z_iconst (pc := 64) C dX2_reads_64 ?_
            refine hret 65 _ _ _ dX2_reads_65 (Or.inl rfl) hRt ?_
            have e8 : xreads σ = τ := by rw [ht]; first | exact xrun_done (by assumption) _ | (rw [show (242 - i).toNat = 0 by omega]; rfl)
            rw [e8]
            refine ⟨?_, rfl⟩
            first | exact zb_one ⟨by assumption, by assumption⟩ | exact zb_zero (fun w => by first | exact absurd (by assumption) w.1 | exact absurd w.2 (by assumption))
          · refine z_iconst (pc := 60) C dX2_reads_60 ?_
            refine z_goto (pc := 61) C 65 dX2_reads_61 rfl ?_
            refine hret 65 _ _ _ dX2_reads_65 (Or.inr rfl) hRt ?_
            have e8 : xreads σ = τ := by rw [ht]; first | exact xrun_done (by assumption) _ | (rw [show (242 - i).toNat = 0 by omega]; rfl)
            rw [e8]
            refine ⟨?_, rfl⟩
            first | exact zb_one ⟨by assumption, by assumption⟩ | exact zb_zero (fun w => by first | exact absurd (by assumption) w.1 | exact absurd w.2 (by assumption))
      · refine z_aload_nZ (pc := 13) C dX2_reads_13 rfl rfl ?_
        refine z_getI (pc := 14) C fX2_43 sh25 rfl dX2_reads_14 ?_
        refine z_if_ne (pc := 17) C 44 (hRt 25 _) dX2_reads_17 rfl (fun c_17 => ?_) (fun c_17 => ?_)
        · refine z_aload_nZ (pc := 44) C dX2_reads_44 rfl rfl ?_
          refine z_getI (pc := 45) C fX2_43 sh25 rfl dX2_reads_45 ?_
          refine z_if_eq (pc := 48) C 64 (hRt 25 _) dX2_reads_48 rfl (fun c_48 => ?_) (fun c_48 => ?_)
          · refine z_iconst (pc := 64) C dX2_reads_64 ?_
            refine hret 65 _ _ _ dX2_reads_65 (Or.inl rfl) hRt ?_
            have e8 : xreads σ = τ := by rw [ht]; first | exact xrun_done (by assumption) _ | (rw [show (242 - i).toNat = 0 by omega]; rfl)
            rw [e8]
            refine ⟨?_, rfl⟩
            first | exact zb_one ⟨by assumption, by assumption⟩ | exact zb_zero (fun w => by first | exact absurd (by assumption) w.1 | exact absurd w.2 (by assumption))
          · refine z_aload_nZ (pc := 51) C dX2_reads_51 rfl rfl ?_
            refine z_getI (pc := 52) C fX2_33 sh25 rfl dX2_reads_52 ?_
            refine z_bipush (pc := 55) C dX2_reads_55 (by decide) ?_
            refine z_icmp_ne (pc := 57) C 64 (hRt 25 _) (zRgL rfl) dX2_reads_57 rfl (fun c_57 => ?_) (fun c_57 => ?_)
            · refine z_iconst (pc := 64) C dX2_reads_64 ?_
              refine hret 65 _ _ _ dX2_reads_65 (Or.inl rfl) hRt ?_
              have e8 : xreads σ = τ := by rw [ht]; first | exact xrun_done (by assumption) _ | (rw [show (242 - i).toNat = 0 by omega]; rfl)
              rw [e8]
              refine ⟨?_, rfl⟩
              first | exact zb_one ⟨by assumption, by assumption⟩ | exact zb_zero (fun w => by first | exact absurd (by assumption) w.1 | exact absurd w.2 (by assumption))
            · refine z_iconst (pc := 60) C dX2_reads_60 ?_
              refine z_goto (pc := 61) C 65 dX2_reads_61 rfl ?_
              refine hret 65 _ _ _ dX2_reads_65 (Or.inr rfl) hRt ?_
              have e8 : xreads σ = τ := by rw [ht]; first | exact xrun_done (by assumption) _ | (rw [show (242 - i).toNat = 0 by omega]; rfl)
              rw [e8]
              refine ⟨?_, rfl⟩
              first | exact zb_one ⟨by assumption, by assumption⟩ | exact zb_zero (fun w => by first | exact absurd (by assumption) w.1 | exact absurd w.2 (by assumption))
        · refine z_aload_nZ (pc := 20) C dX2_reads_20 rfl rfl ?_
          refine z_getI (pc := 21) C fX2_47 sh25 rfl dX2_reads_21 ?_
          refine z_if_eq (pc := 24) C 34 (hRt 25 _) dX2_reads_24 rfl (fun c_24 => ?_) (fun c_24 => ?_)
          · refine z_aload_nZ (pc := 34) C dX2_reads_34 rfl rfl ?_
            refine z_callVv (pc := 35) (rest := []) C (C_X2_readOperator E τ hRt hIt (by (try unfold zRg at *); (try simp only [IX] at *); omega)) vX2_53 (by decide) sh25 rfl rfl rfl (Nat.le_of_ble_eq_true rfl) dX2_reads_35 (fun σ_35 hR_35 hp_35 => ?_)
            refine z_iinc (pc := 38) (lv' := [some (zrf E 25), some (ziv (i + 1))]) C hN dX2_reads_38 (by decide) rfl rfl ?_
            refine z_goto (pc := 41) C 6 dX2_reads_41 rfl ?_
            have e9 : σ_35 = xstep τ := by unfold xstep; first | (rw [zif_neg (by assumption)]; assumption) | (rw [zif_pos (by assumption)]; assumption)
            exact ih _ _ (by (try unfold zRg at *); (try simp only [IX] at *); omega) (by omega) (by rw [e9]; have := xstep_pos τ; omega) (by rw [ht, xrun_st (by omega), zif_pos (by assumption), e9]) hR_35 (by rw [e9]; exact hIt.xstep) (by omega)
          · refine z_aload_nZ (pc := 27) C dX2_reads_27 rfl rfl ?_
            refine z_callVv (pc := 28) (rest := []) C (C_X2_readOperand E τ hRt hIt (by (try unfold zRg at *); (try simp only [IX] at *); omega)) vX2_50 (by decide) sh25 rfl rfl rfl (Nat.le_of_ble_eq_true rfl) dX2_reads_28 (fun σ_28 hR_28 hp_28 => ?_)
            refine z_goto (pc := 31) C 38 dX2_reads_31 rfl ?_
            refine z_iinc (pc := 38) (lv' := [some (zrf E 25), some (ziv (i + 1))]) C hN dX2_reads_38 (by decide) rfl rfl ?_
            refine z_goto (pc := 41) C 6 dX2_reads_41 rfl ?_
            have e9 : σ_28 = xstep τ := by unfold xstep; first | (rw [zif_neg (by assumption)]; assumption) | (rw [zif_pos (by assumption)]; assumption)
            exact ih _ _ (by (try unfold zRg at *); (try simp only [IX] at *); omega) (by omega) (by rw [e9]; have := xstep_pos τ; omega) (by rw [ht, xrun_st (by omega), zif_pos (by assumption), e9]) hR_28 (by rw [e9]; exact hIt.xstep) (by omega)
  exact L6 _ 0 σ_1 (zRgL rfl) (by omega) (by rw [hp_1]; exact ⟨Int.le_refl 0, Int.le_refl 0⟩) (by rw [hp_1]; rfl) hR_1 (by rw [hp_1]; exact xstart_IX hI) (Nat.lt_succ_self _)
