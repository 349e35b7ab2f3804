set_option maxRecDepth 20000 in
theorem C_X6_in (E : ZE) (σ : ZSt) (hR : zRs σ) (a : Int) (ha : zRg a) (b : Int) (hb : zRg b) (c : Int) (hc : zRg c) : ZMi E 0 yX6_in cX6_in 3 (some .boolean) [ziv a, ziv b, ziv c] σ (fun r σ' => (r = zb (b ≤ a ∧ a ≤ c)) ∧ σ' = σ) := by
  refine ZMi.introZ (by decide) rfl (Nat.le_of_ble_eq_true rfl) (fun Γ C hN hret => ?_)
  show ZG E Γ 0 [some (ziv a), some (ziv b), some (ziv c)] [] σ
  refine z_iload_n (pc := 0) C dX6_in_0 rfl rfl ?_
  refine z_iload_n (pc := 1) C dX6_in_1 rfl rfl ?_
  refine z_icmp_lt (pc := 2) C 14 ha hb dX6_in_2 rfl (fun c_2 => ?_) (fun c_2 => ?_)
  · refine z_iconst (pc := 14) C dX6_in_14 ?_
    refine hret 15 _ _ _ dX6_in_15 (Or.inl rfl) hR ?_
    exact ⟨zb_zero (by (try simp only [IX, IM] at *); (first | omega | simp_all | grind)), rfl⟩
  · refine z_iload_n (pc := 5) C dX6_in_5 rfl rfl ?_
    refine z_iload_n (pc := 6) C dX6_in_6 rfl rfl ?_
    refine z_icmp_gt (pc := 7) C 14 ha hc dX6_in_7 rfl (fun c_7 => ?_) (fun c_7 => ?_)
    · refine z_iconst (pc := 14) C dX6_in_14 ?_
      refine hret 15 _ _ _ dX6_in_15 (Or.inl rfl) hR ?_
      exact ⟨zb_zero (by (try simp only [IX, IM] at *); (first | omega | simp_all | grind)), rfl⟩
    · refine z_iconst (pc := 10) C dX6_in_10 ?_
      refine z_goto (pc := 11) C 15 dX6_in_11 rfl ?_
      refine hret 15 _ _ _ dX6_in_15 (Or.inr rfl) hR ?_
      exact ⟨zb_one (by (try simp only [IX, IM] at *); (first | omega | simp_all | grind)), rfl⟩
set_option maxRecDepth 20000 in
theorem C_X6_isOperator (E : ZE) (σ : ZSt) (hR : zRs σ) (a : Int) (ha : zRg a) (hI : IM σ) : ZMi E 1 yX6_isOperator cX6_isOperator 2 (some .boolean) [zrf E 31, ziv a] σ (fun r σ' => (r = zb (0 ≤ a ∧ a < σ 31 3)) ∧ σ' = σ) := by
  refine ZMi.introZ (by decide) rfl (Nat.le_of_ble_eq_true rfl) (fun Γ C hN hret => ?_)
  show ZG E Γ 0 [some (zrf E 31), some (ziv a)] [] σ
  refine z_iload_n (pc := 0) C dX6_isOperator_0 rfl rfl ?_
  refine z_iconst (pc := 1) C dX6_isOperator_1 ?_
  refine z_aload_nZ (pc := 2) C dX6_isOperator_2 rfl rfl ?_
  refine z_getI (pc := 3) C fX6_87 sh31 rfl dX6_isOperator_3 ?_
  refine z_iconst (pc := 6) C dX6_isOperator_6 ?_
  refine z_isub (pc := 7) C dX6_isOperator_7 ?_
  refine z_callSp (pc := 8) (rest := []) C (C_X6_in E σ hR a ha 0 (zRgL rfl) ((σ 31 3) - 1) (by (try unfold zRg at *); (try simp only [IX, IM] at *); omega)) vX6_90 (by decide) rfl rfl (Nat.le_of_ble_eq_true rfl) dX6_isOperator_8 (fun r_8 g_8 hp_8 => ?_)
  refine hret 11 _ _ _ dX6_isOperator_11 (zb01 hp_8) hR ?_
  exact ⟨by rw [hp_8]; exact zb_iff (by omega), rfl⟩
set_option maxRecDepth 20000 in
theorem C_X6_isNode (E : ZE) (σ : ZSt) (hR : zRs σ) (a : Int) (ha : zRg a) (hI : IM σ) : ZMi E 1 yX6_isNode cX6_isNode 2 (some .boolean) [zrf E 31, ziv a] σ (fun r σ' => (r = zb (0 ≤ a ∧ a < σ 31 11)) ∧ σ' = σ) := by
  refine ZMi.introZ (by decide) rfl (Nat.le_of_ble_eq_true rfl) (fun Γ C hN hret => ?_)
  show ZG E Γ 0 [some (zrf E 31), some (ziv a)] [] σ
  refine z_iload_n (pc := 0) C dX6_isNode_0 rfl rfl ?_
  refine z_iconst (pc := 1) C dX6_isNode_1 ?_
  refine z_aload_nZ (pc := 2) C dX6_isNode_2 rfl rfl ?_
  refine z_getI (pc := 3) C fX6_94 sh31 rfl dX6_isNode_3 ?_
  refine z_iconst (pc := 6) C dX6_isNode_6 ?_
  refine z_isub (pc := 7) C dX6_isNode_7 ?_
  refine z_callSp (pc := 8) (rest := []) C (C_X6_in E σ hR a ha 0 (zRgL rfl) ((σ 31 11) - 1) (by (try unfold zRg at *); (try simp only [IX, IM] at *); omega)) vX6_90 (by decide) rfl rfl (Nat.le_of_ble_eq_true rfl) dX6_isNode_8 (fun r_8 g_8 hp_8 => ?_)
  refine hret 11 _ _ _ dX6_isNode_11 (zb01 hp_8) hR ?_
  exact ⟨by rw [hp_8]; exact zb_iff (by omega), rfl⟩
set_option maxRecDepth 20000 in
theorem C_X6_isLetter (E : ZE) (σ : ZSt) (hR : zRs σ) (a : Int) (ha : zRg a) : ZMi E 1 yX6_isLetter cX6_isLetter 1 (some .boolean) [ziv a] σ (fun r σ' => (r = zb (97 ≤ a ∧ a ≤ 122)) ∧ σ' = σ) := by
  refine ZMi.introZ (by decide) rfl (Nat.le_of_ble_eq_true rfl) (fun Γ C hN hret => ?_)
  show ZG E Γ 0 [some (ziv a)] [] σ
  refine z_iload_n (pc := 0) C dX6_isLetter_0 rfl rfl ?_
  refine z_bipush (pc := 1) C dX6_isLetter_1 (by decide) ?_
  refine z_bipush (pc := 3) C dX6_isLetter_3 (by decide) ?_
  refine z_callSp (pc := 5) (rest := []) C (C_X6_in E σ hR a ha 97 (zRgL rfl) 122 (zRgL rfl)) vX6_90 (by decide) rfl rfl (Nat.le_of_ble_eq_true rfl) dX6_isLetter_5 (fun r_5 g_5 hp_5 => ?_)
  refine hret 8 _ _ _ dX6_isLetter_8 (zb01 hp_5) hR ?_
  exact ⟨hp_5, rfl⟩
set_option maxRecDepth 20000 in
theorem C_X6_operatorFor (E : ZE) (σ : ZSt) (hR : zRs σ) (a : Int) (ha : zRg a) (b : Int) (hb : b = 0 ∨ b = 1) (hI : IM σ) : ZMi E 0 yX6_operatorFor cX6_operatorFor 4 (some .int) [zrf E 31, ziv a, ziv b] σ (fun r σ' => (r = zd (mfind σ a b)) ∧ σ' = σ) := by
  refine ZMi.intro (by decide) rfl (Nat.le_of_ble_eq_true rfl) (fun Γ C hN hret => ?_)
  show ZG E Γ 0 [some (zrf E 31), some (ziv a), some (ziv b), none] [] σ
  refine z_iconst (pc := 0) C dX6_operatorFor_0 ?_
  refine z_istore_n (pc := 1) (lv' := [some (zrf E 31), some (ziv a), some (ziv b), some (ziv 0)]) C hN dX6_operatorFor_1 rfl (by decide) rfl ?_
  have L2 : ∀ (n : Nat) (i : Int), zRg i → 0 ≤ i ∧ i ≤ σ 31 3 → mfind σ a b = zfnd (σ 32) (σ 33) a b i.toNat (σ 31 3 - i).toNat → (σ 31 3 - i).toNat < n → ZG E Γ 2 [some (zrf E 31), some (ziv a), some (ziv b), some (ziv i)] [] σ := by
    intro n
    induction n with
    | zero => intro i hi h0 hf hm; exact absurd hm (by omega)
    | succ n ih =>
      intro i hi h0 hf hm
      refine z_iload_n (pc := 2) C dX6_operatorFor_2 rfl rfl ?_
      refine z_aload_nZ (pc := 3) C dX6_operatorFor_3 rfl rfl ?_
      refine z_getI (pc := 4) C fX6_87 sh31 rfl dX6_operatorFor_4 ?_
      refine z_icmp_ge (pc := 7) C 47 hi (hR 31 _) dX6_operatorFor_7 rfl (fun c_7 => ?_) (fun c_7 => ?_)
      · refine z_bipush (pc := 47) C dX6_operatorFor_47 (by decide) ?_
        refine hret 49 _ _ _ dX6_operatorFor_49 (zRgL rfl) hR ?_
        exact ⟨by rw [hf, show (σ 31 3 - i).toNat = 0 by omega]; rfl, rfl⟩
      · refine z_aload_nZ (pc := 10) C dX6_operatorFor_10 rfl rfl ?_
        refine z_getR (pc := 11) C fX6_7 sh31 rfl dX6_operatorFor_11 ?_
        refine z_iload_n (pc := 14) C dX6_operatorFor_14 rfl rfl ?_
        refine z_iald (pc := 15) C sh32 (by (try unfold zRg at *); (try simp only [IX, IM] at *); omega) (by (try unfold zRg at *); (try simp only [IX, IM] at *); omega) dX6_operatorFor_15 ?_
        refine z_iload_n (pc := 16) C dX6_operatorFor_16 rfl rfl ?_
        refine z_icmp_ne (pc := 17) C 41 (hR 32 _) ha dX6_operatorFor_17 rfl (fun c_17 => ?_) (fun c_17 => ?_)
        · refine z_iinc (pc := 41) (lv' := [some (zrf E 31), some (ziv a), some (ziv b), some (ziv (i + 1))]) C hN dX6_operatorFor_41 (by decide) rfl rfl ?_
          refine z_goto (pc := 44) C 2 dX6_operatorFor_44 rfl ?_
          exact ih _ (by (try unfold zRg at *); (try simp only [IX, IM] at *); omega) (by omega) (by rw [hf, zfnd_st (by omega)]; first | (rw [if_neg (by simp_all)]; done) | grind) (by omega)
        · refine z_aload_nZ (pc := 20) C dX6_operatorFor_20 rfl rfl ?_
          refine z_getR (pc := 21) C fX6_13 sh31 rfl dX6_operatorFor_21 ?_
          refine z_iload_n (pc := 24) C dX6_operatorFor_24 rfl rfl ?_
          refine z_iald (pc := 25) C sh33 (by (try unfold zRg at *); (try simp only [IX, IM] at *); omega) (by (try unfold zRg at *); (try simp only [IX, IM] at *); omega) dX6_operatorFor_25 ?_
          refine z_iconst (pc := 26) C dX6_operatorFor_26 ?_
          refine z_icmp_ne (pc := 27) C 34 (hR 33 _) (zRgL rfl) dX6_operatorFor_27 rfl (fun c_27 => ?_) (fun c_27 => ?_)
          · refine z_iconst (pc := 34) C dX6_operatorFor_34 ?_
            refine z_iload_n (pc := 35) C dX6_operatorFor_35 rfl rfl ?_
            refine z_icmp_ne (pc := 36) C 41 (zRgL rfl) (zRg01 hb) dX6_operatorFor_36 rfl (fun c_36 => ?_) (fun c_36 => ?_)
            · refine z_iinc (pc := 41) (lv' := [some (zrf E 31), some (ziv a), some (ziv b), some (ziv (i + 1))]) C hN dX6_operatorFor_41 (by decide) rfl rfl ?_
              refine z_goto (pc := 44) C 2 dX6_operatorFor_44 rfl ?_
              exact ih _ (by (try unfold zRg at *); (try simp only [IX, IM] at *); omega) (by omega) (by rw [hf, zfnd_st (by omega)]; first | (rw [if_neg (by simp_all)]; done) | grind) (by omega)
            · refine z_iload_n (pc := 39) C dX6_operatorFor_39 rfl rfl ?_
              refine hret 40 _ _ _ dX6_operatorFor_40 hi hR ?_
              exact ⟨by rw [hf, zfnd_st (by omega), if_pos (by simp_all)]; unfold zd; rw [if_neg (by omega)], rfl⟩
          · refine z_iconst (pc := 30) C dX6_operatorFor_30 ?_
            refine z_goto (pc := 31) C 35 dX6_operatorFor_31 rfl ?_
            refine z_iload_n (pc := 35) C dX6_operatorFor_35 rfl rfl ?_
            refine z_icmp_ne (pc := 36) C 41 (zRgL rfl) (zRg01 hb) dX6_operatorFor_36 rfl (fun c_36 => ?_) (fun c_36 => ?_)
            · refine z_iinc (pc := 41) (lv' := [some (zrf E 31), some (ziv a), some (ziv b), some (ziv (i + 1))]) C hN dX6_operatorFor_41 (by decide) rfl rfl ?_
              refine z_goto (pc := 44) C 2 dX6_operatorFor_44 rfl ?_
              exact ih _ (by (try unfold zRg at *); (try simp only [IX, IM] at *); omega) (by omega) (by rw [hf, zfnd_st (by omega)]; first | (rw [if_neg (by simp_all)]; done) | grind) (by omega)
            · refine z_iload_n (pc := 39) C dX6_operatorFor_39 rfl rfl ?_
              refine hret 40 _ _ _ dX6_operatorFor_40 hi hR ?_
              exact ⟨by rw [hf, zfnd_st (by omega), if_pos (by simp_all)]; unfold zd; rw [if_neg (by omega)], rfl⟩
  exact L2 _ 0 (zRgL rfl) (by have := hI.ops; omega) (by simp [mfind]) (Nat.lt_succ_self _)
set_option maxRecDepth 20000 in
theorem C_X6_define (E : ZE) (σ : ZSt) (hR : zRs σ) (a : Int) (ha : zRg a) (b : Int) (hb : zRg b) (c : Int) (hc : zRg c) (hI : IM σ) : ZMi E 2 yX6_define cX6_define 4 (some .int) [zrf E 31, ziv a, ziv b, ziv c] σ (fun r σ' => r = (mdefine σ a b c).1 ∧ σ' = (mdefine σ a b c).2) := by
  refine ZMi.intro (by decide) rfl (Nat.le_of_ble_eq_true rfl) (fun Γ C hN hret => ?_)
  show ZG E Γ 0 [some (zrf E 31), some (ziv a), some (ziv b), some (ziv c)] [] σ
  refine z_iload_n (pc := 0) C dX6_define_0 rfl rfl ?_
  refine z_bipush (pc := 1) C dX6_define_1 (by decide) ?_
  refine z_bipush (pc := 3) C dX6_define_3 (by decide) ?_
  refine z_callSp (pc := 5) (rest := []) C (C_X6_in E σ hR a ha 33 (zRgL rfl) 126 (zRgL rfl)) vX6_90 (by decide) rfl rfl (Nat.le_of_ble_eq_true rfl) dX6_define_5 (fun r_5 g_5 hp_5 => ?_)
  refine z_if_eq (pc := 8) C 30 g_5 dX6_define_8 rfl (fun c_8 => ?_) (fun c_8 => ?_)
  · have c_8 := zb0 hp_5 c_8
    refine z_bipush (pc := 30) C dX6_define_30 (by decide) ?_
    refine hret 32 _ _ _ dX6_define_32 (zRgL rfl) hR ?_
    unfold mdefine; rw [if_pos (by unfold xcan; omega)]; exact ⟨rfl, rfl⟩
  · have c_8 := zb1 hp_5 c_8
    refine z_iload_n (pc := 11) C dX6_define_11 rfl rfl ?_
    refine z_callSp (pc := 12) (rest := []) C (C_X6_isLetter E σ hR a ha) vX6_97 (by decide) rfl rfl (Nat.le_of_ble_eq_true rfl) dX6_define_12 (fun r_12 g_12 hp_12 => ?_)
    refine z_if_ne (pc := 15) C 30 g_12 dX6_define_15 rfl (fun c_15 => ?_) (fun c_15 => ?_)
    · have c_15 := zb1 hp_12 c_15
      refine z_bipush (pc := 30) C dX6_define_30 (by decide) ?_
      refine hret 32 _ _ _ dX6_define_32 (zRgL rfl) hR ?_
      unfold mdefine; rw [if_pos (by unfold xcan; omega)]; exact ⟨rfl, rfl⟩
    · have c_15 := zb0 hp_12 c_15
      refine z_iload_n (pc := 18) C dX6_define_18 rfl rfl ?_
      refine z_bipush (pc := 19) C dX6_define_19 (by decide) ?_
      refine z_icmp_eq (pc := 21) C 30 ha (zRgL rfl) dX6_define_21 rfl (fun c_21 => ?_) (fun c_21 => ?_)
      · refine z_bipush (pc := 30) C dX6_define_30 (by decide) ?_
        refine hret 32 _ _ _ dX6_define_32 (zRgL rfl) hR ?_
        unfold mdefine; rw [if_pos (by unfold xcan; omega)]; exact ⟨rfl, rfl⟩
      · refine z_iload_n (pc := 24) C dX6_define_24 rfl rfl ?_
        refine z_bipush (pc := 25) C dX6_define_25 (by decide) ?_
        refine z_icmp_ne (pc := 27) C 33 ha (zRgL rfl) dX6_define_27 rfl (fun c_27 => ?_) (fun c_27 => ?_)
        · refine z_iload_n (pc := 33) C dX6_define_33 rfl rfl ?_
          refine z_iconst (pc := 34) C dX6_define_34 ?_
          refine z_bipush (pc := 35) C dX6_define_35 (by decide) ?_
          refine z_callSp (pc := 37) (rest := []) C (C_X6_in E σ hR c hc 1 (zRgL rfl) 9 (zRgL rfl)) vX6_90 (by decide) rfl rfl (Nat.le_of_ble_eq_true rfl) dX6_define_37 (fun r_37 g_37 hp_37 => ?_)
          refine z_if_ne (pc := 40) C 46 g_37 dX6_define_40 rfl (fun c_40 => ?_) (fun c_40 => ?_)
          · have c_40 := zb1 hp_37 c_40
            refine z_aload_nZ (pc := 46) C dX6_define_46 rfl rfl ?_
            refine z_iload_n (pc := 47) C dX6_define_47 rfl rfl ?_
            refine z_iload_n (pc := 48) C dX6_define_48 rfl rfl ?_
            refine z_iconst (pc := 49) C dX6_define_49 ?_
            refine z_icmp_ne (pc := 50) C 57 hb (zRgL rfl) dX6_define_50 rfl (fun c_50 => ?_) (fun c_50 => ?_)
            · refine z_iconst (pc := 57) C dX6_define_57 ?_
              refine z_callVp (pc := 58) (rest := []) C (C_X6_operatorFor E σ hR a ha 0 (Or.inl rfl) hI) vX6_101 (by decide) sh31 rfl rfl rfl (Nat.le_of_ble_eq_true rfl) dX6_define_58 (fun r_58 g_58 hp_58 => ?_)
              refine z_if_lt (pc := 61) C 67 g_58 dX6_define_61 rfl (fun c_61 => ?_) (fun c_61 => ?_)
              · refine z_aload_nZ (pc := 67) C dX6_define_67 rfl rfl ?_
                refine z_getI (pc := 68) C fX6_87 sh31 rfl dX6_define_68 ?_
                refine z_bipush (pc := 71) C dX6_define_71 (by decide) ?_
                refine z_icmp_ne (pc := 73) C 79 (hR 31 _) (zRgL rfl) dX6_define_73 rfl (fun c_73 => ?_) (fun c_73 => ?_)
                · refine z_aload_nZ (pc := 79) C dX6_define_79 rfl rfl ?_
                  refine z_getR (pc := 80) C fX6_7 sh31 rfl dX6_define_80 ?_
                  refine z_aload_nZ (pc := 83) C dX6_define_83 rfl rfl ?_
                  refine z_getI (pc := 84) C fX6_87 sh31 rfl dX6_define_84 ?_
                  refine z_iload_n (pc := 87) C dX6_define_87 rfl rfl ?_
                  refine z_iast (pc := 88) C hR sh32 (by (try unfold zRg at *); (try simp only [IX, IM] at *); omega) (by (try unfold zRg at *); (try simp only [IX, IM] at *); omega) ha dX6_define_88 (fun σ_88 e_88 hR_88 => ?_)
                  have hI_88 : IM σ_88 := by rw [e_88]; exact hI.upA rfl
                  refine z_aload_nZ (pc := 89) C dX6_define_89 rfl rfl ?_
                  refine z_getR (pc := 90) C fX6_13 sh31 rfl dX6_define_90 ?_
                  refine z_aload_nZ (pc := 93) C dX6_define_93 rfl rfl ?_
                  refine z_getIe (pc := 94) (v := σ 31 3) C fX6_87 sh31 rfl dX6_define_94 (by rw [e_88, zup_cell (by omega)]) ?_
                  refine z_iload_n (pc := 97) C dX6_define_97 rfl rfl ?_
                  refine z_iast (pc := 98) C hR_88 sh33 (by (try unfold zRg at *); (try simp only [IX, IM] at *); omega) (by (try unfold zRg at *); (try simp only [IX, IM] at *); omega) hb dX6_define_98 (fun σ_98 e_98 hR_98 => ?_)
                  have hI_98 : IM σ_98 := by rw [e_98]; exact hI_88.upA rfl
                  refine z_aload_nZ (pc := 99) C dX6_define_99 rfl rfl ?_
                  refine z_getR (pc := 100) C fX6_16 sh31 rfl dX6_define_100 ?_
                  refine z_aload_nZ (pc := 103) C dX6_define_103 rfl rfl ?_
                  refine z_getIe (pc := 104) (v := σ 31 3) C fX6_87 sh31 rfl dX6_define_104 (by rw [e_98, zup_cell (by omega), e_88, zup_cell (by omega)]) ?_
                  refine z_iload_n (pc := 107) C dX6_define_107 rfl rfl ?_
                  refine z_iast (pc := 108) C hR_98 sh34 (by (try unfold zRg at *); (try simp only [IX, IM] at *); omega) (by (try unfold zRg at *); (try simp only [IX, IM] at *); omega) hc dX6_define_108 (fun σ_108 e_108 hR_108 => ?_)
                  have hI_108 : IM σ_108 := by rw [e_108]; exact hI_98.up34 (by (try unfold zRg at *); (try simp only [IX, IM] at *); omega)
                  refine z_aload_nZ (pc := 109) C dX6_define_109 rfl rfl ?_
                  refine z_dup (pc := 110) C dX6_define_110 rfl ?_
                  refine z_getIe (pc := 111) (v := σ 31 3) C fX6_87 sh31 rfl dX6_define_111 (by rw [e_108, zup_cell (by omega), e_98, zup_cell (by omega), e_88, zup_cell (by omega)]) ?_
                  refine z_iconst (pc := 114) C dX6_define_114 ?_
                  refine z_iadd (pc := 115) C dX6_define_115 ?_
                  refine z_putI (pc := 116) C hR_108 fX6_87 sh31 rfl (by (try unfold zRg at *); (try simp only [IX, IM] at *); omega) dX6_define_116 (fun σ_116 e_116 hR_116 => ?_)
                  have hI_116 : IM σ_116 := by rw [e_116]; exact hI_108.up3 (by (try unfold zRg at *); (try simp only [IX, IM] at *); omega)
                  refine z_aload_nZ (pc := 119) C dX6_define_119 rfl rfl ?_
                  refine z_getIe (pc := 120) (v := (σ 31 3) + 1) C fX6_87 sh31 rfl dX6_define_120 (by rw [e_116, zup_same]) ?_
                  refine z_iconst (pc := 123) C dX6_define_123 ?_
                  refine z_isub (pc := 124) C dX6_define_124 ?_
                  refine hret 125 _ _ _ dX6_define_125 (by (try unfold zRg at *); (try simp only [IX, IM] at *); omega) hR_116 ?_
                  unfold mdefine
                  have hmb := mfind_b hI a 1; have hmb2 := mfind_b hI a 0; have hops := hI.ops
                  rw [if_neg (by unfold xcan; omega), if_neg (by omega)]
                  first
                  | (rw [if_pos c_50, if_neg (by rw [hp_58] at c_61; unfold zd at c_61; split at c_61 <;> omega), if_neg (by omega)]; exact ⟨by show _ = σ 31 3; omega, by subst_vars; rfl⟩)
                  | (rw [if_neg c_50, if_neg (by rw [hp_58] at c_61; unfold zd at c_61; split at c_61 <;> omega), if_neg (by omega)]; exact ⟨by show _ = σ 31 3; omega, by subst_vars; rfl⟩)
                · refine z_bipush (pc := 76) C dX6_define_76 (by decide) ?_
                  refine hret 78 _ _ _ dX6_define_78 (zRgL rfl) hR ?_
                  unfold mdefine
                  have hmb := mfind_b hI a 1; have hmb2 := mfind_b hI a 0
                  rw [if_neg (by unfold xcan; omega), if_neg (by omega)]
                  first
                  | (rw [if_pos c_50, if_neg (by rw [hp_58] at c_61; unfold zd at c_61; split at c_61 <;> omega), if_pos (by omega)]; exact ⟨rfl, rfl⟩)
                  | (rw [if_neg c_50, if_neg (by rw [hp_58] at c_61; unfold zd at c_61; split at c_61 <;> omega), if_pos (by omega)]; exact ⟨rfl, rfl⟩)
              · refine z_bipush (pc := 64) C dX6_define_64 (by decide) ?_
                refine hret 66 _ _ _ dX6_define_66 (zRgL rfl) hR ?_
                unfold mdefine
                rw [if_neg (by unfold xcan; omega), if_neg (by omega)]
                first
                | (rw [if_pos c_50, if_pos (by rw [hp_58] at c_61; unfold zd at c_61; split at c_61 <;> omega)]; exact ⟨rfl, rfl⟩)
                | (rw [if_neg c_50, if_pos (by rw [hp_58] at c_61; unfold zd at c_61; split at c_61 <;> omega)]; exact ⟨rfl, rfl⟩)
            · refine z_iconst (pc := 53) C dX6_define_53 ?_
              refine z_goto (pc := 54) C 58 dX6_define_54 rfl ?_
              refine z_callVp (pc := 58) (rest := []) C (C_X6_operatorFor E σ hR a ha 1 (Or.inr rfl) hI) vX6_101 (by decide) sh31 rfl rfl rfl (Nat.le_of_ble_eq_true rfl) dX6_define_58 (fun r_58 g_58 hp_58 => ?_)
              refine z_if_lt (pc := 61) C 67 g_58 dX6_define_61 rfl (fun c_61 => ?_) (fun c_61 => ?_)
              · refine z_aload_nZ (pc := 67) C dX6_define_67 rfl rfl ?_
                refine z_getI (pc := 68) C fX6_87 sh31 rfl dX6_define_68 ?_
                refine z_bipush (pc := 71) C dX6_define_71 (by decide) ?_
                refine z_icmp_ne (pc := 73) C 79 (hR 31 _) (zRgL rfl) dX6_define_73 rfl (fun c_73 => ?_) (fun c_73 => ?_)
                · refine z_aload_nZ (pc := 79) C dX6_define_79 rfl rfl ?_
                  refine z_getR (pc := 80) C fX6_7 sh31 rfl dX6_define_80 ?_
                  refine z_aload_nZ (pc := 83) C dX6_define_83 rfl rfl ?_
                  refine z_getI (pc := 84) C fX6_87 sh31 rfl dX6_define_84 ?_
                  refine z_iload_n (pc := 87) C dX6_define_87 rfl rfl ?_
                  refine z_iast (pc := 88) C hR sh32 (by (try unfold zRg at *); (try simp only [IX, IM] at *); omega) (by (try unfold zRg at *); (try simp only [IX, IM] at *); omega) ha dX6_define_88 (fun σ_88 e_88 hR_88 => ?_)
                  have hI_88 : IM σ_88 := by rw [e_88]; exact hI.upA rfl
                  refine z_aload_nZ (pc := 89) C dX6_define_89 rfl rfl ?_
                  refine z_getR (pc := 90) C fX6_13 sh31 rfl dX6_define_90 ?_
                  refine z_aload_nZ (pc := 93) C dX6_define_93 rfl rfl ?_
                  refine z_getIe (pc := 94) (v := σ 31 3) C fX6_87 sh31 rfl dX6_define_94 (by rw [e_88, zup_cell (by omega)]) ?_
                  refine z_iload_n (pc := 97) C dX6_define_97 rfl rfl ?_
                  refine z_iast (pc := 98) C hR_88 sh33 (by (try unfold zRg at *); (try simp only [IX, IM] at *); omega) (by (try unfold zRg at *); (try simp only [IX, IM] at *); omega) hb dX6_define_98 (fun σ_98 e_98 hR_98 => ?_)
                  have hI_98 : IM σ_98 := by rw [e_98]; exact hI_88.upA rfl
                  refine z_aload_nZ (pc := 99) C dX6_define_99 rfl rfl ?_
                  refine z_getR (pc := 100) C fX6_16 sh31 rfl dX6_define_100 ?_
                  refine z_aload_nZ (pc := 103) C dX6_define_103 rfl rfl ?_
                  refine z_getIe (pc := 104) (v := σ 31 3) C fX6_87 sh31 rfl dX6_define_104 (by rw [e_98, zup_cell (by omega), e_88, zup_cell (by omega)]) ?_
                  refine z_iload_n (pc := 107) C dX6_define_107 rfl rfl ?_
                  refine z_iast (pc := 108) C hR_98 sh34 (by (try unfold zRg at *); (try simp only [IX, IM] at *); omega) (by (try unfold zRg at *); (try simp only [IX, IM] at *); omega) hc dX6_define_108 (fun σ_108 e_108 hR_108 => ?_)
                  have hI_108 : IM σ_108 := by rw [e_108]; exact hI_98.up34 (by (try unfold zRg at *); (try simp only [IX, IM] at *); omega)
                  refine z_aload_nZ (pc := 109) C dX6_define_109 rfl rfl ?_
                  refine z_dup (pc := 110) C dX6_define_110 rfl ?_
                  refine z_getIe (pc := 111) (v := σ 31 3) C fX6_87 sh31 rfl dX6_define_111 (by rw [e_108, zup_cell (by omega), e_98, zup_cell (by omega), e_88, zup_cell (by omega)]) ?_
                  refine z_iconst (pc := 114) C dX6_define_114 ?_
                  refine z_iadd (pc := 115) C dX6_define_115 ?_
                  refine z_putI (pc := 116) C hR_108 fX6_87 sh31 rfl (by (try unfold zRg at *); (try simp only [IX, IM] at *); omega) dX6_define_116 (fun σ_116 e_116 hR_116 => ?_)
                  have hI_116 : IM σ_116 := by rw [e_116]; exact hI_108.up3 (by (try unfold zRg at *); (try simp only [IX, IM] at *); omega)
                  refine z_aload_nZ (pc := 119) C dX6_define_119 rfl rfl ?_
                  refine z_getIe (pc := 120) (v := (σ 31 3) + 1) C fX6_87 sh31 rfl dX6_define_120 (by rw [e_116, zup_same]) ?_
                  refine z_iconst (pc := 123) C dX6_define_123 ?_
                  refine z_isub (pc := 124) C dX6_define_124 ?_
                  refine hret 125 _ _ _ dX6_define_125 (by (try unfold zRg at *); (try simp only [IX, IM] at *); omega) hR_116 ?_
                  unfold mdefine
                  have hmb := mfind_b hI a 1; have hmb2 := mfind_b hI a 0; have hops := hI.ops
                  rw [if_neg (by unfold xcan; omega), if_neg (by omega)]
                  first
                  | (rw [if_pos c_50, if_neg (by rw [hp_58] at c_61; unfold zd at c_61; split at c_61 <;> omega), if_neg (by omega)]; exact ⟨by show _ = σ 31 3; omega, by subst_vars; rfl⟩)
                  | (rw [if_neg c_50, if_neg (by rw [hp_58] at c_61; unfold zd at c_61; split at c_61 <;> omega), if_neg (by omega)]; exact ⟨by show _ = σ 31 3; omega, by subst_vars; rfl⟩)
                · refine z_bipush (pc := 76) C dX6_define_76 (by decide) ?_
                  refine hret 78 _ _ _ dX6_define_78 (zRgL rfl) hR ?_
                  unfold mdefine
                  have hmb := mfind_b hI a 1; have hmb2 := mfind_b hI a 0
                  rw [if_neg (by unfold xcan; omega), if_neg (by omega)]
                  first
                  | (rw [if_pos c_50, if_neg (by rw [hp_58] at c_61; unfold zd at c_61; split at c_61 <;> omega), if_pos (by omega)]; exact ⟨rfl, rfl⟩)
                  | (rw [if_neg c_50, if_neg (by rw [hp_58] at c_61; unfold zd at c_61; split at c_61 <;> omega), if_pos (by omega)]; exact ⟨rfl, rfl⟩)
              · refine z_bipush (pc := 64) C dX6_define_64 (by decide) ?_
                refine hret 66 _ _ _ dX6_define_66 (zRgL rfl) hR ?_
                unfold mdefine
                rw [if_neg (by unfold xcan; omega), if_neg (by omega)]
                first
                | (rw [if_pos c_50, if_pos (by rw [hp_58] at c_61; unfold zd at c_61; split at c_61 <;> omega)]; exact ⟨rfl, rfl⟩)
                | (rw [if_neg c_50, if_pos (by rw [hp_58] at c_61; unfold zd at c_61; split at c_61 <;> omega)]; exact ⟨rfl, rfl⟩)
          · have c_40 := zb0 hp_37 c_40
            refine z_bipush (pc := 43) C dX6_define_43 (by decide) ?_
            refine hret 45 _ _ _ dX6_define_45 (zRgL rfl) hR ?_
            unfold mdefine; rw [if_neg (by unfold xcan; omega), if_pos (by assumption)]; exact ⟨rfl, rfl⟩
        · refine z_bipush (pc := 30) C dX6_define_30 (by decide) ?_
          refine hret 32 _ _ _ dX6_define_32 (zRgL rfl) hR ?_
          unfold mdefine; rw [if_pos (by unfold xcan; omega)]; exact ⟨rfl, rfl⟩
set_option maxRecDepth 20000 in
theorem C_X6_defineInfix (E : ZE) (σ : ZSt) (hR : zRs σ) (a : Int) (ha : zRg a) (c : Int) (hc : zRg c) (hI : IM σ) : ZMi E 3 yX6_defineInfix cX6_defineInfix 3 (some .int) [zrf E 31, ziv a, ziv c] σ (fun r σ' => r = (mdefine σ a 0 c).1 ∧ σ' = (mdefine σ a 0 c).2) := by
  refine ZMi.intro (by decide) rfl (Nat.le_of_ble_eq_true rfl) (fun Γ C hN hret => ?_)
  show ZG E Γ 0 [some (zrf E 31), some (ziv a), some (ziv c)] [] σ
  refine z_aload_nZ (pc := 0) C dX6_defineInfix_0 rfl rfl ?_
  refine z_iload_n (pc := 1) C dX6_defineInfix_1 rfl rfl ?_
  refine z_iconst (pc := 2) C dX6_defineInfix_2 ?_
  refine z_iload_n (pc := 3) C dX6_defineInfix_3 rfl rfl ?_
  refine z_callVi (pc := 4) (rest := []) C (C_X6_define E σ hR a ha 0 (zRgL rfl) c hc hI) vX6_105 (by decide) sh31 rfl rfl rfl (Nat.le_of_ble_eq_true rfl) dX6_defineInfix_4 (fun r_4 σ_4 g_4 hR_4 hp_4 => ?_)
  refine hret 7 _ _ _ dX6_defineInfix_7 g_4 hR_4 ?_
  assumption
set_option maxRecDepth 20000 in
theorem C_X6_definePrefix (E : ZE) (σ : ZSt) (hR : zRs σ) (a : Int) (ha : zRg a) (c : Int) (hc : zRg c) (hI : IM σ) : ZMi E 3 yX6_definePrefix cX6_definePrefix 3 (some .int) [zrf E 31, ziv a, ziv c] σ (fun r σ' => r = (mdefine σ a 1 c).1 ∧ σ' = (mdefine σ a 1 c).2) := by
  refine ZMi.intro (by decide) rfl (Nat.le_of_ble_eq_true rfl) (fun Γ C hN hret => ?_)
  show ZG E Γ 0 [some (zrf E 31), some (ziv a), some (ziv c)] [] σ
  refine z_aload_nZ (pc := 0) C dX6_definePrefix_0 rfl rfl ?_
  refine z_iload_n (pc := 1) C dX6_definePrefix_1 rfl rfl ?_
  refine z_iconst (pc := 2) C dX6_definePrefix_2 ?_
  refine z_iload_n (pc := 3) C dX6_definePrefix_3 rfl rfl ?_
  refine z_callVi (pc := 4) (rest := []) C (C_X6_define E σ hR a ha 1 (zRgL rfl) c hc hI) vX6_105 (by decide) sh31 rfl rfl rfl (Nat.le_of_ble_eq_true rfl) dX6_definePrefix_4 (fun r_4 σ_4 g_4 hR_4 hp_4 => ?_)
  refine hret 7 _ _ _ dX6_definePrefix_7 g_4 hR_4 ?_
  assumption
set_option maxRecDepth 20000 in
theorem C_X6_definePostfix (E : ZE) (σ : ZSt) (hR : zRs σ) (a : Int) (ha : zRg a) (c : Int) (hc : zRg c) (hI : IM σ) : ZMi E 3 yX6_definePostfix cX6_definePostfix 3 (some .int) [zrf E 31, ziv a, ziv c] σ (fun r σ' => r = (mdefine σ a 2 c).1 ∧ σ' = (mdefine σ a 2 c).2) := by
  refine ZMi.intro (by decide) rfl (Nat.le_of_ble_eq_true rfl) (fun Γ C hN hret => ?_)
  show ZG E Γ 0 [some (zrf E 31), some (ziv a), some (ziv c)] [] σ
  refine z_aload_nZ (pc := 0) C dX6_definePostfix_0 rfl rfl ?_
  refine z_iload_n (pc := 1) C dX6_definePostfix_1 rfl rfl ?_
  refine z_iconst (pc := 2) C dX6_definePostfix_2 ?_
  refine z_iload_n (pc := 3) C dX6_definePostfix_3 rfl rfl ?_
  refine z_callVi (pc := 4) (rest := []) C (C_X6_define E σ hR a ha 2 (zRgL rfl) c hc hI) vX6_105 (by decide) sh31 rfl rfl rfl (Nat.le_of_ble_eq_true rfl) dX6_definePostfix_4 (fun r_4 σ_4 g_4 hR_4 hp_4 => ?_)
  refine hret 7 _ _ _ dX6_definePostfix_7 g_4 hR_4 ?_
  assumption
set_option maxRecDepth 20000 in
theorem C_X6_operatorCount (E : ZE) (σ : ZSt) (hR : zRs σ) : ZMi E 0 yX6_operatorCount cX6_operatorCount 1 (some .int) [zrf E 31] σ (fun r σ' => (r = σ 31 3) ∧ σ' = σ) := by
  refine ZMi.intro (by decide) rfl (Nat.le_of_ble_eq_true rfl) (fun Γ C hN hret => ?_)
  show ZG E Γ 0 [some (zrf E 31)] [] σ
  refine z_aload_nZ (pc := 0) C dX6_operatorCount_0 rfl rfl ?_
  refine z_getI (pc := 1) C fX6_87 sh31 rfl dX6_operatorCount_1 ?_
  refine hret 4 _ _ _ dX6_operatorCount_4 (hR 31 _) hR ?_
  exact ⟨by (first | rfl | omega | (split <;> first | rfl | omega) | (simp_all; done) | (split <;> split <;> first | rfl | omega) | grind), rfl⟩
set_option maxRecDepth 20000 in
theorem C_X6_symbol (E : ZE) (σ : ZSt) (hR : zRs σ) (a : Int) (ha : zRg a) (hI : IM σ) : ZMi E 2 yX6_symbol cX6_symbol 2 (some .int) [zrf E 31, ziv a] σ (fun r σ' => (r = if 0 ≤ a ∧ a < σ 31 3 then σ 32 a.toNat else -2) ∧ σ' = σ) := by
  refine ZMi.intro (by decide) rfl (Nat.le_of_ble_eq_true rfl) (fun Γ C hN hret => ?_)
  show ZG E Γ 0 [some (zrf E 31), some (ziv a)] [] σ
  refine z_aload_nZ (pc := 0) C dX6_symbol_0 rfl rfl ?_
  refine z_iload_n (pc := 1) C dX6_symbol_1 rfl rfl ?_
  refine z_callVp (pc := 2) (rest := []) C (C_X6_isOperator E σ hR a ha hI) vX6_109 (by decide) sh31 rfl rfl rfl (Nat.le_of_ble_eq_true rfl) dX6_symbol_2 (fun r_2 g_2 hp_2 => ?_)
  refine z_if_eq (pc := 5) C 17 g_2 dX6_symbol_5 rfl (fun c_5 => ?_) (fun c_5 => ?_)
  · have c_5 := zb0 hp_2 c_5
    refine z_bipush (pc := 17) C dX6_symbol_17 (by decide) ?_
    refine hret 19 _ _ _ dX6_symbol_19 (zRgL rfl) hR ?_
    exact ⟨by (first | rfl | omega | (split <;> first | rfl | omega) | (simp_all; done) | (split <;> split <;> first | rfl | omega) | grind), rfl⟩
  · have c_5 := zb1 hp_2 c_5
    refine z_aload_nZ (pc := 8) C dX6_symbol_8 rfl rfl ?_
    refine z_getR (pc := 9) C fX6_7 sh31 rfl dX6_symbol_9 ?_
    refine z_iload_n (pc := 12) C dX6_symbol_12 rfl rfl ?_
    refine z_iald (pc := 13) C sh32 (by (try unfold zRg at *); (try simp only [IX, IM] at *); omega) (by (try unfold zRg at *); (try simp only [IX, IM] at *); omega) dX6_symbol_13 ?_
    refine z_goto (pc := 14) C 19 dX6_symbol_14 rfl ?_
    refine hret 19 _ _ _ dX6_symbol_19 (hR 32 _) hR ?_
    exact ⟨by (first | rfl | omega | (split <;> first | rfl | omega) | (simp_all; done) | (split <;> split <;> first | rfl | omega) | grind), rfl⟩
set_option maxRecDepth 20000 in
theorem C_X6_kind (E : ZE) (σ : ZSt) (hR : zRs σ) (a : Int) (ha : zRg a) (hI : IM σ) : ZMi E 2 yX6_kind cX6_kind 2 (some .int) [zrf E 31, ziv a] σ (fun r σ' => (r = if 0 ≤ a ∧ a < σ 31 3 then σ 33 a.toNat else -2) ∧ σ' = σ) := by
  refine ZMi.intro (by decide) rfl (Nat.le_of_ble_eq_true rfl) (fun Γ C hN hret => ?_)
  show ZG E Γ 0 [some (zrf E 31), some (ziv a)] [] σ
  refine z_aload_nZ (pc := 0) C dX6_kind_0 rfl rfl ?_
  refine z_iload_n (pc := 1) C dX6_kind_1 rfl rfl ?_
  refine z_callVp (pc := 2) (rest := []) C (C_X6_isOperator E σ hR a ha hI) vX6_109 (by decide) sh31 rfl rfl rfl (Nat.le_of_ble_eq_true rfl) dX6_kind_2 (fun r_2 g_2 hp_2 => ?_)
  refine z_if_eq (pc := 5) C 17 g_2 dX6_kind_5 rfl (fun c_5 => ?_) (fun c_5 => ?_)
  · have c_5 := zb0 hp_2 c_5
    refine z_bipush (pc := 17) C dX6_kind_17 (by decide) ?_
    refine hret 19 _ _ _ dX6_kind_19 (zRgL rfl) hR ?_
    exact ⟨by (first | rfl | omega | (split <;> first | rfl | omega) | (simp_all; done) | (split <;> split <;> first | rfl | omega) | grind), rfl⟩
  · have c_5 := zb1 hp_2 c_5
    refine z_aload_nZ (pc := 8) C dX6_kind_8 rfl rfl ?_
    refine z_getR (pc := 9) C fX6_13 sh31 rfl dX6_kind_9 ?_
    refine z_iload_n (pc := 12) C dX6_kind_12 rfl rfl ?_
    refine z_iald (pc := 13) C sh33 (by (try unfold zRg at *); (try simp only [IX, IM] at *); omega) (by (try unfold zRg at *); (try simp only [IX, IM] at *); omega) dX6_kind_13 ?_
    refine z_goto (pc := 14) C 19 dX6_kind_14 rfl ?_
    refine hret 19 _ _ _ dX6_kind_19 (hR 33 _) hR ?_
    exact ⟨by (first | rfl | omega | (split <;> first | rfl | omega) | (simp_all; done) | (split <;> split <;> first | rfl | omega) | grind), rfl⟩
set_option maxRecDepth 20000 in
theorem C_X6_setLevel (E : ZE) (σ : ZSt) (hR : zRs σ) (a : Int) (ha : zRg a) (b : Int) (hb : zRg b) (hI : IM σ) : ZMi E 2 yX6_setLevel cX6_setLevel 4 (some .int) [zrf E 31, ziv a, ziv b] σ (fun r σ' => r = (msetlev σ a b).1 ∧ σ' = (msetlev σ a b).2) := by
  refine ZMi.intro (by decide) rfl (Nat.le_of_ble_eq_true rfl) (fun Γ C hN hret => ?_)
  show ZG E Γ 0 [some (zrf E 31), some (ziv a), some (ziv b), none] [] σ
  refine z_aload_nZ (pc := 0) C dX6_setLevel_0 rfl rfl ?_
  refine z_iload_n (pc := 1) C dX6_setLevel_1 rfl rfl ?_
  refine z_callVp (pc := 2) (rest := []) C (C_X6_isOperator E σ hR a ha hI) vX6_109 (by decide) sh31 rfl rfl rfl (Nat.le_of_ble_eq_true rfl) dX6_setLevel_2 (fun r_2 g_2 hp_2 => ?_)
  refine z_if_ne (pc := 5) C 11 g_2 dX6_setLevel_5 rfl (fun c_5 => ?_) (fun c_5 => ?_)
  · have c_5 := zb1 hp_2 c_5
    refine z_iload_n (pc := 11) C dX6_setLevel_11 rfl rfl ?_
    refine z_iconst (pc := 12) C dX6_setLevel_12 ?_
    refine z_bipush (pc := 13) C dX6_setLevel_13 (by decide) ?_
    refine z_callSp (pc := 15) (rest := []) C (C_X6_in E σ hR b hb 1 (zRgL rfl) 9 (zRgL rfl)) vX6_90 (by decide) rfl rfl (Nat.le_of_ble_eq_true rfl) dX6_setLevel_15 (fun r_15 g_15 hp_15 => ?_)
    refine z_if_ne (pc := 18) C 24 g_15 dX6_setLevel_18 rfl (fun c_18 => ?_) (fun c_18 => ?_)
    · have c_18 := zb1 hp_15 c_18
      refine z_aload_nZ (pc := 24) C dX6_setLevel_24 rfl rfl ?_
      refine z_getR (pc := 25) C fX6_16 sh31 rfl dX6_setLevel_25 ?_
      refine z_iload_n (pc := 28) C dX6_setLevel_28 rfl rfl ?_
      refine z_iald (pc := 29) C sh34 (by (try unfold zRg at *); (try simp only [IX, IM] at *); omega) (by (try unfold zRg at *); (try simp only [IX, IM] at *); omega) dX6_setLevel_29 ?_
      refine z_istore_n (pc := 30) (lv' := [some (zrf E 31), some (ziv a), some (ziv b), some (ziv (σ 34 a.toNat))]) C hN dX6_setLevel_30 rfl (by decide) rfl ?_
      refine z_aload_nZ (pc := 31) C dX6_setLevel_31 rfl rfl ?_
      refine z_getR (pc := 32) C fX6_16 sh31 rfl dX6_setLevel_32 ?_
      refine z_iload_n (pc := 35) C dX6_setLevel_35 rfl rfl ?_
      refine z_iload_n (pc := 36) C dX6_setLevel_36 rfl rfl ?_
      refine z_iast (pc := 37) C hR sh34 (by (try unfold zRg at *); (try simp only [IX, IM] at *); omega) (by (try unfold zRg at *); (try simp only [IX, IM] at *); omega) hb dX6_setLevel_37 (fun σ_37 e_37 hR_37 => ?_)
      have hI_37 : IM σ_37 := by rw [e_37]; exact hI.up34 (by (try unfold zRg at *); (try simp only [IX, IM] at *); omega)
      refine z_iload_n (pc := 38) C dX6_setLevel_38 rfl rfl ?_
      refine hret 39 _ _ _ dX6_setLevel_39 (hR 34 _) hR_37 ?_
      unfold msetlev
      repeat (first | rw [if_pos (by first | assumption | omega)] | rw [if_neg (by first | assumption | omega)])
      refine ⟨?_, ?_⟩ <;> (first | rfl | assumption | (dsimp only; omega) | (simp_all; done) | grind)
    · have c_18 := zb0 hp_15 c_18
      refine z_bipush (pc := 21) C dX6_setLevel_21 (by decide) ?_
      refine hret 23 _ _ _ dX6_setLevel_23 (zRgL rfl) hR ?_
      unfold msetlev
      repeat (first | rw [if_pos (by first | assumption | omega)] | rw [if_neg (by first | assumption | omega)])
      refine ⟨?_, ?_⟩ <;> (first | rfl | assumption | (dsimp only; omega) | (simp_all; done) | grind)
  · have c_5 := zb0 hp_2 c_5
    refine z_bipush (pc := 8) C dX6_setLevel_8 (by decide) ?_
    refine hret 10 _ _ _ dX6_setLevel_10 (zRgL rfl) hR ?_
    unfold msetlev
    repeat (first | rw [if_pos (by first | assumption | omega)] | rw [if_neg (by first | assumption | omega)])
    refine ⟨?_, ?_⟩ <;> (first | rfl | assumption | (dsimp only; omega) | (simp_all; done) | grind)
set_option maxRecDepth 20000 in
theorem C_X6_setAssociativity (E : ZE) (σ : ZSt) (hR : zRs σ) (a : Int) (ha : zRg a) (b : Int) (hb : zRg b) (hI : IM σ) : ZMi E 1 yX6_setAssociativity cX6_setAssociativity 4 (some .int) [zrf E 31, ziv a, ziv b] σ (fun r σ' => r = (msetasc σ a b).1 ∧ σ' = (msetasc σ a b).2) := by
  refine ZMi.intro (by decide) rfl (Nat.le_of_ble_eq_true rfl) (fun Γ C hN hret => ?_)
  show ZG E Γ 0 [some (zrf E 31), some (ziv a), some (ziv b), none] [] σ
  refine z_iload_n (pc := 0) C dX6_setAssociativity_0 rfl rfl ?_
  refine z_iconst (pc := 1) C dX6_setAssociativity_1 ?_
  refine z_bipush (pc := 2) C dX6_setAssociativity_2 (by decide) ?_
  refine z_callSp (pc := 4) (rest := []) C (C_X6_in E σ hR a ha 1 (zRgL rfl) 9 (zRgL rfl)) vX6_90 (by decide) rfl rfl (Nat.le_of_ble_eq_true rfl) dX6_setAssociativity_4 (fun r_4 g_4 hp_4 => ?_)
  refine z_if_eq (pc := 7) C 19 g_4 dX6_setAssociativity_7 rfl (fun c_7 => ?_) (fun c_7 => ?_)
  · have c_7 := zb0 hp_4 c_7
    refine z_bipush (pc := 19) C dX6_setAssociativity_19 (by decide) ?_
    refine hret 21 _ _ _ dX6_setAssociativity_21 (zRgL rfl) hR ?_
    unfold msetasc
    repeat (first | rw [if_pos (by first | assumption | omega)] | rw [if_neg (by first | assumption | omega)])
    refine ⟨?_, ?_⟩ <;> (first | rfl | assumption | (dsimp only; omega) | (simp_all; done) | grind)
  · have c_7 := zb1 hp_4 c_7
    refine z_iload_n (pc := 10) C dX6_setAssociativity_10 rfl rfl ?_
    refine z_iconst (pc := 11) C dX6_setAssociativity_11 ?_
    refine z_iconst (pc := 12) C dX6_setAssociativity_12 ?_
    refine z_callSp (pc := 13) (rest := []) C (C_X6_in E σ hR b hb 0 (zRgL rfl) 2 (zRgL rfl)) vX6_90 (by decide) rfl rfl (Nat.le_of_ble_eq_true rfl) dX6_setAssociativity_13 (fun r_13 g_13 hp_13 => ?_)
    refine z_if_ne (pc := 16) C 22 g_13 dX6_setAssociativity_16 rfl (fun c_16 => ?_) (fun c_16 => ?_)
    · have c_16 := zb1 hp_13 c_16
      refine z_aload_nZ (pc := 22) C dX6_setAssociativity_22 rfl rfl ?_
      refine z_getR (pc := 23) C fX6_19 sh31 rfl dX6_setAssociativity_23 ?_
      refine z_iload_n (pc := 26) C dX6_setAssociativity_26 rfl rfl ?_
      refine z_iald (pc := 27) C sh35 (by (try unfold zRg at *); (try simp only [IX, IM] at *); omega) (by (try unfold zRg at *); (try simp only [IX, IM] at *); omega) dX6_setAssociativity_27 ?_
      refine z_istore_n (pc := 28) (lv' := [some (zrf E 31), some (ziv a), some (ziv b), some (ziv (σ 35 a.toNat))]) C hN dX6_setAssociativity_28 rfl (by decide) rfl ?_
      refine z_aload_nZ (pc := 29) C dX6_setAssociativity_29 rfl rfl ?_
      refine z_getR (pc := 30) C fX6_19 sh31 rfl dX6_setAssociativity_30 ?_
      refine z_iload_n (pc := 33) C dX6_setAssociativity_33 rfl rfl ?_
      refine z_iload_n (pc := 34) C dX6_setAssociativity_34 rfl rfl ?_
      refine z_iast (pc := 35) C hR sh35 (by (try unfold zRg at *); (try simp only [IX, IM] at *); omega) (by (try unfold zRg at *); (try simp only [IX, IM] at *); omega) hb dX6_setAssociativity_35 (fun σ_35 e_35 hR_35 => ?_)
      have hI_35 : IM σ_35 := by rw [e_35]; exact hI.upA rfl
      refine z_iload_n (pc := 36) C dX6_setAssociativity_36 rfl rfl ?_
      refine hret 37 _ _ _ dX6_setAssociativity_37 (hR 35 _) hR_35 ?_
      unfold msetasc
      repeat (first | rw [if_pos (by first | assumption | omega)] | rw [if_neg (by first | assumption | omega)])
      refine ⟨?_, ?_⟩ <;> (first | rfl | assumption | (dsimp only; omega) | (simp_all; done) | grind)
    · have c_16 := zb0 hp_13 c_16
      refine z_bipush (pc := 19) C dX6_setAssociativity_19 (by decide) ?_
      refine hret 21 _ _ _ dX6_setAssociativity_21 (zRgL rfl) hR ?_
      unfold msetasc
      repeat (first | rw [if_pos (by first | assumption | omega)] | rw [if_neg (by first | assumption | omega)])
      refine ⟨?_, ?_⟩ <;> (first | rfl | assumption | (dsimp only; omega) | (simp_all; done) | grind)
set_option maxRecDepth 20000 in
theorem C_X6_setForbidden (E : ZE) (σ : ZSt) (hR : zRs σ) (a : Int) (ha : zRg a) (b : Int) (hb : zRg b) (c : Int) (hc : c = 0 ∨ c = 1) (hI : IM σ) : ZMi E 2 yX6_setForbidden cX6_setForbidden 5 (some .int) [zrf E 31, ziv a, ziv b, ziv c] σ (fun r σ' => r = (msetforb σ a b c).1 ∧ σ' = (msetforb σ a b c).2) := by
  refine ZMi.intro (by decide) rfl (Nat.le_of_ble_eq_true rfl) (fun Γ C hN hret => ?_)
  show ZG E Γ 0 [some (zrf E 31), some (ziv a), some (ziv b), some (ziv c), none] [] σ
  refine z_aload_nZ (pc := 0) C dX6_setForbidden_0 rfl rfl ?_
  refine z_iload_n (pc := 1) C dX6_setForbidden_1 rfl rfl ?_
  refine z_callVp (pc := 2) (rest := []) C (C_X6_isOperator E σ hR a ha hI) vX6_109 (by decide) sh31 rfl rfl rfl (Nat.le_of_ble_eq_true rfl) dX6_setForbidden_2 (fun r_2 g_2 hp_2 => ?_)
  refine z_if_eq (pc := 5) C 16 g_2 dX6_setForbidden_5 rfl (fun c_5 => ?_) (fun c_5 => ?_)
  · have c_5 := zb0 hp_2 c_5
    refine z_bipush (pc := 16) C dX6_setForbidden_16 (by decide) ?_
    refine hret 18 _ _ _ dX6_setForbidden_18 (zRgL rfl) hR ?_
    unfold msetforb
    rw [if_pos (by omega)]
    exact ⟨rfl, rfl⟩
  · have c_5 := zb1 hp_2 c_5
    refine z_aload_nZ (pc := 8) C dX6_setForbidden_8 rfl rfl ?_
    refine z_iload_n (pc := 9) C dX6_setForbidden_9 rfl rfl ?_
    refine z_callVp (pc := 10) (rest := []) C (C_X6_isOperator E σ hR b hb hI) vX6_109 (by decide) sh31 rfl rfl rfl (Nat.le_of_ble_eq_true rfl) dX6_setForbidden_10 (fun r_10 g_10 hp_10 => ?_)
    refine z_if_ne (pc := 13) C 19 g_10 dX6_setForbidden_13 rfl (fun c_13 => ?_) (fun c_13 => ?_)
    · have c_13 := zb1 hp_10 c_13
      refine z_aload_nZ (pc := 19) C dX6_setForbidden_19 rfl rfl ?_
      refine z_getR (pc := 20) C fX6_22 sh31 rfl dX6_setForbidden_20 ?_
      refine z_bipush (pc := 23) C dX6_setForbidden_23 (by decide) ?_
      refine z_iload_n (pc := 25) C dX6_setForbidden_25 rfl rfl ?_
      refine z_imul (pc := 26) C dX6_setForbidden_26 ?_
      refine z_iload_n (pc := 27) C dX6_setForbidden_27 rfl rfl ?_
      refine z_iadd (pc := 28) C dX6_setForbidden_28 ?_
      refine z_zald (pc := 29) C sh36 (by (try unfold zRg at *); (try simp only [IX, IM] at *); omega) (by (try unfold zRg at *); (try simp only [IX, IM] at *); omega) dX6_setForbidden_29 ?_
      refine z_istore (pc := 30) (lv' := [some (zrf E 31), some (ziv a), some (ziv b), some (ziv c), some (ziv (σ 36 ((16 * a) + b).toNat))]) C hN dX6_setForbidden_30 (by decide) rfl ?_
      refine z_aload_nZ (pc := 32) C dX6_setForbidden_32 rfl rfl ?_
      refine z_getR (pc := 33) C fX6_22 sh31 rfl dX6_setForbidden_33 ?_
      refine z_bipush (pc := 36) C dX6_setForbidden_36 (by decide) ?_
      refine z_iload_n (pc := 38) C dX6_setForbidden_38 rfl rfl ?_
      refine z_imul (pc := 39) C dX6_setForbidden_39 ?_
      refine z_iload_n (pc := 40) C dX6_setForbidden_40 rfl rfl ?_
      refine z_iadd (pc := 41) C dX6_setForbidden_41 ?_
      refine z_iload_n (pc := 42) C dX6_setForbidden_42 rfl rfl ?_
      refine z_zast (pc := 43) C hR sh36 (by (try unfold zRg at *); (try simp only [IX, IM] at *); omega) (by (try unfold zRg at *); (try simp only [IX, IM] at *); omega) hc dX6_setForbidden_43 (fun σ_43 e_43 hR_43 => ?_)
      have hI_43 : IM σ_43 := by rw [e_43]; exact hI.upA rfl
      refine z_iload (pc := 44) C dX6_setForbidden_44 rfl ?_
      refine z_if_eq (pc := 46) C 53 (hR 36 _) dX6_setForbidden_46 rfl (fun c_46 => ?_) (fun c_46 => ?_)
      · refine z_iconst (pc := 53) C dX6_setForbidden_53 ?_
        refine hret 54 _ _ _ dX6_setForbidden_54 (zRgL rfl) hR_43 ?_
        unfold msetforb
        rw [if_neg (by omega)]
        refine ⟨?_, ?_⟩
        · first | exact zb_one (by assumption) | exact zb_zero (fun w => w (by assumption))
        · subst_vars; rfl
      · refine z_iconst (pc := 49) C dX6_setForbidden_49 ?_
        refine z_goto (pc := 50) C 54 dX6_setForbidden_50 rfl ?_
        refine hret 54 _ _ _ dX6_setForbidden_54 (zRgL rfl) hR_43 ?_
        unfold msetforb
        rw [if_neg (by omega)]
        refine ⟨?_, ?_⟩
        · first | exact zb_one (by assumption) | exact zb_zero (fun w => w (by assumption))
        · subst_vars; rfl
    · have c_13 := zb0 hp_10 c_13
      refine z_bipush (pc := 16) C dX6_setForbidden_16 (by decide) ?_
      refine hret 18 _ _ _ dX6_setForbidden_18 (zRgL rfl) hR ?_
      unfold msetforb
      rw [if_pos (by omega)]
      exact ⟨rfl, rfl⟩
set_option maxRecDepth 20000 in
theorem C_X6_rightLevel (E : ZE) (σ : ZSt) (hR : zRs σ) (a : Int) (ha : zRg a) (hI : IM σ) (ho : 0 ≤ a ∧ a < 16) : ZMi E 0 yX6_rightLevel cX6_rightLevel 2 (some .int) [zrf E 31, ziv a] σ (fun r σ' => (r = mright σ a) ∧ σ' = σ) := by
  refine ZMi.intro (by decide) rfl (Nat.le_of_ble_eq_true rfl) (fun Γ C hN hret => ?_)
  show ZG E Γ 0 [some (zrf E 31), some (ziv a)] [] σ
  have hl := hI.lev a.toNat
  refine z_aload_nZ (pc := 0) C dX6_rightLevel_0 rfl rfl ?_
  refine z_getR (pc := 1) C fX6_19 sh31 rfl dX6_rightLevel_1 ?_
  refine z_aload_nZ (pc := 4) C dX6_rightLevel_4 rfl rfl ?_
  refine z_getR (pc := 5) C fX6_16 sh31 rfl dX6_rightLevel_5 ?_
  refine z_iload_n (pc := 8) C dX6_rightLevel_8 rfl rfl ?_
  refine z_iald (pc := 9) C sh34 (by (try unfold zRg at *); (try simp only [IX, IM] at *); omega) (by (try unfold zRg at *); (try simp only [IX, IM] at *); omega) dX6_rightLevel_9 ?_
  refine z_iald (pc := 10) C sh35 (by (try unfold zRg at *); (try simp only [IX, IM] at *); omega) (by (try unfold zRg at *); (try simp only [IX, IM] at *); omega) dX6_rightLevel_10 ?_
  refine z_iconst (pc := 11) C dX6_rightLevel_11 ?_
  refine z_icmp_ne (pc := 12) C 24 (hR 35 _) (zRgL rfl) dX6_rightLevel_12 rfl (fun c_12 => ?_) (fun c_12 => ?_)
  · refine z_aload_nZ (pc := 24) C dX6_rightLevel_24 rfl rfl ?_
    refine z_getR (pc := 25) C fX6_16 sh31 rfl dX6_rightLevel_25 ?_
    refine z_iload_n (pc := 28) C dX6_rightLevel_28 rfl rfl ?_
    refine z_iald (pc := 29) C sh34 (by (try unfold zRg at *); (try simp only [IX, IM] at *); omega) (by (try unfold zRg at *); (try simp only [IX, IM] at *); omega) dX6_rightLevel_29 ?_
    refine z_iconst (pc := 30) C dX6_rightLevel_30 ?_
    refine z_iadd (pc := 31) C dX6_rightLevel_31 ?_
    refine hret 32 _ _ _ dX6_rightLevel_32 (by (try unfold zRg at *); (try simp only [IX, IM] at *); omega) hR ?_
    exact ⟨by unfold mright; first | rw [if_pos (by assumption)] | rw [if_neg (by assumption)], rfl⟩
  · refine z_aload_nZ (pc := 15) C dX6_rightLevel_15 rfl rfl ?_
    refine z_getR (pc := 16) C fX6_16 sh31 rfl dX6_rightLevel_16 ?_
    refine z_iload_n (pc := 19) C dX6_rightLevel_19 rfl rfl ?_
    refine z_iald (pc := 20) C sh34 (by (try unfold zRg at *); (try simp only [IX, IM] at *); omega) (by (try unfold zRg at *); (try simp only [IX, IM] at *); omega) dX6_rightLevel_20 ?_
    refine z_goto (pc := 21) C 32 dX6_rightLevel_21 rfl ?_
    refine hret 32 _ _ _ dX6_rightLevel_32 (hR 34 _) hR ?_
    exact ⟨by unfold mright; first | rw [if_pos (by assumption)] | rw [if_neg (by assumption)], rfl⟩
set_option maxRecDepth 20000 in
theorem C_X6_isClash (E : ZE) (σ : ZSt) (hR : zRs σ) (a : Int) (ha : zRg a) (b : Int) (hb : zRg b) (hI : IM σ) (ho : 0 ≤ a ∧ a < 16) (hb16 : b < 16) : ZMi E 0 yX6_isClash cX6_isClash 3 (some .boolean) [zrf E 31, ziv a, ziv b] σ (fun r σ' => (r = zb (mclash σ a b)) ∧ σ' = σ) := by
  refine ZMi.introZ (by decide) rfl (Nat.le_of_ble_eq_true rfl) (fun Γ C hN hret => ?_)
  show ZG E Γ 0 [some (zrf E 31), some (ziv a), some (ziv b)] [] σ
  have hl := hI.lev a.toNat
  refine z_iload_n (pc := 0) C dX6_isClash_0 rfl rfl ?_
  refine z_if_lt (pc := 1) C 47 hb dX6_isClash_1 rfl (fun c_1 => ?_) (fun c_1 => ?_)
  · refine z_iconst (pc := 47) C dX6_isClash_47 ?_
    refine hret 48 _ _ _ dX6_isClash_48 (Or.inl rfl) hR ?_
    exact ⟨by first | exact zb_one ⟨by assumption, by assumption, by assumption, by assumption⟩ | exact zb_zero (fun w => by obtain ⟨w1, w2, w3, w4⟩ := w; first | omega | contradiction), rfl⟩
  · refine z_aload_nZ (pc := 4) C dX6_isClash_4 rfl rfl ?_
    refine z_getR (pc := 5) C fX6_13 sh31 rfl dX6_isClash_5 ?_
    refine z_iload_n (pc := 8) C dX6_isClash_8 rfl rfl ?_
    refine z_iald (pc := 9) C sh33 (by (try unfold zRg at *); (try simp only [IX, IM] at *); omega) (by (try unfold zRg at *); (try simp only [IX, IM] at *); omega) dX6_isClash_9 ?_
    refine z_if_ne (pc := 10) C 47 (hR 33 _) dX6_isClash_10 rfl (fun c_10 => ?_) (fun c_10 => ?_)
    · refine z_iconst (pc := 47) C dX6_isClash_47 ?_
      refine hret 48 _ _ _ dX6_isClash_48 (Or.inl rfl) hR ?_
      exact ⟨by first | exact zb_one ⟨by assumption, by assumption, by assumption, by assumption⟩ | exact zb_zero (fun w => by obtain ⟨w1, w2, w3, w4⟩ := w; first | omega | contradiction), rfl⟩
    · refine z_aload_nZ (pc := 13) C dX6_isClash_13 rfl rfl ?_
      refine z_getR (pc := 14) C fX6_16 sh31 rfl dX6_isClash_14 ?_
      refine z_iload_n (pc := 17) C dX6_isClash_17 rfl rfl ?_
      refine z_iald (pc := 18) C sh34 (by (try unfold zRg at *); (try simp only [IX, IM] at *); omega) (by (try unfold zRg at *); (try simp only [IX, IM] at *); omega) dX6_isClash_18 ?_
      refine z_aload_nZ (pc := 19) C dX6_isClash_19 rfl rfl ?_
      refine z_getR (pc := 20) C fX6_16 sh31 rfl dX6_isClash_20 ?_
      refine z_iload_n (pc := 23) C dX6_isClash_23 rfl rfl ?_
      refine z_iald (pc := 24) C sh34 (by (try unfold zRg at *); (try simp only [IX, IM] at *); omega) (by (try unfold zRg at *); (try simp only [IX, IM] at *); omega) dX6_isClash_24 ?_
      refine z_icmp_ne (pc := 25) C 47 (hR 34 _) (hR 34 _) dX6_isClash_25 rfl (fun c_25 => ?_) (fun c_25 => ?_)
      · refine z_iconst (pc := 47) C dX6_isClash_47 ?_
        refine hret 48 _ _ _ dX6_isClash_48 (Or.inl rfl) hR ?_
        exact ⟨by first | exact zb_one ⟨by assumption, by assumption, by assumption, by assumption⟩ | exact zb_zero (fun w => by obtain ⟨w1, w2, w3, w4⟩ := w; first | omega | contradiction), rfl⟩
      · refine z_aload_nZ (pc := 28) C dX6_isClash_28 rfl rfl ?_
        refine z_getR (pc := 29) C fX6_19 sh31 rfl dX6_isClash_29 ?_
        refine z_aload_nZ (pc := 32) C dX6_isClash_32 rfl rfl ?_
        refine z_getR (pc := 33) C fX6_16 sh31 rfl dX6_isClash_33 ?_
        refine z_iload_n (pc := 36) C dX6_isClash_36 rfl rfl ?_
        refine z_iald (pc := 37) C sh34 (by (try unfold zRg at *); (try simp only [IX, IM] at *); omega) (by (try unfold zRg at *); (try simp only [IX, IM] at *); omega) dX6_isClash_37 ?_
        refine z_iald (pc := 38) C sh35 (by (try unfold zRg at *); (try simp only [IX, IM] at *); omega) (by (try unfold zRg at *); (try simp only [IX, IM] at *); omega) dX6_isClash_38 ?_
        refine z_iconst (pc := 39) C dX6_isClash_39 ?_
        refine z_icmp_ne (pc := 40) C 47 (hR 35 _) (zRgL rfl) dX6_isClash_40 rfl (fun c_40 => ?_) (fun c_40 => ?_)
        · refine z_iconst (pc := 47) C dX6_isClash_47 ?_
          refine hret 48 _ _ _ dX6_isClash_48 (Or.inl rfl) hR ?_
          exact ⟨by first | exact zb_one ⟨by assumption, by assumption, by assumption, by assumption⟩ | exact zb_zero (fun w => by obtain ⟨w1, w2, w3, w4⟩ := w; first | omega | contradiction), rfl⟩
        · refine z_iconst (pc := 43) C dX6_isClash_43 ?_
          refine z_goto (pc := 44) C 48 dX6_isClash_44 rfl ?_
          refine hret 48 _ _ _ dX6_isClash_48 (Or.inr rfl) hR ?_
          exact ⟨by first | exact zb_one ⟨by assumption, by assumption, by assumption, by assumption⟩ | exact zb_zero (fun w => by obtain ⟨w1, w2, w3, w4⟩ := w; first | omega | contradiction), rfl⟩
set_option maxRecDepth 20000 in
theorem C_X6_isBarred (E : ZE) (σ : ZSt) (hR : zRs σ) (a : Int) (ha : zRg a) (b : Int) (hb : zRg b) (hI : IM σ) (ho : 0 ≤ a ∧ a < 16) (hb16 : b < 16) : ZMi E 0 yX6_isBarred cX6_isBarred 3 (some .boolean) [zrf E 31, ziv a, ziv b] σ (fun r σ' => (r = zb (mbar σ a b)) ∧ σ' = σ) := by
  refine ZMi.introZ (by decide) rfl (Nat.le_of_ble_eq_true rfl) (fun Γ C hN hret => ?_)
  show ZG E Γ 0 [some (zrf E 31), some (ziv a), some (ziv b)] [] σ
  refine z_iload_n (pc := 0) C dX6_isBarred_0 rfl rfl ?_
  refine z_if_lt (pc := 1) C 22 hb dX6_isBarred_1 rfl (fun c_1 => ?_) (fun c_1 => ?_)
  · refine z_iconst (pc := 22) C dX6_isBarred_22 ?_
    refine hret 23 _ _ _ dX6_isBarred_23 (Or.inl rfl) hR ?_
    exact ⟨by first | exact zb_one ⟨by assumption, by assumption⟩ | exact zb_zero (fun w => by obtain ⟨w1, w2⟩ := w; first | omega | contradiction), rfl⟩
  · refine z_aload_nZ (pc := 4) C dX6_isBarred_4 rfl rfl ?_
    refine z_getR (pc := 5) C fX6_22 sh31 rfl dX6_isBarred_5 ?_
    refine z_bipush (pc := 8) C dX6_isBarred_8 (by decide) ?_
    refine z_iload_n (pc := 10) C dX6_isBarred_10 rfl rfl ?_
    refine z_imul (pc := 11) C dX6_isBarred_11 ?_
    refine z_iload_n (pc := 12) C dX6_isBarred_12 rfl rfl ?_
    refine z_iadd (pc := 13) C dX6_isBarred_13 ?_
    refine z_zald (pc := 14) C sh36 (by (try unfold zRg at *); (try simp only [IX, IM] at *); omega) (by (try unfold zRg at *); (try simp only [IX, IM] at *); omega) dX6_isBarred_14 ?_
    refine z_if_eq (pc := 15) C 22 (hR 36 _) dX6_isBarred_15 rfl (fun c_15 => ?_) (fun c_15 => ?_)
    · refine z_iconst (pc := 22) C dX6_isBarred_22 ?_
      refine hret 23 _ _ _ dX6_isBarred_23 (Or.inl rfl) hR ?_
      exact ⟨by first | exact zb_one ⟨by assumption, by assumption⟩ | exact zb_zero (fun w => by obtain ⟨w1, w2⟩ := w; first | omega | contradiction), rfl⟩
    · refine z_iconst (pc := 18) C dX6_isBarred_18 ?_
      refine z_goto (pc := 19) C 23 dX6_isBarred_19 rfl ?_
      refine hret 23 _ _ _ dX6_isBarred_23 (Or.inr rfl) hR ?_
      exact ⟨by first | exact zb_one ⟨by assumption, by assumption⟩ | exact zb_zero (fun w => by obtain ⟨w1, w2⟩ := w; first | omega | contradiction), rfl⟩
set_option maxRecDepth 20000 in
theorem C_X6_addNode (E : ZE) (σ : ZSt) (hR : zRs σ) (a : Int) (ha : zRg a) (b : Int) (hb : zRg b) (c : Int) (hc : zRg c) (e : Int) (he : zRg e) (hI : IM σ) (hn : σ 31 11 < 100) (hc1 : c < 100) (he1 : e < 100) : ZMi E 0 yX6_addNode cX6_addNode 5 (some .int) [zrf E 31, ziv a, ziv b, ziv c, ziv e] σ (fun r σ' => r = σ 31 11 ∧ σ' = mnadd σ a b c e) := by
  refine ZMi.intro (by decide) rfl (Nat.le_of_ble_eq_true rfl) (fun Γ C hN hret => ?_)
  show ZG E Γ 0 [some (zrf E 31), some (ziv a), some (ziv b), some (ziv c), some (ziv e)] [] σ
  refine z_aload_nZ (pc := 0) C dX6_addNode_0 rfl rfl ?_
  refine z_getR (pc := 1) C fX6_26 sh31 rfl dX6_addNode_1 ?_
  refine z_aload_nZ (pc := 4) C dX6_addNode_4 rfl rfl ?_
  refine z_getI (pc := 5) C fX6_94 sh31 rfl dX6_addNode_5 ?_
  refine z_iload_n (pc := 8) C dX6_addNode_8 rfl rfl ?_
  refine z_iast (pc := 9) C hR sh37 (by (try unfold zRg at *); (try simp only [IX, IM] at *); omega) (by (try unfold zRg at *); (try simp only [IX, IM] at *); omega) ha dX6_addNode_9 (fun σ_9 e_9 hR_9 => ?_)
  have hI_9 : IM σ_9 := by rw [e_9]; exact hI.upA rfl
  refine z_aload_nZ (pc := 10) C dX6_addNode_10 rfl rfl ?_
  refine z_getR (pc := 11) C fX6_29 sh31 rfl dX6_addNode_11 ?_
  refine z_aload_nZ (pc := 14) C dX6_addNode_14 rfl rfl ?_
  refine z_getIe (pc := 15) (v := σ 31 11) C fX6_94 sh31 rfl dX6_addNode_15 (by rw [e_9, zup_cell (by omega)]) ?_
  refine z_iload_n (pc := 18) C dX6_addNode_18 rfl rfl ?_
  refine z_iast (pc := 19) C hR_9 sh38 (by (try unfold zRg at *); (try simp only [IX, IM] at *); omega) (by (try unfold zRg at *); (try simp only [IX, IM] at *); omega) hb dX6_addNode_19 (fun σ_19 e_19 hR_19 => ?_)
  have hI_19 : IM σ_19 := by rw [e_19]; exact hI_9.upA rfl
  refine z_aload_nZ (pc := 20) C dX6_addNode_20 rfl rfl ?_
  refine z_getR (pc := 21) C fX6_32 sh31 rfl dX6_addNode_21 ?_
  refine z_aload_nZ (pc := 24) C dX6_addNode_24 rfl rfl ?_
  refine z_getIe (pc := 25) (v := σ 31 11) C fX6_94 sh31 rfl dX6_addNode_25 (by rw [e_19, zup_cell (by omega), e_9, zup_cell (by omega)]) ?_
  refine z_iload_n (pc := 28) C dX6_addNode_28 rfl rfl ?_
  refine z_iast (pc := 29) C hR_19 sh39 (by (try unfold zRg at *); (try simp only [IX, IM] at *); omega) (by (try unfold zRg at *); (try simp only [IX, IM] at *); omega) hc dX6_addNode_29 (fun σ_29 e_29 hR_29 => ?_)
  have hI_29 : IM σ_29 := by rw [e_29]; exact hI_19.upA rfl
  refine z_aload_nZ (pc := 30) C dX6_addNode_30 rfl rfl ?_
  refine z_getR (pc := 31) C fX6_35 sh31 rfl dX6_addNode_31 ?_
  refine z_aload_nZ (pc := 34) C dX6_addNode_34 rfl rfl ?_
  refine z_getIe (pc := 35) (v := σ 31 11) C fX6_94 sh31 rfl dX6_addNode_35 (by rw [e_29, zup_cell (by omega), e_19, zup_cell (by omega), e_9, zup_cell (by omega)]) ?_
  refine z_iload (pc := 38) C dX6_addNode_38 rfl ?_
  refine z_iast (pc := 40) C hR_29 sh40 (by (try unfold zRg at *); (try simp only [IX, IM] at *); omega) (by (try unfold zRg at *); (try simp only [IX, IM] at *); omega) he dX6_addNode_40 (fun σ_40 e_40 hR_40 => ?_)
  have hI_40 : IM σ_40 := by rw [e_40]; exact hI_29.upA rfl
  refine z_aload_nZ (pc := 41) C dX6_addNode_41 rfl rfl ?_
  refine z_getR (pc := 42) C fX6_38 sh31 rfl dX6_addNode_42 ?_
  refine z_aload_nZ (pc := 45) C dX6_addNode_45 rfl rfl ?_
  refine z_getIe (pc := 46) (v := σ 31 11) C fX6_94 sh31 rfl dX6_addNode_46 (by rw [e_40, zup_cell (by omega), e_29, zup_cell (by omega), e_19, zup_cell (by omega), e_9, zup_cell (by omega)]) ?_
  refine z_iconst (pc := 49) C dX6_addNode_49 ?_
  refine z_iload_n (pc := 50) C dX6_addNode_50 rfl rfl ?_
  refine z_if_lt (pc := 51) C 63 hc dX6_addNode_51 rfl (fun c_51 => ?_) (fun c_51 => ?_)
  · refine z_iconst (pc := 63) C dX6_addNode_63 ?_
    refine z_iadd (pc := 64) C dX6_addNode_64 ?_
    refine z_iload (pc := 65) C dX6_addNode_65 rfl ?_
    refine z_if_lt (pc := 67) C 80 he dX6_addNode_67 rfl (fun c_67 => ?_) (fun c_67 => ?_)
    · refine z_iconst (pc := 80) C dX6_addNode_80 ?_
      refine z_iadd (pc := 81) C dX6_addNode_81 ?_
      refine z_iastW (pc := 82) C hR_40 sh41 (by (try unfold zRg at *); (try simp only [IX, IM] at *); omega) (by (try unfold zRg at *); (try simp only [IX, IM] at *); omega) dX6_addNode_82 (fun σ_82 e_82 hR_82 => ?_)
      have hI_82 : IM σ_82 := by rw [e_82]; exact hI_40.upA rfl
      refine z_aload_nZ (pc := 83) C dX6_addNode_83 rfl rfl ?_
      refine z_dup (pc := 84) C dX6_addNode_84 rfl ?_
      refine z_getIe (pc := 85) (v := σ 31 11) C fX6_94 sh31 rfl dX6_addNode_85 (by rw [e_82, zup_cell (by omega), e_40, zup_cell (by omega), e_29, zup_cell (by omega), e_19, zup_cell (by omega), e_9, zup_cell (by omega)]) ?_
      refine z_iconst (pc := 88) C dX6_addNode_88 ?_
      refine z_iadd (pc := 89) C dX6_addNode_89 ?_
      refine z_putI (pc := 90) C hR_82 fX6_94 sh31 rfl (by (try unfold zRg at *); (try simp only [IX, IM] at *); omega) dX6_addNode_90 (fun σ_90 e_90 hR_90 => ?_)
      have hI_90 : IM σ_90 := by rw [e_90]; exact hI_82.up11 (by (try unfold zRg at *); (try simp only [IX, IM] at *); omega)
      refine z_aload_nZ (pc := 93) C dX6_addNode_93 rfl rfl ?_
      refine z_getIe (pc := 94) (v := (σ 31 11) + 1) C fX6_94 sh31 rfl dX6_addNode_94 (by rw [e_90, zup_same]) ?_
      refine z_iconst (pc := 97) C dX6_addNode_97 ?_
      refine z_isub (pc := 98) C dX6_addNode_98 ?_
      refine hret 99 _ _ _ dX6_addNode_99 (by (try unfold zRg at *); (try simp only [IX, IM] at *); omega) hR_90 ?_
      refine ⟨by omega, ?_⟩
      unfold mnadd msz
      first
      | (rw [if_pos (by assumption), if_pos (by assumption)]; subst_vars; rfl)
      | (rw [if_pos (by assumption), if_neg (by omega)]; subst_vars; rfl)
      | (rw [if_neg (by omega), if_pos (by assumption)]; subst_vars; rfl)
      | (rw [if_neg (by omega), if_neg (by omega)]; subst_vars; rfl)
    · refine z_aload_nZ (pc := 70) C dX6_addNode_70 rfl rfl ?_
      refine z_getR (pc := 71) C fX6_38 sh31 rfl dX6_addNode_71 ?_
      refine z_iload (pc := 74) C dX6_addNode_74 rfl ?_
      refine z_ialde (pc := 76) (v := σ 41 e.toNat) C sh41 (by (try unfold zRg at *); (try simp only [IX, IM] at *); omega) (by (try unfold zRg at *); (try simp only [IX, IM] at *); omega) dX6_addNode_76 (by rw [e_40, zup_cell (by omega), e_29, zup_cell (by omega), e_19, zup_cell (by omega), e_9, zup_cell (by omega)]) ?_
      refine z_goto (pc := 77) C 81 dX6_addNode_77 rfl ?_
      refine z_iadd (pc := 81) C dX6_addNode_81 ?_
      refine z_iastW (pc := 82) C hR_40 sh41 (by (try unfold zRg at *); (try simp only [IX, IM] at *); omega) (by (try unfold zRg at *); (try simp only [IX, IM] at *); omega) dX6_addNode_82 (fun σ_82 e_82 hR_82 => ?_)
      have hI_82 : IM σ_82 := by rw [e_82]; exact hI_40.upA rfl
      refine z_aload_nZ (pc := 83) C dX6_addNode_83 rfl rfl ?_
      refine z_dup (pc := 84) C dX6_addNode_84 rfl ?_
      refine z_getIe (pc := 85) (v := σ 31 11) C fX6_94 sh31 rfl dX6_addNode_85 (by rw [e_82, zup_cell (by omega), e_40, zup_cell (by omega), e_29, zup_cell (by omega), e_19, zup_cell (by omega), e_9, zup_cell (by omega)]) ?_
      refine z_iconst (pc := 88) C dX6_addNode_88 ?_
      refine z_iadd (pc := 89) C dX6_addNode_89 ?_
      refine z_putI (pc := 90) C hR_82 fX6_94 sh31 rfl (by (try unfold zRg at *); (try simp only [IX, IM] at *); omega) dX6_addNode_90 (fun σ_90 e_90 hR_90 => ?_)
      have hI_90 : IM σ_90 := by rw [e_90]; exact hI_82.up11 (by (try unfold zRg at *); (try simp only [IX, IM] at *); omega)
      refine z_aload_nZ (pc := 93) C dX6_addNode_93 rfl rfl ?_
      refine z_getIe (pc := 94) (v := (σ 31 11) + 1) C fX6_94 sh31 rfl dX6_addNode_94 (by rw [e_90, zup_same]) ?_
      refine z_iconst (pc := 97) C dX6_addNode_97 ?_
      refine z_isub (pc := 98) C dX6_addNode_98 ?_
      refine hret 99 _ _ _ dX6_addNode_99 (by (try unfold zRg at *); (try simp only [IX, IM] at *); omega) hR_90 ?_
      refine ⟨by omega, ?_⟩
      unfold mnadd msz
      first
      | (rw [if_pos (by assumption), if_pos (by assumption)]; subst_vars; rfl)
      | (rw [if_pos (by assumption), if_neg (by omega)]; subst_vars; rfl)
      | (rw [if_neg (by omega), if_pos (by assumption)]; subst_vars; rfl)
      | (rw [if_neg (by omega), if_neg (by omega)]; subst_vars; rfl)
  · refine z_aload_nZ (pc := 54) C dX6_addNode_54 rfl rfl ?_
    refine z_getR (pc := 55) C fX6_38 sh31 rfl dX6_addNode_55 ?_
    refine z_iload_n (pc := 58) C dX6_addNode_58 rfl rfl ?_
    refine z_ialde (pc := 59) (v := σ 41 c.toNat) C sh41 (by (try unfold zRg at *); (try simp only [IX, IM] at *); omega) (by (try unfold zRg at *); (try simp only [IX, IM] at *); omega) dX6_addNode_59 (by rw [e_40, zup_cell (by omega), e_29, zup_cell (by omega), e_19, zup_cell (by omega), e_9, zup_cell (by omega)]) ?_
    refine z_goto (pc := 60) C 64 dX6_addNode_60 rfl ?_
    refine z_iadd (pc := 64) C dX6_addNode_64 ?_
    refine z_iload (pc := 65) C dX6_addNode_65 rfl ?_
    refine z_if_lt (pc := 67) C 80 he dX6_addNode_67 rfl (fun c_67 => ?_) (fun c_67 => ?_)
    · refine z_iconst (pc := 80) C dX6_addNode_80 ?_
      refine z_iadd (pc := 81) C dX6_addNode_81 ?_
      refine z_iastW (pc := 82) C hR_40 sh41 (by (try unfold zRg at *); (try simp only [IX, IM] at *); omega) (by (try unfold zRg at *); (try simp only [IX, IM] at *); omega) dX6_addNode_82 (fun σ_82 e_82 hR_82 => ?_)
      have hI_82 : IM σ_82 := by rw [e_82]; exact hI_40.upA rfl
      refine z_aload_nZ (pc := 83) C dX6_addNode_83 rfl rfl ?_
      refine z_dup (pc := 84) C dX6_addNode_84 rfl ?_
      refine z_getIe (pc := 85) (v := σ 31 11) C fX6_94 sh31 rfl dX6_addNode_85 (by rw [e_82, zup_cell (by omega), e_40, zup_cell (by omega), e_29, zup_cell (by omega), e_19, zup_cell (by omega), e_9, zup_cell (by omega)]) ?_
      refine z_iconst (pc := 88) C dX6_addNode_88 ?_
      refine z_iadd (pc := 89) C dX6_addNode_89 ?_
      refine z_putI (pc := 90) C hR_82 fX6_94 sh31 rfl (by (try unfold zRg at *); (try simp only [IX, IM] at *); omega) dX6_addNode_90 (fun σ_90 e_90 hR_90 => ?_)
      have hI_90 : IM σ_90 := by rw [e_90]; exact hI_82.up11 (by (try unfold zRg at *); (try simp only [IX, IM] at *); omega)
      refine z_aload_nZ (pc := 93) C dX6_addNode_93 rfl rfl ?_
      refine z_getIe (pc := 94) (v := (σ 31 11) + 1) C fX6_94 sh31 rfl dX6_addNode_94 (by rw [e_90, zup_same]) ?_
      refine z_iconst (pc := 97) C dX6_addNode_97 ?_
      refine z_isub (pc := 98) C dX6_addNode_98 ?_
      refine hret 99 _ _ _ dX6_addNode_99 (by (try unfold zRg at *); (try simp only [IX, IM] at *); omega) hR_90 ?_
      refine ⟨by omega, ?_⟩
      unfold mnadd msz
      first
      | (rw [if_pos (by assumption), if_pos (by assumption)]; subst_vars; rfl)
      | (rw [if_pos (by assumption), if_neg (by omega)]; subst_vars; rfl)
      | (rw [if_neg (by omega), if_pos (by assumption)]; subst_vars; rfl)
      | (rw [if_neg (by omega), if_neg (by omega)]; subst_vars; rfl)
    · refine z_aload_nZ (pc := 70) C dX6_addNode_70 rfl rfl ?_
      refine z_getR (pc := 71) C fX6_38 sh31 rfl dX6_addNode_71 ?_
      refine z_iload (pc := 74) C dX6_addNode_74 rfl ?_
      refine z_ialde (pc := 76) (v := σ 41 e.toNat) C sh41 (by (try unfold zRg at *); (try simp only [IX, IM] at *); omega) (by (try unfold zRg at *); (try simp only [IX, IM] at *); omega) dX6_addNode_76 (by rw [e_40, zup_cell (by omega), e_29, zup_cell (by omega), e_19, zup_cell (by omega), e_9, zup_cell (by omega)]) ?_
      refine z_goto (pc := 77) C 81 dX6_addNode_77 rfl ?_
      refine z_iadd (pc := 81) C dX6_addNode_81 ?_
      refine z_iastW (pc := 82) C hR_40 sh41 (by (try unfold zRg at *); (try simp only [IX, IM] at *); omega) (by (try unfold zRg at *); (try simp only [IX, IM] at *); omega) dX6_addNode_82 (fun σ_82 e_82 hR_82 => ?_)
      have hI_82 : IM σ_82 := by rw [e_82]; exact hI_40.upA rfl
      refine z_aload_nZ (pc := 83) C dX6_addNode_83 rfl rfl ?_
      refine z_dup (pc := 84) C dX6_addNode_84 rfl ?_
      refine z_getIe (pc := 85) (v := σ 31 11) C fX6_94 sh31 rfl dX6_addNode_85 (by rw [e_82, zup_cell (by omega), e_40, zup_cell (by omega), e_29, zup_cell (by omega), e_19, zup_cell (by omega), e_9, zup_cell (by omega)]) ?_
      refine z_iconst (pc := 88) C dX6_addNode_88 ?_
      refine z_iadd (pc := 89) C dX6_addNode_89 ?_
      refine z_putI (pc := 90) C hR_82 fX6_94 sh31 rfl (by (try unfold zRg at *); (try simp only [IX, IM] at *); omega) dX6_addNode_90 (fun σ_90 e_90 hR_90 => ?_)
      have hI_90 : IM σ_90 := by rw [e_90]; exact hI_82.up11 (by (try unfold zRg at *); (try simp only [IX, IM] at *); omega)
      refine z_aload_nZ (pc := 93) C dX6_addNode_93 rfl rfl ?_
      refine z_getIe (pc := 94) (v := (σ 31 11) + 1) C fX6_94 sh31 rfl dX6_addNode_94 (by rw [e_90, zup_same]) ?_
      refine z_iconst (pc := 97) C dX6_addNode_97 ?_
      refine z_isub (pc := 98) C dX6_addNode_98 ?_
      refine hret 99 _ _ _ dX6_addNode_99 (by (try unfold zRg at *); (try simp only [IX, IM] at *); omega) hR_90 ?_
      refine ⟨by omega, ?_⟩
      unfold mnadd msz
      first
      | (rw [if_pos (by assumption), if_pos (by assumption)]; subst_vars; rfl)
      | (rw [if_pos (by assumption), if_neg (by omega)]; subst_vars; rfl)
      | (rw [if_neg (by omega), if_pos (by assumption)]; subst_vars; rfl)
      | (rw [if_neg (by omega), if_neg (by omega)]; subst_vars; rfl)
set_option maxRecDepth 20000 in
theorem C_X6_leaf (E : ZE) (σ : ZSt) (hR : zRs σ) (a : Int) (ha : zRg a) (hI : IM σ) : ZMi E 2 yX6_leaf cX6_leaf 2 (some .int) [zrf E 31, ziv a] σ (fun r σ' => r = (mleaf σ a).1 ∧ σ' = (mleaf σ a).2) := by
  refine ZMi.intro (by decide) rfl (Nat.le_of_ble_eq_true rfl) (fun Γ C hN hret => ?_)
  show ZG E Γ 0 [some (zrf E 31), some (ziv a)] [] σ
  refine z_iload_n (pc := 0) C dX6_leaf_0 rfl rfl ?_
  refine z_callSp (pc := 1) (rest := []) C (C_X6_isLetter E σ hR a ha) vX6_97 (by decide) rfl rfl (Nat.le_of_ble_eq_true rfl) dX6_leaf_1 (fun r_1 g_1 hp_1 => ?_)
  refine z_if_ne (pc := 4) C 10 g_1 dX6_leaf_4 rfl (fun c_4 => ?_) (fun c_4 => ?_)
  · have c_4 := zb1 hp_1 c_4
    refine z_aload_nZ (pc := 10) C dX6_leaf_10 rfl rfl ?_
    refine z_getI (pc := 11) C fX6_94 sh31 rfl dX6_leaf_11 ?_
    refine z_bipush (pc := 14) C dX6_leaf_14 (by decide) ?_
    refine z_icmp_ne (pc := 16) C 24 (hR 31 _) (zRgL rfl) dX6_leaf_16 rfl (fun c_16 => ?_) (fun c_16 => ?_)
    · refine z_aload_nZ (pc := 24) C dX6_leaf_24 rfl rfl ?_
      refine z_bipush (pc := 25) C dX6_leaf_25 (by decide) ?_
      refine z_iload_n (pc := 27) C dX6_leaf_27 rfl rfl ?_
      refine z_bipush (pc := 28) C dX6_leaf_28 (by decide) ?_
      refine z_bipush (pc := 30) C dX6_leaf_30 (by decide) ?_
      refine z_callVi (pc := 32) (rest := []) C (C_X6_addNode E σ hR (-10) (zRgL rfl) a ha (-10) (zRgL rfl) (-10) (zRgL rfl) hI (by (try unfold zRg at *); (try simp only [IX, IM] at *); omega) (by (try unfold zRg at *); (try simp only [IX, IM] at *); omega) (by (try unfold zRg at *); (try simp only [IX, IM] at *); omega)) vX6_112 (by decide) sh31 rfl rfl rfl (Nat.le_of_ble_eq_true rfl) dX6_leaf_32 (fun r_32 σ_32 g_32 hR_32 hp_32 => ?_)
      refine hret 35 _ _ _ dX6_leaf_35 g_32 hR_32 ?_
      have hnd := hI.nds
      unfold mleaf
      repeat (first | rw [if_pos (by first | assumption | omega)] | rw [if_neg (by first | assumption | omega)])
      refine ⟨?_, ?_⟩ <;> (first | rfl | assumption | (dsimp only; omega) | (simp_all; done) | grind)
    · refine z_bipush (pc := 19) C dX6_leaf_19 (by decide) ?_
      refine z_goto (pc := 21) C 35 dX6_leaf_21 rfl ?_
      refine hret 35 _ _ _ dX6_leaf_35 (zRgL rfl) hR ?_
      have hnd := hI.nds
      unfold mleaf
      repeat (first | rw [if_pos (by first | assumption | omega)] | rw [if_neg (by first | assumption | omega)])
      refine ⟨?_, ?_⟩ <;> (first | rfl | assumption | (dsimp only; omega) | (simp_all; done) | grind)
  · have c_4 := zb0 hp_1 c_4
    refine z_bipush (pc := 7) C dX6_leaf_7 (by decide) ?_
    refine hret 9 _ _ _ dX6_leaf_9 (zRgL rfl) hR ?_
    have hnd := hI.nds
    unfold mleaf
    repeat (first | rw [if_pos (by first | assumption | omega)] | rw [if_neg (by first | assumption | omega)])
    refine ⟨?_, ?_⟩ <;> (first | rfl | assumption | (dsimp only; omega) | (simp_all; done) | grind)
set_option maxRecDepth 20000 in
theorem C_X6_unary (E : ZE) (σ : ZSt) (hR : zRs σ) (a : Int) (ha : zRg a) (b : Int) (hb : zRg b) (hI : IM σ) (hsz : ∀ i : Nat, (i : Int) < σ 31 11 → 0 ≤ σ 41 i ∧ σ 41 i ≤ 40) : ZMi E 2 yX6_unary cX6_unary 3 (some .int) [zrf E 31, ziv a, ziv b] σ (fun r σ' => r = (munary σ a b).1 ∧ σ' = (munary σ a b).2) := by
  refine ZMi.intro (by decide) rfl (Nat.le_of_ble_eq_true rfl) (fun Γ C hN hret => ?_)
  show ZG E Γ 0 [some (zrf E 31), some (ziv a), some (ziv b)] [] σ
  have hs1 : 0 ≤ b ∧ b < σ 31 11 → 0 ≤ σ 41 b.toNat ∧ σ 41 b.toNat ≤ 40 := fun h9 => hsz b.toNat (by omega)
  have hnd := hI.nds
  refine z_aload_nZ (pc := 0) C dX6_unary_0 rfl rfl ?_
  refine z_iload_n (pc := 1) C dX6_unary_1 rfl rfl ?_
  refine z_callVp (pc := 2) (rest := []) C (C_X6_isOperator E σ hR a ha hI) vX6_109 (by decide) sh31 rfl rfl rfl (Nat.le_of_ble_eq_true rfl) dX6_unary_2 (fun r_2 g_2 hp_2 => ?_)
  refine z_if_ne (pc := 5) C 11 g_2 dX6_unary_5 rfl (fun c_5 => ?_) (fun c_5 => ?_)
  · have c_5 := zb1 hp_2 c_5
    refine z_aload_nZ (pc := 11) C dX6_unary_11 rfl rfl ?_
    refine z_getR (pc := 12) C fX6_13 sh31 rfl dX6_unary_12 ?_
    refine z_iload_n (pc := 15) C dX6_unary_15 rfl rfl ?_
    refine z_iald (pc := 16) C sh33 (by (try unfold zRg at *); (try simp only [IX, IM] at *); omega) (by (try unfold zRg at *); (try simp only [IX, IM] at *); omega) dX6_unary_16 ?_
    refine z_if_ne (pc := 17) C 23 (hR 33 _) dX6_unary_17 rfl (fun c_17 => ?_) (fun c_17 => ?_)
    · refine z_aload_nZ (pc := 23) C dX6_unary_23 rfl rfl ?_
      refine z_iload_n (pc := 24) C dX6_unary_24 rfl rfl ?_
      refine z_callVp (pc := 25) (rest := []) C (C_X6_isNode E σ hR b hb hI) vX6_116 (by decide) sh31 rfl rfl rfl (Nat.le_of_ble_eq_true rfl) dX6_unary_25 (fun r_25 g_25 hp_25 => ?_)
      refine z_if_ne (pc := 28) C 33 g_25 dX6_unary_28 rfl (fun c_28 => ?_) (fun c_28 => ?_)
      · have c_28 := zb1 hp_25 c_28
        refine z_aload_nZ (pc := 33) C dX6_unary_33 rfl rfl ?_
        refine z_getR (pc := 34) C fX6_38 sh31 rfl dX6_unary_34 ?_
        refine z_iload_n (pc := 37) C dX6_unary_37 rfl rfl ?_
        refine z_iald (pc := 38) C sh41 (by (try unfold zRg at *); (try simp only [IX, IM] at *); omega) (by (try unfold zRg at *); (try simp only [IX, IM] at *); omega) dX6_unary_38 ?_
        refine z_iconst (pc := 39) C dX6_unary_39 ?_
        refine z_iadd (pc := 40) C dX6_unary_40 ?_
        refine z_bipush (pc := 41) C dX6_unary_41 (by decide) ?_
        refine z_icmp_le (pc := 43) C 49 (by (try unfold zRg at *); (try simp only [IX, IM] at *); omega) (zRgL rfl) dX6_unary_43 rfl (fun c_43 => ?_) (fun c_43 => ?_)
        · refine z_aload_nZ (pc := 49) C dX6_unary_49 rfl rfl ?_
          refine z_getI (pc := 50) C fX6_94 sh31 rfl dX6_unary_50 ?_
          refine z_bipush (pc := 53) C dX6_unary_53 (by decide) ?_
          refine z_icmp_ne (pc := 55) C 63 (hR 31 _) (zRgL rfl) dX6_unary_55 rfl (fun c_55 => ?_) (fun c_55 => ?_)
          · refine z_aload_nZ (pc := 63) C dX6_unary_63 rfl rfl ?_
            refine z_iload_n (pc := 64) C dX6_unary_64 rfl rfl ?_
            refine z_bipush (pc := 65) C dX6_unary_65 (by decide) ?_
            refine z_iload_n (pc := 67) C dX6_unary_67 rfl rfl ?_
            refine z_bipush (pc := 68) C dX6_unary_68 (by decide) ?_
            refine z_callVi (pc := 70) (rest := []) C (C_X6_addNode E σ hR a ha (-10) (zRgL rfl) b hb (-10) (zRgL rfl) hI (by (try unfold zRg at *); (try simp only [IX, IM] at *); omega) (by (try unfold zRg at *); (try simp only [IX, IM] at *); omega) (by (try unfold zRg at *); (try simp only [IX, IM] at *); omega)) vX6_112 (by decide) sh31 rfl rfl rfl (Nat.le_of_ble_eq_true rfl) dX6_unary_70 (fun r_70 σ_70 g_70 hR_70 hp_70 => ?_)
            refine hret 73 _ _ _ dX6_unary_73 g_70 hR_70 ?_
            unfold munary
            repeat (first | rw [if_pos (by first | assumption | omega)] | rw [if_neg (by first | assumption | omega)])
            refine ⟨?_, ?_⟩ <;> (first | rfl | assumption | (dsimp only; omega) | (simp_all; done) | grind)
          · refine z_bipush (pc := 58) C dX6_unary_58 (by decide) ?_
            refine z_goto (pc := 60) C 73 dX6_unary_60 rfl ?_
            refine hret 73 _ _ _ dX6_unary_73 (zRgL rfl) hR ?_
            unfold munary
            repeat (first | rw [if_pos (by first | assumption | omega)] | rw [if_neg (by first | assumption | omega)])
            refine ⟨?_, ?_⟩ <;> (first | rfl | assumption | (dsimp only; omega) | (simp_all; done) | grind)
        · refine z_bipush (pc := 46) C dX6_unary_46 (by decide) ?_
          refine hret 48 _ _ _ dX6_unary_48 (zRgL rfl) hR ?_
          unfold munary
          repeat (first | rw [if_pos (by first | assumption | omega)] | rw [if_neg (by first | assumption | omega)])
          refine ⟨?_, ?_⟩ <;> (first | rfl | assumption | (dsimp only; omega) | (simp_all; done) | grind)
      · have c_28 := zb0 hp_25 c_28
        refine z_iconst (pc := 31) C dX6_unary_31 ?_
        refine hret 32 _ _ _ dX6_unary_32 (zRgL rfl) hR ?_
        unfold munary
        repeat (first | rw [if_pos (by first | assumption | omega)] | rw [if_neg (by first | assumption | omega)])
        refine ⟨?_, ?_⟩ <;> (first | rfl | assumption | (dsimp only; omega) | (simp_all; done) | grind)
    · refine z_bipush (pc := 20) C dX6_unary_20 (by decide) ?_
      refine hret 22 _ _ _ dX6_unary_22 (zRgL rfl) hR ?_
      unfold munary
      repeat (first | rw [if_pos (by first | assumption | omega)] | rw [if_neg (by first | assumption | omega)])
      refine ⟨?_, ?_⟩ <;> (first | rfl | assumption | (dsimp only; omega) | (simp_all; done) | grind)
  · have c_5 := zb0 hp_2 c_5
    refine z_bipush (pc := 8) C dX6_unary_8 (by decide) ?_
    refine hret 10 _ _ _ dX6_unary_10 (zRgL rfl) hR ?_
    unfold munary
    repeat (first | rw [if_pos (by first | assumption | omega)] | rw [if_neg (by first | assumption | omega)])
    refine ⟨?_, ?_⟩ <;> (first | rfl | assumption | (dsimp only; omega) | (simp_all; done) | grind)
set_option maxRecDepth 20000 in
theorem C_X6_binary (E : ZE) (σ : ZSt) (hR : zRs σ) (a : Int) (ha : zRg a) (b : Int) (hb : zRg b) (c : Int) (hc : zRg c) (hI : IM σ) (hsz : ∀ i : Nat, (i : Int) < σ 31 11 → 0 ≤ σ 41 i ∧ σ 41 i ≤ 40) : ZMi E 2 yX6_binary cX6_binary 4 (some .int) [zrf E 31, ziv a, ziv b, ziv c] σ (fun r σ' => r = (mbinary σ a b c).1 ∧ σ' = (mbinary σ a b c).2) := by
  refine ZMi.intro (by decide) rfl (Nat.le_of_ble_eq_true rfl) (fun Γ C hN hret => ?_)
  show ZG E Γ 0 [some (zrf E 31), some (ziv a), some (ziv b), some (ziv c)] [] σ
  have hs1 : 0 ≤ b ∧ b < σ 31 11 → 0 ≤ σ 41 b.toNat ∧ σ 41 b.toNat ≤ 40 := fun h9 => hsz b.toNat (by omega)
  have hs2 : 0 ≤ c ∧ c < σ 31 11 → 0 ≤ σ 41 c.toNat ∧ σ 41 c.toNat ≤ 40 := fun h9 => hsz c.toNat (by omega)
  have hnd := hI.nds
  refine z_aload_nZ (pc := 0) C dX6_binary_0 rfl rfl ?_
  refine z_iload_n (pc := 1) C dX6_binary_1 rfl rfl ?_
  refine z_callVp (pc := 2) (rest := []) C (C_X6_isOperator E σ hR a ha hI) vX6_109 (by decide) sh31 rfl rfl rfl (Nat.le_of_ble_eq_true rfl) dX6_binary_2 (fun r_2 g_2 hp_2 => ?_)
  refine z_if_ne (pc := 5) C 11 g_2 dX6_binary_5 rfl (fun c_5 => ?_) (fun c_5 => ?_)
  · have c_5 := zb1 hp_2 c_5
    refine z_aload_nZ (pc := 11) C dX6_binary_11 rfl rfl ?_
    refine z_getR (pc := 12) C fX6_13 sh31 rfl dX6_binary_12 ?_
    refine z_iload_n (pc := 15) C dX6_binary_15 rfl rfl ?_
    refine z_iald (pc := 16) C sh33 (by (try unfold zRg at *); (try simp only [IX, IM] at *); omega) (by (try unfold zRg at *); (try simp only [IX, IM] at *); omega) dX6_binary_16 ?_
    refine z_if_eq (pc := 17) C 23 (hR 33 _) dX6_binary_17 rfl (fun c_17 => ?_) (fun c_17 => ?_)
    · refine z_aload_nZ (pc := 23) C dX6_binary_23 rfl rfl ?_
      refine z_iload_n (pc := 24) C dX6_binary_24 rfl rfl ?_
      refine z_callVp (pc := 25) (rest := []) C (C_X6_isNode E σ hR b hb hI) vX6_116 (by decide) sh31 rfl rfl rfl (Nat.le_of_ble_eq_true rfl) dX6_binary_25 (fun r_25 g_25 hp_25 => ?_)
      refine z_if_eq (pc := 28) C 39 g_25 dX6_binary_28 rfl (fun c_28 => ?_) (fun c_28 => ?_)
      · have c_28 := zb0 hp_25 c_28
        refine z_iconst (pc := 39) C dX6_binary_39 ?_
        refine hret 40 _ _ _ dX6_binary_40 (zRgL rfl) hR ?_
        unfold mbinary
        repeat (first | rw [if_pos (by first | assumption | omega)] | rw [if_neg (by first | assumption | omega)])
        refine ⟨?_, ?_⟩ <;> (first | rfl | assumption | (dsimp only; omega) | (simp_all; done) | grind)
      · have c_28 := zb1 hp_25 c_28
        refine z_aload_nZ (pc := 31) C dX6_binary_31 rfl rfl ?_
        refine z_iload_n (pc := 32) C dX6_binary_32 rfl rfl ?_
        refine z_callVp (pc := 33) (rest := []) C (C_X6_isNode E σ hR c hc hI) vX6_116 (by decide) sh31 rfl rfl rfl (Nat.le_of_ble_eq_true rfl) dX6_binary_33 (fun r_33 g_33 hp_33 => ?_)
        refine z_if_ne (pc := 36) C 41 g_33 dX6_binary_36 rfl (fun c_36 => ?_) (fun c_36 => ?_)
        · have c_36 := zb1 hp_33 c_36
          refine z_aload_nZ (pc := 41) C dX6_binary_41 rfl rfl ?_
          refine z_getR (pc := 42) C fX6_38 sh31 rfl dX6_binary_42 ?_
          refine z_iload_n (pc := 45) C dX6_binary_45 rfl rfl ?_
          refine z_iald (pc := 46) C sh41 (by (try unfold zRg at *); (try simp only [IX, IM] at *); omega) (by (try unfold zRg at *); (try simp only [IX, IM] at *); omega) dX6_binary_46 ?_
          refine z_aload_nZ (pc := 47) C dX6_binary_47 rfl rfl ?_
          refine z_getR (pc := 48) C fX6_38 sh31 rfl dX6_binary_48 ?_
          refine z_iload_n (pc := 51) C dX6_binary_51 rfl rfl ?_
          refine z_iald (pc := 52) C sh41 (by (try unfold zRg at *); (try simp only [IX, IM] at *); omega) (by (try unfold zRg at *); (try simp only [IX, IM] at *); omega) dX6_binary_52 ?_
          refine z_iadd (pc := 53) C dX6_binary_53 ?_
          refine z_iconst (pc := 54) C dX6_binary_54 ?_
          refine z_iadd (pc := 55) C dX6_binary_55 ?_
          refine z_bipush (pc := 56) C dX6_binary_56 (by decide) ?_
          refine z_icmp_le (pc := 58) C 64 (by (try unfold zRg at *); (try simp only [IX, IM] at *); omega) (zRgL rfl) dX6_binary_58 rfl (fun c_58 => ?_) (fun c_58 => ?_)
          · refine z_aload_nZ (pc := 64) C dX6_binary_64 rfl rfl ?_
            refine z_getI (pc := 65) C fX6_94 sh31 rfl dX6_binary_65 ?_
            refine z_bipush (pc := 68) C dX6_binary_68 (by decide) ?_
            refine z_icmp_ne (pc := 70) C 78 (hR 31 _) (zRgL rfl) dX6_binary_70 rfl (fun c_70 => ?_) (fun c_70 => ?_)
            · refine z_aload_nZ (pc := 78) C dX6_binary_78 rfl rfl ?_
              refine z_iload_n (pc := 79) C dX6_binary_79 rfl rfl ?_
              refine z_bipush (pc := 80) C dX6_binary_80 (by decide) ?_
              refine z_iload_n (pc := 82) C dX6_binary_82 rfl rfl ?_
              refine z_iload_n (pc := 83) C dX6_binary_83 rfl rfl ?_
              refine z_callVi (pc := 84) (rest := []) C (C_X6_addNode E σ hR a ha (-10) (zRgL rfl) b hb c hc hI (by (try unfold zRg at *); (try simp only [IX, IM] at *); omega) (by (try unfold zRg at *); (try simp only [IX, IM] at *); omega) (by (try unfold zRg at *); (try simp only [IX, IM] at *); omega)) vX6_112 (by decide) sh31 rfl rfl rfl (Nat.le_of_ble_eq_true rfl) dX6_binary_84 (fun r_84 σ_84 g_84 hR_84 hp_84 => ?_)
              refine hret 87 _ _ _ dX6_binary_87 g_84 hR_84 ?_
              unfold mbinary
              repeat (first | rw [if_pos (by first | assumption | omega)] | rw [if_neg (by first | assumption | omega)])
              refine ⟨?_, ?_⟩ <;> (first | rfl | assumption | (dsimp only; omega) | (simp_all; done) | grind)
            · refine z_bipush (pc := 73) C dX6_binary_73 (by decide) ?_
              refine z_goto (pc := 75) C 87 dX6_binary_75 rfl ?_
              refine hret 87 _ _ _ dX6_binary_87 (zRgL rfl) hR ?_
              unfold mbinary
              repeat (first | rw [if_pos (by first | assumption | omega)] | rw [if_neg (by first | assumption | omega)])
              refine ⟨?_, ?_⟩ <;> (first | rfl | assumption | (dsimp only; omega) | (simp_all; done) | grind)
          · refine z_bipush (pc := 61) C dX6_binary_61 (by decide) ?_
            refine hret 63 _ _ _ dX6_binary_63 (zRgL rfl) hR ?_
            unfold mbinary
            repeat (first | rw [if_pos (by first | assumption | omega)] | rw [if_neg (by first | assumption | omega)])
            refine ⟨?_, ?_⟩ <;> (first | rfl | assumption | (dsimp only; omega) | (simp_all; done) | grind)
        · have c_36 := zb0 hp_33 c_36
          refine z_iconst (pc := 39) C dX6_binary_39 ?_
          refine hret 40 _ _ _ dX6_binary_40 (zRgL rfl) hR ?_
          unfold mbinary
          repeat (first | rw [if_pos (by first | assumption | omega)] | rw [if_neg (by first | assumption | omega)])
          refine ⟨?_, ?_⟩ <;> (first | rfl | assumption | (dsimp only; omega) | (simp_all; done) | grind)
    · refine z_bipush (pc := 20) C dX6_binary_20 (by decide) ?_
      refine hret 22 _ _ _ dX6_binary_22 (zRgL rfl) hR ?_
      unfold mbinary
      repeat (first | rw [if_pos (by first | assumption | omega)] | rw [if_neg (by first | assumption | omega)])
      refine ⟨?_, ?_⟩ <;> (first | rfl | assumption | (dsimp only; omega) | (simp_all; done) | grind)
  · have c_5 := zb0 hp_2 c_5
    refine z_bipush (pc := 8) C dX6_binary_8 (by decide) ?_
    refine hret 10 _ _ _ dX6_binary_10 (zRgL rfl) hR ?_
    unfold mbinary
    repeat (first | rw [if_pos (by first | assumption | omega)] | rw [if_neg (by first | assumption | omega)])
    refine ⟨?_, ?_⟩ <;> (first | rfl | assumption | (dsimp only; omega) | (simp_all; done) | grind)
set_option maxRecDepth 20000 in
theorem C_X6_nodeCount (E : ZE) (σ : ZSt) (hR : zRs σ) : ZMi E 0 yX6_nodeCount cX6_nodeCount 1 (some .int) [zrf E 31] σ (fun r σ' => (r = σ 31 11) ∧ σ' = σ) := by
  refine ZMi.intro (by decide) rfl (Nat.le_of_ble_eq_true rfl) (fun Γ C hN hret => ?_)
  show ZG E Γ 0 [some (zrf E 31)] [] σ
  refine z_aload_nZ (pc := 0) C dX6_nodeCount_0 rfl rfl ?_
  refine z_getI (pc := 1) C fX6_94 sh31 rfl dX6_nodeCount_1 ?_
  refine hret 4 _ _ _ dX6_nodeCount_4 (hR 31 _) hR ?_
  exact ⟨by (first | rfl | omega | (split <;> first | rfl | omega) | (simp_all; done) | (split <;> split <;> first | rfl | omega) | grind), rfl⟩
set_option maxRecDepth 20000 in
theorem C_X6_operatorOf (E : ZE) (σ : ZSt) (hR : zRs σ) (a : Int) (ha : zRg a) (hI : IM σ) : ZMi E 2 yX6_operatorOf cX6_operatorOf 2 (some .int) [zrf E 31, ziv a] σ (fun r σ' => (r = if 0 ≤ a ∧ a < σ 31 11 then σ 37 a.toNat else -1) ∧ σ' = σ) := by
  refine ZMi.intro (by decide) rfl (Nat.le_of_ble_eq_true rfl) (fun Γ C hN hret => ?_)
  show ZG E Γ 0 [some (zrf E 31), some (ziv a)] [] σ
  refine z_aload_nZ (pc := 0) C dX6_operatorOf_0 rfl rfl ?_
  refine z_iload_n (pc := 1) C dX6_operatorOf_1 rfl rfl ?_
  refine z_callVp (pc := 2) (rest := []) C (C_X6_isNode E σ hR a ha hI) vX6_116 (by decide) sh31 rfl rfl rfl (Nat.le_of_ble_eq_true rfl) dX6_operatorOf_2 (fun r_2 g_2 hp_2 => ?_)
  refine z_if_eq (pc := 5) C 17 g_2 dX6_operatorOf_5 rfl (fun c_5 => ?_) (fun c_5 => ?_)
  · have c_5 := zb0 hp_2 c_5
    refine z_iconst (pc := 17) C dX6_operatorOf_17 ?_
    refine hret 18 _ _ _ dX6_operatorOf_18 (zRgL rfl) hR ?_
    exact ⟨by (first | rfl | omega | (split <;> first | rfl | omega) | (simp_all; done) | (split <;> split <;> first | rfl | omega) | grind), rfl⟩
  · have c_5 := zb1 hp_2 c_5
    refine z_aload_nZ (pc := 8) C dX6_operatorOf_8 rfl rfl ?_
    refine z_getR (pc := 9) C fX6_26 sh31 rfl dX6_operatorOf_9 ?_
    refine z_iload_n (pc := 12) C dX6_operatorOf_12 rfl rfl ?_
    refine z_iald (pc := 13) C sh37 (by (try unfold zRg at *); (try simp only [IX, IM] at *); omega) (by (try unfold zRg at *); (try simp only [IX, IM] at *); omega) dX6_operatorOf_13 ?_
    refine z_goto (pc := 14) C 18 dX6_operatorOf_14 rfl ?_
    refine hret 18 _ _ _ dX6_operatorOf_18 (hR 37 _) hR ?_
    exact ⟨by (first | rfl | omega | (split <;> first | rfl | omega) | (simp_all; done) | (split <;> split <;> first | rfl | omega) | grind), rfl⟩
set_option maxRecDepth 20000 in
theorem C_X6_letterOf (E : ZE) (σ : ZSt) (hR : zRs σ) (a : Int) (ha : zRg a) (hI : IM σ) : ZMi E 2 yX6_letterOf cX6_letterOf 2 (some .int) [zrf E 31, ziv a] σ (fun r σ' => (r = if 0 ≤ a ∧ a < σ 31 11 then σ 38 a.toNat else -1) ∧ σ' = σ) := by
  refine ZMi.intro (by decide) rfl (Nat.le_of_ble_eq_true rfl) (fun Γ C hN hret => ?_)
  show ZG E Γ 0 [some (zrf E 31), some (ziv a)] [] σ
  refine z_aload_nZ (pc := 0) C dX6_letterOf_0 rfl rfl ?_
  refine z_iload_n (pc := 1) C dX6_letterOf_1 rfl rfl ?_
  refine z_callVp (pc := 2) (rest := []) C (C_X6_isNode E σ hR a ha hI) vX6_116 (by decide) sh31 rfl rfl rfl (Nat.le_of_ble_eq_true rfl) dX6_letterOf_2 (fun r_2 g_2 hp_2 => ?_)
  refine z_if_eq (pc := 5) C 17 g_2 dX6_letterOf_5 rfl (fun c_5 => ?_) (fun c_5 => ?_)
  · have c_5 := zb0 hp_2 c_5
    refine z_iconst (pc := 17) C dX6_letterOf_17 ?_
    refine hret 18 _ _ _ dX6_letterOf_18 (zRgL rfl) hR ?_
    exact ⟨by (first | rfl | omega | (split <;> first | rfl | omega) | (simp_all; done) | (split <;> split <;> first | rfl | omega) | grind), rfl⟩
  · have c_5 := zb1 hp_2 c_5
    refine z_aload_nZ (pc := 8) C dX6_letterOf_8 rfl rfl ?_
    refine z_getR (pc := 9) C fX6_29 sh31 rfl dX6_letterOf_9 ?_
    refine z_iload_n (pc := 12) C dX6_letterOf_12 rfl rfl ?_
    refine z_iald (pc := 13) C sh38 (by (try unfold zRg at *); (try simp only [IX, IM] at *); omega) (by (try unfold zRg at *); (try simp only [IX, IM] at *); omega) dX6_letterOf_13 ?_
    refine z_goto (pc := 14) C 18 dX6_letterOf_14 rfl ?_
    refine hret 18 _ _ _ dX6_letterOf_18 (hR 38 _) hR ?_
    exact ⟨by (first | rfl | omega | (split <;> first | rfl | omega) | (simp_all; done) | (split <;> split <;> first | rfl | omega) | grind), rfl⟩
set_option maxRecDepth 20000 in
theorem C_X6_operand (E : ZE) (σ : ZSt) (hR : zRs σ) (a : Int) (ha : zRg a) (b : Int) (hb : zRg b) (hI : IM σ) : ZMi E 2 yX6_operand cX6_operand 3 (some .int) [zrf E 31, ziv a, ziv b] σ (fun r σ' => (r = if 0 ≤ a ∧ a < σ 31 11 then (if b = 0 then σ 39 a.toNat else if b = 1 then σ 40 a.toNat else -10) else -1) ∧ σ' = σ) := by
  refine ZMi.intro (by decide) rfl (Nat.le_of_ble_eq_true rfl) (fun Γ C hN hret => ?_)
  show ZG E Γ 0 [some (zrf E 31), some (ziv a), some (ziv b)] [] σ
  refine z_aload_nZ (pc := 0) C dX6_operand_0 rfl rfl ?_
  refine z_iload_n (pc := 1) C dX6_operand_1 rfl rfl ?_
  refine z_callVp (pc := 2) (rest := []) C (C_X6_isNode E σ hR a ha hI) vX6_116 (by decide) sh31 rfl rfl rfl (Nat.le_of_ble_eq_true rfl) dX6_operand_2 (fun r_2 g_2 hp_2 => ?_)
  refine z_if_ne (pc := 5) C 10 g_2 dX6_operand_5 rfl (fun c_5 => ?_) (fun c_5 => ?_)
  · have c_5 := zb1 hp_2 c_5
    refine z_iload_n (pc := 10) C dX6_operand_10 rfl rfl ?_
    refine z_if_ne (pc := 11) C 23 hb dX6_operand_11 rfl (fun c_11 => ?_) (fun c_11 => ?_)
    · refine z_iload_n (pc := 23) C dX6_operand_23 rfl rfl ?_
      refine z_iconst (pc := 24) C dX6_operand_24 ?_
      refine z_icmp_ne (pc := 25) C 37 hb (zRgL rfl) dX6_operand_25 rfl (fun c_25 => ?_) (fun c_25 => ?_)
      · refine z_bipush (pc := 37) C dX6_operand_37 (by decide) ?_
        refine hret 39 _ _ _ dX6_operand_39 (zRgL rfl) hR ?_
        exact ⟨by (first | rfl | omega | (split <;> first | rfl | omega) | (simp_all; done) | (split <;> split <;> first | rfl | omega) | grind), rfl⟩
      · refine z_aload_nZ (pc := 28) C dX6_operand_28 rfl rfl ?_
        refine z_getR (pc := 29) C fX6_35 sh31 rfl dX6_operand_29 ?_
        refine z_iload_n (pc := 32) C dX6_operand_32 rfl rfl ?_
        refine z_iald (pc := 33) C sh40 (by (try unfold zRg at *); (try simp only [IX, IM] at *); omega) (by (try unfold zRg at *); (try simp only [IX, IM] at *); omega) dX6_operand_33 ?_
        refine z_goto (pc := 34) C 39 dX6_operand_34 rfl ?_
        refine hret 39 _ _ _ dX6_operand_39 (hR 40 _) hR ?_
        exact ⟨by (first | rfl | omega | (split <;> first | rfl | omega) | (simp_all; done) | (split <;> split <;> first | rfl | omega) | grind), rfl⟩
    · refine z_aload_nZ (pc := 14) C dX6_operand_14 rfl rfl ?_
      refine z_getR (pc := 15) C fX6_32 sh31 rfl dX6_operand_15 ?_
      refine z_iload_n (pc := 18) C dX6_operand_18 rfl rfl ?_
      refine z_iald (pc := 19) C sh39 (by (try unfold zRg at *); (try simp only [IX, IM] at *); omega) (by (try unfold zRg at *); (try simp only [IX, IM] at *); omega) dX6_operand_19 ?_
      refine z_goto (pc := 20) C 39 dX6_operand_20 rfl ?_
      refine hret 39 _ _ _ dX6_operand_39 (hR 39 _) hR ?_
      exact ⟨by (first | rfl | omega | (split <;> first | rfl | omega) | (simp_all; done) | (split <;> split <;> first | rfl | omega) | grind), rfl⟩
  · have c_5 := zb0 hp_2 c_5
    refine z_iconst (pc := 8) C dX6_operand_8 ?_
    refine hret 9 _ _ _ dX6_operand_9 (zRgL rfl) hR ?_
    exact ⟨by (first | rfl | omega | (split <;> first | rfl | omega) | (simp_all; done) | (split <;> split <;> first | rfl | omega) | grind), rfl⟩
set_option maxRecDepth 20000 in
theorem C_X6_size (E : ZE) (σ : ZSt) (hR : zRs σ) (a : Int) (ha : zRg a) (hI : IM σ) : ZMi E 2 yX6_size cX6_size 2 (some .int) [zrf E 31, ziv a] σ (fun r σ' => (r = if 0 ≤ a ∧ a < σ 31 11 then σ 41 a.toNat else -1) ∧ σ' = σ) := by
  refine ZMi.intro (by decide) rfl (Nat.le_of_ble_eq_true rfl) (fun Γ C hN hret => ?_)
  show ZG E Γ 0 [some (zrf E 31), some (ziv a)] [] σ
  refine z_aload_nZ (pc := 0) C dX6_size_0 rfl rfl ?_
  refine z_iload_n (pc := 1) C dX6_size_1 rfl rfl ?_
  refine z_callVp (pc := 2) (rest := []) C (C_X6_isNode E σ hR a ha hI) vX6_116 (by decide) sh31 rfl rfl rfl (Nat.le_of_ble_eq_true rfl) dX6_size_2 (fun r_2 g_2 hp_2 => ?_)
  refine z_if_eq (pc := 5) C 17 g_2 dX6_size_5 rfl (fun c_5 => ?_) (fun c_5 => ?_)
  · have c_5 := zb0 hp_2 c_5
    refine z_iconst (pc := 17) C dX6_size_17 ?_
    refine hret 18 _ _ _ dX6_size_18 (zRgL rfl) hR ?_
    exact ⟨by (first | rfl | omega | (split <;> first | rfl | omega) | (simp_all; done) | (split <;> split <;> first | rfl | omega) | grind), rfl⟩
  · have c_5 := zb1 hp_2 c_5
    refine z_aload_nZ (pc := 8) C dX6_size_8 rfl rfl ?_
    refine z_getR (pc := 9) C fX6_38 sh31 rfl dX6_size_9 ?_
    refine z_iload_n (pc := 12) C dX6_size_12 rfl rfl ?_
    refine z_iald (pc := 13) C sh41 (by (try unfold zRg at *); (try simp only [IX, IM] at *); omega) (by (try unfold zRg at *); (try simp only [IX, IM] at *); omega) dX6_size_13 ?_
    refine z_goto (pc := 14) C 18 dX6_size_14 rfl ?_
    refine hret 18 _ _ _ dX6_size_18 (hR 41 _) hR ?_
    exact ⟨by (first | rfl | omega | (split <;> first | rfl | omega) | (simp_all; done) | (split <;> split <;> first | rfl | omega) | grind), rfl⟩
set_option maxRecDepth 20000 in
theorem C_X6_outputAt (E : ZE) (σ : ZSt) (hR : zRs σ) (a : Int) (ha : zRg a) (hI : IM σ) : ZMi E 1 yX6_outputAt cX6_outputAt 2 (some .int) [zrf E 31, ziv a] σ (fun r σ' => (r = if 0 ≤ a ∧ a < σ 31 13 then σ 42 a.toNat else -9) ∧ σ' = σ) := by
  refine ZMi.intro (by decide) rfl (Nat.le_of_ble_eq_true rfl) (fun Γ C hN hret => ?_)
  show ZG E Γ 0 [some (zrf E 31), some (ziv a)] [] σ
  refine z_iload_n (pc := 0) C dX6_outputAt_0 rfl rfl ?_
  refine z_iconst (pc := 1) C dX6_outputAt_1 ?_
  refine z_aload_nZ (pc := 2) C dX6_outputAt_2 rfl rfl ?_
  refine z_getI (pc := 3) C fX6_154 sh31 rfl dX6_outputAt_3 ?_
  refine z_iconst (pc := 6) C dX6_outputAt_6 ?_
  refine z_isub (pc := 7) C dX6_outputAt_7 ?_
  refine z_callSp (pc := 8) (rest := []) C (C_X6_in E σ hR a ha 0 (zRgL rfl) ((σ 31 13) - 1) (by (try unfold zRg at *); (try simp only [IX, IM] at *); omega)) vX6_90 (by decide) rfl rfl (Nat.le_of_ble_eq_true rfl) dX6_outputAt_8 (fun r_8 g_8 hp_8 => ?_)
  refine z_if_eq (pc := 11) C 23 g_8 dX6_outputAt_11 rfl (fun c_11 => ?_) (fun c_11 => ?_)
  · have c_11 := zb0 hp_8 c_11
    refine z_bipush (pc := 23) C dX6_outputAt_23 (by decide) ?_
    refine hret 25 _ _ _ dX6_outputAt_25 (zRgL rfl) hR ?_
    exact ⟨by (first | rfl | omega | (split <;> first | rfl | omega) | (simp_all; done) | (split <;> split <;> first | rfl | omega) | grind), rfl⟩
  · have c_11 := zb1 hp_8 c_11
    refine z_aload_nZ (pc := 14) C dX6_outputAt_14 rfl rfl ?_
    refine z_getR (pc := 15) C fX6_41 sh31 rfl dX6_outputAt_15 ?_
    refine z_iload_n (pc := 18) C dX6_outputAt_18 rfl rfl ?_
    refine z_iald (pc := 19) C sh42 (by (try unfold zRg at *); (try simp only [IX, IM] at *); omega) (by (try unfold zRg at *); (try simp only [IX, IM] at *); omega) dX6_outputAt_19 ?_
    refine z_goto (pc := 20) C 25 dX6_outputAt_20 rfl ?_
    refine hret 25 _ _ _ dX6_outputAt_25 (hR 42 _) hR ?_
    exact ⟨by (first | rfl | omega | (split <;> first | rfl | omega) | (simp_all; done) | (split <;> split <;> first | rfl | omega) | grind), rfl⟩
set_option maxRecDepth 20000 in
theorem C_X6_bracketPairs (E : ZE) (σ : ZSt) (hR : zRs σ) (hI : IM σ) : ZMi E 0 yX6_bracketPairs cX6_bracketPairs 3 (some .int) [zrf E 31] σ (fun r σ' => (r = zcnt (σ 42) 40 (σ 31 13).toNat) ∧ σ' = σ) := by
  refine ZMi.intro (by decide) rfl (Nat.le_of_ble_eq_true rfl) (fun Γ C hN hret => ?_)
  show ZG E Γ 0 [some (zrf E 31), none, none] [] σ
  have hbd := hI.out
  refine z_iconst (pc := 0) C dX6_bracketPairs_0 ?_
  refine z_istore_n (pc := 1) (lv' := [some (zrf E 31), some (ziv 0), none]) C hN dX6_bracketPairs_1 rfl (by decide) rfl ?_
  refine z_iconst (pc := 2) C dX6_bracketPairs_2 ?_
  refine z_istore_n (pc := 3) (lv' := [some (zrf E 31), some (ziv 0), some (ziv 0)]) C hN dX6_bracketPairs_3 rfl (by decide) rfl ?_
  have L4 : ∀ (n : Nat) (i q : Int), zRg i → zRg q → 0 ≤ i ∧ i ≤ σ 31 13 → q = zcnt (σ 42) 40 i.toNat → (σ 31 13 - i).toNat < n → ZG E Γ 4 [some (zrf E 31), some (ziv q), some (ziv i)] [] σ := by
    intro n
    induction n with
    | zero => intro i q hi hq h0 hf hm; exact absurd hm (by omega)
    | succ n ih =>
      intro i q hi hq h0 hf hm
      have hz := zcnt_b (σ 42) 40 i.toNat
      refine z_iload_n (pc := 4) C dX6_bracketPairs_4 rfl rfl ?_
      refine z_aload_nZ (pc := 5) C dX6_bracketPairs_5 rfl rfl ?_
      refine z_getI (pc := 6) C fX6_154 sh31 rfl dX6_bracketPairs_6 ?_
      refine z_icmp_ge (pc := 9) C 37 hi (hR 31 _) dX6_bracketPairs_9 rfl (fun c_9 => ?_) (fun c_9 => ?_)
      · refine z_iload_n (pc := 37) C dX6_bracketPairs_37 rfl rfl ?_
        refine hret 38 _ _ _ dX6_bracketPairs_38 hq hR ?_
        exact ⟨by rw [hf, show i = σ 31 13 by omega], rfl⟩
      · refine z_iload_n (pc := 12) C dX6_bracketPairs_12 rfl rfl ?_
        refine z_aload_nZ (pc := 13) C dX6_bracketPairs_13 rfl rfl ?_
        refine z_getR (pc := 14) C fX6_41 sh31 rfl dX6_bracketPairs_14 ?_
        refine z_iload_n (pc := 17) C dX6_bracketPairs_17 rfl rfl ?_
        refine z_iald (pc := 18) C sh42 (by (try unfold zRg at *); (try simp only [IX, IM] at *); omega) (by (try unfold zRg at *); (try simp only [IX, IM] at *); omega) dX6_bracketPairs_18 ?_
        refine z_bipush (pc := 19) C dX6_bracketPairs_19 (by decide) ?_
        refine z_icmp_ne (pc := 21) C 28 (hR 42 _) (zRgL rfl) dX6_bracketPairs_21 rfl (fun c_21 => ?_) (fun c_21 => ?_)
        · refine z_iconst (pc := 28) C dX6_bracketPairs_28 ?_
          refine z_iadd (pc := 29) C dX6_bracketPairs_29 ?_
          refine z_istore_n (pc := 30) (lv' := [some (zrf E 31), some (ziv (q + 0)), some (ziv i)]) C hN dX6_bracketPairs_30 rfl (by decide) rfl ?_
          refine z_iinc (pc := 31) (lv' := [some (zrf E 31), some (ziv (q + 0)), some (ziv (i + 1))]) C hN dX6_bracketPairs_31 (by decide) rfl rfl ?_
          refine z_goto (pc := 34) C 4 dX6_bracketPairs_34 rfl ?_
          exact ih _ _ (by (try unfold zRg at *); (try simp only [IX, IM] at *); omega) (by (try unfold zRg at *); (try simp only [IX, IM] at *); omega) (by omega) (by rw [show (i + 1).toNat = i.toNat + 1 by omega]; unfold zcnt; first | (rw [if_pos (by assumption)]; omega) | (rw [if_neg (by assumption)]; omega)) (by omega)
        · refine z_iconst (pc := 24) C dX6_bracketPairs_24 ?_
          refine z_goto (pc := 25) C 29 dX6_bracketPairs_25 rfl ?_
          refine z_iadd (pc := 29) C dX6_bracketPairs_29 ?_
          refine z_istore_n (pc := 30) (lv' := [some (zrf E 31), some (ziv (q + 1)), some (ziv i)]) C hN dX6_bracketPairs_30 rfl (by decide) rfl ?_
          refine z_iinc (pc := 31) (lv' := [some (zrf E 31), some (ziv (q + 1)), some (ziv (i + 1))]) C hN dX6_bracketPairs_31 (by decide) rfl rfl ?_
          refine z_goto (pc := 34) C 4 dX6_bracketPairs_34 rfl ?_
          exact ih _ _ (by (try unfold zRg at *); (try simp only [IX, IM] at *); omega) (by (try unfold zRg at *); (try simp only [IX, IM] at *); omega) (by omega) (by rw [show (i + 1).toNat = i.toNat + 1 by omega]; unfold zcnt; first | (rw [if_pos (by assumption)]; omega) | (rw [if_neg (by assumption)]; omega)) (by omega)
  exact L4 _ 0 0 (zRgL rfl) (zRgL rfl) (by omega) rfl (Nat.lt_succ_self _)
set_option maxRecDepth 20000 in
theorem C_X6_openingOf (E : ZE) (σ : ZSt) (hR : zRs σ) (a : Int) (ha : zRg a) (hI : IM σ) : ZMi E 0 yX6_openingOf cX6_openingOf 4 (some .int) [zrf E 31, ziv a] σ (fun r σ' => (r = zd (zopn (σ 42) a 0 (σ 31 13).toNat 0)) ∧ σ' = σ) := by
  refine ZMi.intro (by decide) rfl (Nat.le_of_ble_eq_true rfl) (fun Γ C hN hret => ?_)
  show ZG E Γ 0 [some (zrf E 31), some (ziv a), none, none] [] σ
  have hbd := hI.out
  refine z_iconst (pc := 0) C dX6_openingOf_0 ?_
  refine z_istore_n (pc := 1) (lv' := [some (zrf E 31), some (ziv a), some (ziv 0), none]) C hN dX6_openingOf_1 rfl (by decide) rfl ?_
  refine z_iconst (pc := 2) C dX6_openingOf_2 ?_
  refine z_istore_n (pc := 3) (lv' := [some (zrf E 31), some (ziv a), some (ziv 0), some (ziv 0)]) C hN dX6_openingOf_3 rfl (by decide) rfl ?_
  have L4 : ∀ (n : Nat) (i q : Int), zRg i → zRg q → 0 ≤ i ∧ i ≤ σ 31 13 → 0 ≤ q ∧ q ≤ i → zopn (σ 42) a 0 (σ 31 13).toNat 0 = zopn (σ 42) a i.toNat (σ 31 13 - i).toNat q → (σ 31 13 - i).toNat < n → ZG E Γ 4 [some (zrf E 31), some (ziv a), some (ziv q), some (ziv i)] [] σ := by
    intro n
    induction n with
    | zero => intro i q hi hq h0 hqi hf hm; exact absurd hm (by omega)
    | succ n ih =>
      intro i q hi hq h0 hqi hf hm
      refine z_iload_n (pc := 4) C dX6_openingOf_4 rfl rfl ?_
      refine z_aload_nZ (pc := 5) C dX6_openingOf_5 rfl rfl ?_
      refine z_getI (pc := 6) C fX6_154 sh31 rfl dX6_openingOf_6 ?_
      refine z_icmp_ge (pc := 9) C 39 hi (hR 31 _) dX6_openingOf_9 rfl (fun c_9 => ?_) (fun c_9 => ?_)
      · refine z_bipush (pc := 39) C dX6_openingOf_39 (by decide) ?_
        refine hret 41 _ _ _ dX6_openingOf_41 (zRgL rfl) hR ?_
        exact ⟨by rw [hf, show (σ 31 13 - i).toNat = 0 by omega]; rfl, rfl⟩
      · refine z_aload_nZ (pc := 12) C dX6_openingOf_12 rfl rfl ?_
        refine z_getR (pc := 13) C fX6_41 sh31 rfl dX6_openingOf_13 ?_
        refine z_iload_n (pc := 16) C dX6_openingOf_16 rfl rfl ?_
        refine z_iald (pc := 17) C sh42 (by (try unfold zRg at *); (try simp only [IX, IM] at *); omega) (by (try unfold zRg at *); (try simp only [IX, IM] at *); omega) dX6_openingOf_17 ?_
        refine z_bipush (pc := 18) C dX6_openingOf_18 (by decide) ?_
        refine z_icmp_ne (pc := 20) C 33 (hR 42 _) (zRgL rfl) dX6_openingOf_20 rfl (fun c_20 => ?_) (fun c_20 => ?_)
        · refine z_iinc (pc := 33) (lv' := [some (zrf E 31), some (ziv a), some (ziv q), some (ziv (i + 1))]) C hN dX6_openingOf_33 (by decide) rfl rfl ?_
          refine z_goto (pc := 36) C 4 dX6_openingOf_36 rfl ?_
          exact ih _ _ (by (try unfold zRg at *); (try simp only [IX, IM] at *); omega) hq (by omega) (by omega) (by rw [hf, zopn_st (by omega)]; first | (rw [if_pos (by assumption), if_neg (by assumption)]; done) | (rw [if_neg (by assumption)]; done)) (by omega)
        · refine z_iload_n (pc := 23) C dX6_openingOf_23 rfl rfl ?_
          refine z_iload_n (pc := 24) C dX6_openingOf_24 rfl rfl ?_
          refine z_icmp_ne (pc := 25) C 30 hq ha dX6_openingOf_25 rfl (fun c_25 => ?_) (fun c_25 => ?_)
          · refine z_iinc (pc := 30) (lv' := [some (zrf E 31), some (ziv a), some (ziv (q + 1)), some (ziv i)]) C hN dX6_openingOf_30 (by decide) rfl rfl ?_
            refine z_iinc (pc := 33) (lv' := [some (zrf E 31), some (ziv a), some (ziv (q + 1)), some (ziv (i + 1))]) C hN dX6_openingOf_33 (by decide) rfl rfl ?_
            refine z_goto (pc := 36) C 4 dX6_openingOf_36 rfl ?_
            exact ih _ _ (by (try unfold zRg at *); (try simp only [IX, IM] at *); omega) (by (try unfold zRg at *); (try simp only [IX, IM] at *); omega) (by omega) (by omega) (by rw [hf, zopn_st (by omega)]; first | (rw [if_pos (by assumption), if_neg (by assumption)]; done) | (rw [if_neg (by assumption)]; done)) (by omega)
          · refine z_iload_n (pc := 28) C dX6_openingOf_28 rfl rfl ?_
            refine hret 29 _ _ _ dX6_openingOf_29 hi hR ?_
            exact ⟨by rw [hf, zopn_st (by omega), if_pos (by assumption), if_pos (by assumption)]; unfold zd; rw [if_neg (by omega)], rfl⟩
  exact L4 _ 0 0 (zRgL rfl) (zRgL rfl) (by omega) (by omega) (by simp) (Nat.lt_succ_self _)
set_option maxRecDepth 20000 in
theorem C_X6_closingOf (E : ZE) (σ : ZSt) (hR : zRs σ) (a : Int) (ha : zRg a) (hI : IM σ) (ha0 : 0 ≤ a ∧ a < σ 31 13) (hne : zclo (σ 42) (a + 1).toNat (σ 31 13 - (a + 1)).toNat 1 ≠ -1) : ZMi E 0 yX6_closingOf cX6_closingOf 4 (some .int) [zrf E 31, ziv a] σ (fun r σ' => (r = zclo (σ 42) (a + 1).toNat (σ 31 13 - (a + 1)).toNat 1) ∧ σ' = σ) := by
  refine ZMi.intro (by decide) rfl (Nat.le_of_ble_eq_true rfl) (fun Γ C hN hret => ?_)
  show ZG E Γ 0 [some (zrf E 31), some (ziv a), none, none] [] σ
  have hbd := hI.out
  refine z_iconst (pc := 0) C dX6_closingOf_0 ?_
  refine z_istore_n (pc := 1) (lv' := [some (zrf E 31), some (ziv a), some (ziv 1), none]) C hN dX6_closingOf_1 rfl (by decide) rfl ?_
  refine z_iload_n (pc := 2) C dX6_closingOf_2 rfl rfl ?_
  refine z_istore_n (pc := 3) (lv' := [some (zrf E 31), some (ziv a), some (ziv 1), some (ziv a)]) C hN dX6_closingOf_3 rfl (by decide) rfl ?_
  have L4 : ∀ (n : Nat) (i d : Int), zRg i → zRg d → 0 ≤ i ∧ i < σ 31 13 → 0 ≤ d ∧ d ≤ i + 1 → zcI (σ 42) (σ 31 13) (zclo (σ 42) (a + 1).toNat (σ 31 13 - (a + 1)).toNat 1) d i → (σ 31 13 - i).toNat < n → ZG E Γ 4 [some (zrf E 31), some (ziv a), some (ziv d), some (ziv i)] [] σ := by
    intro n
    induction n with
    | zero => intro i d hi hd h0 hdi hf hm; exact absurd hm (by omega)
    | succ n ih =>
      intro i d hi hd h0 hdi hf hm
      refine z_iload_n (pc := 4) C dX6_closingOf_4 rfl rfl ?_
      refine z_if_le (pc := 5) C 48 hd dX6_closingOf_5 rfl (fun c_5 => ?_) (fun c_5 => ?_)
      · refine z_iload_n (pc := 48) C dX6_closingOf_48 rfl rfl ?_
        refine hret 49 _ _ _ dX6_closingOf_49 hi hR ?_
        exact ⟨by rcases hf with w | w <;> omega, rfl⟩
      · have hin := zclo_in hf c_5 hne
        refine z_iinc (pc := 8) (lv' := [some (zrf E 31), some (ziv a), some (ziv d), some (ziv (i + 1))]) C hN dX6_closingOf_8 (by decide) rfl rfl ?_
        refine z_iload_n (pc := 11) C dX6_closingOf_11 rfl rfl ?_
        refine z_aload_nZ (pc := 12) C dX6_closingOf_12 rfl rfl ?_
        refine z_getR (pc := 13) C fX6_41 sh31 rfl dX6_closingOf_13 ?_
        refine z_iload_n (pc := 16) C dX6_closingOf_16 rfl rfl ?_
        refine z_iald (pc := 17) C sh42 (by (try unfold zRg at *); (try simp only [IX, IM] at *); omega) (by (try unfold zRg at *); (try simp only [IX, IM] at *); omega) dX6_closingOf_17 ?_
        refine z_bipush (pc := 18) C dX6_closingOf_18 (by decide) ?_
        refine z_icmp_ne (pc := 20) C 27 (hR 42 _) (zRgL rfl) dX6_closingOf_20 rfl (fun c_20 => ?_) (fun c_20 => ?_)
        · refine z_aload_nZ (pc := 27) C dX6_closingOf_27 rfl rfl ?_
          refine z_getR (pc := 28) C fX6_41 sh31 rfl dX6_closingOf_28 ?_
          refine z_iload_n (pc := 31) C dX6_closingOf_31 rfl rfl ?_
          refine z_iald (pc := 32) C sh42 (by (try unfold zRg at *); (try simp only [IX, IM] at *); omega) (by (try unfold zRg at *); (try simp only [IX, IM] at *); omega) dX6_closingOf_32 ?_
          refine z_bipush (pc := 33) C dX6_closingOf_33 (by decide) ?_
          refine z_icmp_ne (pc := 35) C 42 (hR 42 _) (zRgL rfl) dX6_closingOf_35 rfl (fun c_35 => ?_) (fun c_35 => ?_)
          · refine z_iconst (pc := 42) C dX6_closingOf_42 ?_
            refine z_iadd (pc := 43) C dX6_closingOf_43 ?_
            refine z_istore_n (pc := 44) (lv' := [some (zrf E 31), some (ziv a), some (ziv (d + 0)), some (ziv (i + 1))]) C hN dX6_closingOf_44 rfl (by decide) rfl ?_
            refine z_goto (pc := 45) C 4 dX6_closingOf_45 rfl ?_
            exact ih _ _ (by (try unfold zRg at *); (try simp only [IX, IM] at *); omega) (by (try unfold zRg at *); (try simp only [IX, IM] at *); omega) (by omega) (by omega) (by first | exact zclo_40 hf c_5 (by omega) (by assumption) | exact zclo_41 hf c_5 (by omega) (by assumption) | exact zclo_no hf c_5 (by omega) (by assumption) (by assumption)) (by omega)
          · refine z_iconst (pc := 38) C dX6_closingOf_38 ?_
            refine z_goto (pc := 39) C 43 dX6_closingOf_39 rfl ?_
            refine z_iadd (pc := 43) C dX6_closingOf_43 ?_
            refine z_istore_n (pc := 44) (lv' := [some (zrf E 31), some (ziv a), some (ziv (d + (-1))), some (ziv (i + 1))]) C hN dX6_closingOf_44 rfl (by decide) rfl ?_
            refine z_goto (pc := 45) C 4 dX6_closingOf_45 rfl ?_
            exact ih _ _ (by (try unfold zRg at *); (try simp only [IX, IM] at *); omega) (by (try unfold zRg at *); (try simp only [IX, IM] at *); omega) (by omega) (by omega) (by first | exact zclo_40 hf c_5 (by omega) (by assumption) | exact zclo_41 hf c_5 (by omega) (by assumption) | exact zclo_no hf c_5 (by omega) (by assumption) (by assumption)) (by omega)
        · refine z_iconst (pc := 23) C dX6_closingOf_23 ?_
          refine z_goto (pc := 24) C 43 dX6_closingOf_24 rfl ?_
          refine z_iadd (pc := 43) C dX6_closingOf_43 ?_
          refine z_istore_n (pc := 44) (lv' := [some (zrf E 31), some (ziv a), some (ziv (d + 1)), some (ziv (i + 1))]) C hN dX6_closingOf_44 rfl (by decide) rfl ?_
          refine z_goto (pc := 45) C 4 dX6_closingOf_45 rfl ?_
          exact ih _ _ (by (try unfold zRg at *); (try simp only [IX, IM] at *); omega) (by (try unfold zRg at *); (try simp only [IX, IM] at *); omega) (by omega) (by omega) (by first | exact zclo_40 hf c_5 (by omega) (by assumption) | exact zclo_41 hf c_5 (by omega) (by assumption) | exact zclo_no hf c_5 (by omega) (by assumption) (by assumption)) (by omega)
  exact L4 _ a 1 ha (zRgL rfl) (by omega) (by omega) (Or.inl ⟨by omega, rfl⟩) (Nat.lt_succ_self _)
set_option maxRecDepth 20000 in
theorem C_X6_append (E : ZE) (σ : ZSt) (hR : zRs σ) (a : Int) (ha : zRg a) (hI : IM σ) : ZMi E 1 yX6_append cX6_append 2 (some .int) [zrf E 31, ziv a] σ (fun r σ' => r = (mappend σ a).1 ∧ σ' = (mappend σ a).2) := by
  refine ZMi.intro (by decide) rfl (Nat.le_of_ble_eq_true rfl) (fun Γ C hN hret => ?_)
  show ZG E Γ 0 [some (zrf E 31), some (ziv a)] [] σ
  have hbd := hI.inp
  refine z_iload_n (pc := 0) C dX6_append_0 rfl rfl ?_
  refine z_bipush (pc := 1) C dX6_append_1 (by decide) ?_
  refine z_bipush (pc := 3) C dX6_append_3 (by decide) ?_
  refine z_callSp (pc := 5) (rest := []) C (C_X6_in E σ hR a ha 33 (zRgL rfl) 126 (zRgL rfl)) vX6_90 (by decide) rfl rfl (Nat.le_of_ble_eq_true rfl) dX6_append_5 (fun r_5 g_5 hp_5 => ?_)
  refine z_if_ne (pc := 8) C 14 g_5 dX6_append_8 rfl (fun c_8 => ?_) (fun c_8 => ?_)
  · have c_8 := zb1 hp_5 c_8
    refine z_aload_nZ (pc := 14) C dX6_append_14 rfl rfl ?_
    refine z_getI (pc := 15) C fX6_251 sh31 rfl dX6_append_15 ?_
    refine z_bipush (pc := 18) C dX6_append_18 (by decide) ?_
    refine z_icmp_ne (pc := 20) C 26 (hR 31 _) (zRgL rfl) dX6_append_20 rfl (fun c_20 => ?_) (fun c_20 => ?_)
    · refine z_aload_nZ (pc := 26) C dX6_append_26 rfl rfl ?_
      refine z_getR (pc := 27) C fX6_48 sh31 rfl dX6_append_27 ?_
      refine z_aload_nZ (pc := 30) C dX6_append_30 rfl rfl ?_
      refine z_getI (pc := 31) C fX6_251 sh31 rfl dX6_append_31 ?_
      refine z_iload_n (pc := 34) C dX6_append_34 rfl rfl ?_
      refine z_iast (pc := 35) C hR sh43 (by (try unfold zRg at *); (try simp only [IX, IM] at *); omega) (by (try unfold zRg at *); (try simp only [IX, IM] at *); omega) ha dX6_append_35 (fun σ_35 e_35 hR_35 => ?_)
      have hI_35 : IM σ_35 := by rw [e_35]; exact hI.upA rfl
      refine z_aload_nZ (pc := 36) C dX6_append_36 rfl rfl ?_
      refine z_dup (pc := 37) C dX6_append_37 rfl ?_
      refine z_getIe (pc := 38) (v := σ 31 16) C fX6_251 sh31 rfl dX6_append_38 (by rw [e_35, zup_cell (by omega)]) ?_
      refine z_iconst (pc := 41) C dX6_append_41 ?_
      refine z_iadd (pc := 42) C dX6_append_42 ?_
      refine z_putI (pc := 43) C hR_35 fX6_251 sh31 rfl (by (try unfold zRg at *); (try simp only [IX, IM] at *); omega) dX6_append_43 (fun σ_43 e_43 hR_43 => ?_)
      have hI_43 : IM σ_43 := by rw [e_43]; exact hI_35.up16 (by (try unfold zRg at *); (try simp only [IX, IM] at *); omega)
      refine z_aload_nZ (pc := 46) C dX6_append_46 rfl rfl ?_
      refine z_getIe (pc := 47) (v := (σ 31 16) + 1) C fX6_251 sh31 rfl dX6_append_47 (by rw [e_43, zup_same]) ?_
      refine hret 50 _ _ _ dX6_append_50 (by (try unfold zRg at *); (try simp only [IX, IM] at *); omega) hR_43 ?_
      unfold mappend
      repeat (first | rw [if_pos (by first | assumption | omega)] | rw [if_neg (by first | assumption | omega)])
      refine ⟨?_, ?_⟩ <;> (first | rfl | assumption | (dsimp only; omega) | (simp_all; done) | grind)
    · refine z_bipush (pc := 23) C dX6_append_23 (by decide) ?_
      refine hret 25 _ _ _ dX6_append_25 (zRgL rfl) hR ?_
      unfold mappend
      repeat (first | rw [if_pos (by first | assumption | omega)] | rw [if_neg (by first | assumption | omega)])
      refine ⟨?_, ?_⟩ <;> (first | rfl | assumption | (dsimp only; omega) | (simp_all; done) | grind)
  · have c_8 := zb0 hp_5 c_8
    refine z_bipush (pc := 11) C dX6_append_11 (by decide) ?_
    refine hret 13 _ _ _ dX6_append_13 (zRgL rfl) hR ?_
    unfold mappend
    repeat (first | rw [if_pos (by first | assumption | omega)] | rw [if_neg (by first | assumption | omega)])
    refine ⟨?_, ?_⟩ <;> (first | rfl | assumption | (dsimp only; omega) | (simp_all; done) | grind)
set_option maxRecDepth 20000 in
theorem C_X6_copyOutput (E : ZE) (σ : ZSt) (hR : zRs σ) (hI : IM σ) : ZMi E 0 yX6_copyOutput cX6_copyOutput 2 (some .int) [zrf E 31] σ (fun r σ' => r = σ 31 13 ∧ σ' = mcopyOut σ) := by
  refine ZMi.intro (by decide) rfl (Nat.le_of_ble_eq_true rfl) (fun Γ C hN hret => ?_)
  show ZG E Γ 0 [some (zrf E 31), none] [] σ
  have hbd := hI.out
  refine z_aload_nZ (pc := 0) C dX6_copyOutput_0 rfl rfl ?_
  refine z_aload_nZ (pc := 1) C dX6_copyOutput_1 rfl rfl ?_
  refine z_getI (pc := 2) C fX6_154 sh31 rfl dX6_copyOutput_2 ?_
  refine z_putI (pc := 5) C hR fX6_251 sh31 rfl (hR 31 _) dX6_copyOutput_5 (fun σ_5 e_5 hR_5 => ?_)
  have hI_5 : IM σ_5 := by rw [e_5]; exact hI.up16 (by (try unfold zRg at *); (try simp only [IX, IM] at *); omega)
  refine z_iconst (pc := 8) C dX6_copyOutput_8 ?_
  refine z_istore_n (pc := 9) (lv' := [some (zrf E 31), some (ziv 0)]) C hN dX6_copyOutput_9 rfl (by decide) rfl ?_
  have L10 : ∀ (n : Nat) (i : Int) (τ : ZSt), zRg i → 0 ≤ i ∧ i ≤ σ 31 13 → τ = mrow (zup σ 31 16 (σ 31 13)) 43 (σ 42) i.toNat → zRs τ → IM τ → (σ 31 13 - i).toNat < n → ZG E Γ 10 [some (zrf E 31), some (ziv i)] [] τ := by
    intro n
    induction n with
    | zero => intro i τ hi h0 ht hRt hIt hm; exact absurd hm (by omega)
    | succ n ih =>
      intro i τ hi h0 ht hRt hIt hm
      have hq : ∀ c, c ≠ 43 → c ≠ 31 → τ c = σ c := fun c hc hc2 => by rw [ht, mrow_row hc, zup_row hc2]
      have hq31 : τ 31 = zup σ 31 16 (σ 31 13) 31 := by rw [ht, mrow_row (by decide)]
      refine z_iload_n (pc := 10) C dX6_copyOutput_10 rfl rfl ?_
      refine z_aload_nZ (pc := 11) C dX6_copyOutput_11 rfl rfl ?_
      refine z_getIe (pc := 12) (v := σ 31 13) C fX6_154 sh31 rfl dX6_copyOutput_12 (by rw [hq31, zup_place (by decide)]) ?_
      refine z_icmp_ge (pc := 15) C 36 hi (hR 31 13) dX6_copyOutput_15 rfl (fun c_15 => ?_) (fun c_15 => ?_)
      · refine z_aload_nZ (pc := 36) C dX6_copyOutput_36 rfl rfl ?_
        refine z_getIe (pc := 37) (v := σ 31 13) C fX6_251 sh31 rfl dX6_copyOutput_37 (by rw [hq31, zup_same]) ?_
        refine hret 40 _ _ _ dX6_copyOutput_40 (hR 31 13) hRt ?_
        exact ⟨rfl, by rw [ht, show i = σ 31 13 by omega]; rfl⟩
      · refine z_aload_nZ (pc := 18) C dX6_copyOutput_18 rfl rfl ?_
        refine z_getR (pc := 19) C fX6_48 sh31 rfl dX6_copyOutput_19 ?_
        refine z_iload_n (pc := 22) C dX6_copyOutput_22 rfl rfl ?_
        refine z_aload_nZ (pc := 23) C dX6_copyOutput_23 rfl rfl ?_
        refine z_getR (pc := 24) C fX6_41 sh31 rfl dX6_copyOutput_24 ?_
        refine z_iload_n (pc := 27) C dX6_copyOutput_27 rfl rfl ?_
        refine z_ialde (pc := 28) (v := σ 42 i.toNat) C sh42 (by (try unfold zRg at *); (try simp only [IX, IM] at *); omega) (by (try unfold zRg at *); (try simp only [IX, IM] at *); omega) dX6_copyOutput_28 (by rw [hq 42 (by decide) (by decide)]) ?_
        refine z_iast (pc := 29) C hRt sh43 (by (try unfold zRg at *); (try simp only [IX, IM] at *); omega) (by (try unfold zRg at *); (try simp only [IX, IM] at *); omega) (hR 42 _) dX6_copyOutput_29 (fun σ_29 e_29 hR_29 => ?_)
        have hI_29 : IM σ_29 := by rw [e_29]; exact hIt.upA rfl
        refine z_iinc (pc := 30) (lv' := [some (zrf E 31), some (ziv (i + 1))]) C hN dX6_copyOutput_30 (by decide) rfl rfl ?_
        refine z_goto (pc := 33) C 10 dX6_copyOutput_33 rfl ?_
        exact ih _ _ (by (try unfold zRg at *); (try simp only [IX, IM] at *); omega) (by omega) (by rw [e_29, ht, show (i + 1).toNat = i.toNat + 1 by omega, ← mrow_st]) hR_29 hI_29 (by omega)
  exact L10 _ 0 σ_5 (zRgL rfl) (by omega) (by rw [e_5]; exact (mrow_0 _ _ _).symm) hR_5 hI_5 (Nat.lt_succ_self _)
set_option maxRecDepth 20000 in
theorem C_X6_clearInput (E : ZE) (σ : ZSt) (hR : zRs σ) (hI : IM σ) : ZMi E 0 yX6_clearInput cX6_clearInput 2 (some .int) [zrf E 31] σ (fun r σ' => r = σ 31 16 ∧ σ' = zup σ 31 16 0) := by
  refine ZMi.intro (by decide) rfl (Nat.le_of_ble_eq_true rfl) (fun Γ C hN hret => ?_)
  show ZG E Γ 0 [some (zrf E 31), none] [] σ
  refine z_aload_nZ (pc := 0) C dX6_clearInput_0 rfl rfl ?_
  refine z_getI (pc := 1) C fX6_251 sh31 rfl dX6_clearInput_1 ?_
  refine z_istore_n (pc := 4) (lv' := [some (zrf E 31), some (ziv (σ 31 16))]) C hN dX6_clearInput_4 rfl (by decide) rfl ?_
  refine z_aload_nZ (pc := 5) C dX6_clearInput_5 rfl rfl ?_
  refine z_iconst (pc := 6) C dX6_clearInput_6 ?_
  refine z_putI (pc := 7) C hR fX6_251 sh31 rfl (zRgL rfl) dX6_clearInput_7 (fun σ_7 e_7 hR_7 => ?_)
  have hI_7 : IM σ_7 := by rw [e_7]; exact hI.up16 (by (try unfold zRg at *); (try simp only [IX, IM] at *); omega)
  refine z_iload_n (pc := 10) C dX6_clearInput_10 rfl rfl ?_
  refine hret 11 _ _ _ dX6_clearInput_11 (hR 31 _) hR_7 ?_
  exact ⟨rfl, by assumption⟩
set_option maxRecDepth 20000 in
theorem C_X6_errorKind (E : ZE) (σ : ZSt) (hR : zRs σ) : ZMi E 0 yX6_errorKind cX6_errorKind 1 (some .int) [zrf E 31] σ (fun r σ' => (r = σ 31 17) ∧ σ' = σ) := by
  refine ZMi.intro (by decide) rfl (Nat.le_of_ble_eq_true rfl) (fun Γ C hN hret => ?_)
  show ZG E Γ 0 [some (zrf E 31)] [] σ
  refine z_aload_nZ (pc := 0) C dX6_errorKind_0 rfl rfl ?_
  refine z_getI (pc := 1) C fX6_51 sh31 rfl dX6_errorKind_1 ?_
  refine hret 4 _ _ _ dX6_errorKind_4 (hR 31 _) hR ?_
  exact ⟨by (first | rfl | omega | (split <;> first | rfl | omega) | (simp_all; done) | (split <;> split <;> first | rfl | omega) | grind), rfl⟩
set_option maxRecDepth 20000 in
theorem C_X6_errorPosition (E : ZE) (σ : ZSt) (hR : zRs σ) : ZMi E 0 yX6_errorPosition cX6_errorPosition 1 (some .int) [zrf E 31] σ (fun r σ' => (r = σ 31 18) ∧ σ' = σ) := by
  refine ZMi.intro (by decide) rfl (Nat.le_of_ble_eq_true rfl) (fun Γ C hN hret => ?_)
  show ZG E Γ 0 [some (zrf E 31)] [] σ
  refine z_aload_nZ (pc := 0) C dX6_errorPosition_0 rfl rfl ?_
  refine z_getI (pc := 1) C fX6_54 sh31 rfl dX6_errorPosition_1 ?_
  refine hret 4 _ _ _ dX6_errorPosition_4 (hR 31 _) hR ?_
  exact ⟨by (first | rfl | omega | (split <;> first | rfl | omega) | (simp_all; done) | (split <;> split <;> first | rfl | omega) | grind), rfl⟩
