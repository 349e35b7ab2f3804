theorem X1_find_st {σ : ZSt} {a b i : Int} (h : 0 ≤ i ∧ i < σ 1 5) : zfnd (σ 2) (σ 3) a b i.toNat (σ 1 5 - i).toNat = if σ 2 i.toNat = a ∧ (if σ 3 i.toNat = 1 then (1 : Int) else 0) = b then i else zfnd (σ 2) (σ 3) a b (i + 1).toNat (σ 1 5 - (i + 1)).toNat := by
  obtain ⟨n, hn⟩ : ∃ n : Nat, (σ 1 5 - i).toNat = n + 1 := ⟨(σ 1 5 - i).toNat - 1, by omega⟩
  rw [hn]
  show (if _ then ((i.toNat : Nat) : Int) else _) = _
  rw [show (σ 1 5 - (i + 1)).toNat = n by omega, show (i + 1).toNat = i.toNat + 1 by omega, show ((i.toNat : Nat) : Int) = i by omega]
set_option maxRecDepth 20000 in
theorem C_X1_find (E : ZE) (σ : ZSt) (hR : zRs σ) (a : Int) (ha : zRg a) (b : Int) (hb : b = 0 ∨ b = 1) (hI : IX σ) : ZMi E 0 yX1_find cX1_find 4 (some .int) [zrf E 1, ziv a, ziv b] σ (fun r σ' => (r = xfind σ a b) ∧ σ' = σ) := by
  refine ZMi.intro (by decide) rfl (Nat.le_of_ble_eq_true rfl) (fun Γ C hN hret => ?_)
  show ZG E Γ 0 [some (zrf E 1), some (ziv a), some (ziv b), none] [] σ
  refine z_iconst (pc := 0) C dX1_find_0 ?_
  refine z_istore_n (pc := 1) (lv' := [some (zrf E 1), some (ziv a), some (ziv b), some (ziv 0)]) C hN dX1_find_1 rfl (by decide) rfl ?_
  have L2 : ∀ (n : Nat) (i : Int), zRg i → 0 ≤ i ∧ i ≤ σ 1 5 → xfind σ a b = zfnd (σ 2) (σ 3) a b i.toNat (σ 1 5 - i).toNat → (σ 1 5 - i).toNat < n → ZG E Γ 2 [some (zrf E 1), some (ziv a), some (ziv b), some (ziv i)] [] σ := by
    intro n
    induction n with
    | zero => intro i hi h0 hf hm; exact absurd hm (by omega)
    | succ n ih =>
      intro i hi h0 hf hm
      refine z_iload_n (pc := 2) C dX1_find_2 rfl rfl ?_
      refine z_aload_nZ (pc := 3) C dX1_find_3 rfl rfl ?_
      refine z_getI (pc := 4) C fX1_28 sh1 rfl dX1_find_4 ?_
      refine z_icmp_ge (pc := 7) C 47 hi (hR 1 _) dX1_find_7 rfl (fun c_7 => ?_) (fun c_7 => ?_)
      · refine z_iconst (pc := 47) C dX1_find_47 ?_
        refine hret 48 _ _ _ dX1_find_48 (zRgL rfl) hR ?_
        exact ⟨by rw [hf, show (σ 1 5 - i).toNat = 0 by omega]; rfl, rfl⟩
      · refine z_aload_nZ (pc := 10) C dX1_find_10 rfl rfl ?_
        refine z_getR (pc := 11) C fX1_9 sh1 rfl dX1_find_11 ?_
        refine z_iload_n (pc := 14) C dX1_find_14 rfl rfl ?_
        refine z_iald (pc := 15) C sh2 (by (try unfold zRg at *); (try simp only [IX] at *); omega) (by (try unfold zRg at *); (try simp only [IX] at *); omega) dX1_find_15 ?_
        refine z_iload_n (pc := 16) C dX1_find_16 rfl rfl ?_
        refine z_icmp_ne (pc := 17) C 41 (hR 2 _) ha dX1_find_17 rfl (fun c_17 => ?_) (fun c_17 => ?_)
        · refine z_iinc (pc := 41) (lv' := [some (zrf E 1), some (ziv a), some (ziv b), some (ziv (i + 1))]) C hN dX1_find_41 (by decide) rfl rfl ?_
          refine z_goto (pc := 44) C 2 dX1_find_44 rfl ?_
          exact ih _ (by (try unfold zRg at *); (try simp only [IX] at *); omega) (by omega) (by rw [hf, X1_find_st (by omega)]; first | (rw [if_neg (by simp_all)]; done) | grind) (by omega)
        · refine z_aload_nZ (pc := 20) C dX1_find_20 rfl rfl ?_
          refine z_getR (pc := 21) C fX1_15 sh1 rfl dX1_find_21 ?_
          refine z_iload_n (pc := 24) C dX1_find_24 rfl rfl ?_
          refine z_iald (pc := 25) C sh3 (by (try unfold zRg at *); (try simp only [IX] at *); omega) (by (try unfold zRg at *); (try simp only [IX] at *); omega) dX1_find_25 ?_
          refine z_iconst (pc := 26) C dX1_find_26 ?_
          refine z_icmp_ne (pc := 27) C 34 (hR 3 _) (zRgL rfl) dX1_find_27 rfl (fun c_27 => ?_) (fun c_27 => ?_)
          · refine z_iconst (pc := 34) C dX1_find_34 ?_
            refine z_iload_n (pc := 35) C dX1_find_35 rfl rfl ?_
            refine z_icmp_ne (pc := 36) C 41 (zRgL rfl) (zRg01 hb) dX1_find_36 rfl (fun c_36 => ?_) (fun c_36 => ?_)
            · refine z_iinc (pc := 41) (lv' := [some (zrf E 1), some (ziv a), some (ziv b), some (ziv (i + 1))]) C hN dX1_find_41 (by decide) rfl rfl ?_
              refine z_goto (pc := 44) C 2 dX1_find_44 rfl ?_
              exact ih _ (by (try unfold zRg at *); (try simp only [IX] at *); omega) (by omega) (by rw [hf, X1_find_st (by omega)]; first | (rw [if_neg (by simp_all)]; done) | grind) (by omega)
            · refine z_iload_n (pc := 39) C dX1_find_39 rfl rfl ?_
              refine hret 40 _ _ _ dX1_find_40 hi hR ?_
              exact ⟨by rw [hf, X1_find_st (by omega), if_pos (by simp_all)], rfl⟩
          · refine z_iconst (pc := 30) C dX1_find_30 ?_
            refine z_goto (pc := 31) C 35 dX1_find_31 rfl ?_
            refine z_iload_n (pc := 35) C dX1_find_35 rfl rfl ?_
            refine z_icmp_ne (pc := 36) C 41 (zRgL rfl) (zRg01 hb) dX1_find_36 rfl (fun c_36 => ?_) (fun c_36 => ?_)
            · refine z_iinc (pc := 41) (lv' := [some (zrf E 1), some (ziv a), some (ziv b), some (ziv (i + 1))]) C hN dX1_find_41 (by decide) rfl rfl ?_
              refine z_goto (pc := 44) C 2 dX1_find_44 rfl ?_
              exact ih _ (by (try unfold zRg at *); (try simp only [IX] at *); omega) (by omega) (by rw [hf, X1_find_st (by omega)]; first | (rw [if_neg (by simp_all)]; done) | grind) (by omega)
            · refine z_iload_n (pc := 39) C dX1_find_39 rfl rfl ?_
              refine hret 40 _ _ _ dX1_find_40 hi hR ?_
              exact ⟨by rw [hf, X1_find_st (by omega), if_pos (by simp_all)], rfl⟩
  exact L2 _ 0 (zRgL rfl) (by (try simp only [IX] at *); omega) (by simp [xfind]) (Nat.lt_succ_self _)
set_option maxRecDepth 20000 in
theorem C_X1_add (E : ZE) (σ : ZSt) (hR : zRs σ) (a : Int) (ha : zRg a) (b : Int) (hb : zRg b) (c : Int) (hc : zRg c) (hI : IX σ) (hc9 : 0 ≤ c ∧ c ≤ 9) : ZMi E 0 yX1_add cX1_add 4 (some .int) [zrf E 1, ziv a, ziv b, ziv c] σ (fun r σ' => r = (if 16 ≤ σ 1 5 then -1 else σ 1 5) ∧ σ' = xopadd σ a b c) := by
  refine ZMi.intro (by decide) rfl (Nat.le_of_ble_eq_true rfl) (fun Γ C hN hret => ?_)
  show ZG E Γ 0 [some (zrf E 1), some (ziv a), some (ziv b), some (ziv c)] [] σ
  refine z_aload_nZ (pc := 0) C dX1_add_0 rfl rfl ?_
  refine z_getI (pc := 1) C fX1_28 sh1 rfl dX1_add_1 ?_
  refine z_bipush (pc := 4) C dX1_add_4 (by decide) ?_
  refine z_icmp_lt (pc := 6) C 11 (hR 1 _) (zRgL rfl) dX1_add_6 rfl (fun c_6 => ?_) (fun c_6 => ?_)
  · refine z_aload_nZ (pc := 11) C dX1_add_11 rfl rfl ?_
    refine z_getR (pc := 12) C fX1_9 sh1 rfl dX1_add_12 ?_
    refine z_aload_nZ (pc := 15) C dX1_add_15 rfl rfl ?_
    refine z_getI (pc := 16) C fX1_28 sh1 rfl dX1_add_16 ?_
    refine z_iload_n (pc := 19) C dX1_add_19 rfl rfl ?_
    refine z_iast (pc := 20) C hR sh2 (by (try unfold zRg at *); (try simp only [IX] at *); omega) (by (try unfold zRg at *); (try simp only [IX] at *); omega) ha dX1_add_20 (fun σ_20 e_20 hR_20 => ?_)
    have hI_20 : IX σ_20 := by rw [e_20]; exact hI.upA rfl
    refine z_aload_nZ (pc := 21) C dX1_add_21 rfl rfl ?_
    refine z_getR (pc := 22) C fX1_15 sh1 rfl dX1_add_22 ?_
    refine z_aload_nZ (pc := 25) C dX1_add_25 rfl rfl ?_
    refine z_getIe (pc := 26) (v := σ 1 5) C fX1_28 sh1 rfl dX1_add_26 (by rw [e_20, zup_cell (by omega)]) ?_
    refine z_iload_n (pc := 29) C dX1_add_29 rfl rfl ?_
    refine z_iast (pc := 30) C hR_20 sh3 (by (try unfold zRg at *); (try simp only [IX] at *); omega) (by (try unfold zRg at *); (try simp only [IX] at *); omega) hb dX1_add_30 (fun σ_30 e_30 hR_30 => ?_)
    have hI_30 : IX σ_30 := by rw [e_30]; exact hI_20.upA rfl
    refine z_aload_nZ (pc := 31) C dX1_add_31 rfl rfl ?_
    refine z_getR (pc := 32) C fX1_18 sh1 rfl dX1_add_32 ?_
    refine z_aload_nZ (pc := 35) C dX1_add_35 rfl rfl ?_
    refine z_getIe (pc := 36) (v := σ 1 5) C fX1_28 sh1 rfl dX1_add_36 (by rw [e_30, zup_cell (by omega), e_20, zup_cell (by omega)]) ?_
    refine z_iload_n (pc := 39) C dX1_add_39 rfl rfl ?_
    refine z_iast (pc := 40) C hR_30 sh4 (by (try unfold zRg at *); (try simp only [IX] at *); omega) (by (try unfold zRg at *); (try simp only [IX] at *); omega) hc dX1_add_40 (fun σ_40 e_40 hR_40 => ?_)
    have hI_40 : IX σ_40 := by rw [e_40]; exact hI_30.up4 (by (try unfold zRg at *); (try simp only [IX] at *); omega)
    refine z_aload_nZ (pc := 41) C dX1_add_41 rfl rfl ?_
    refine z_dup (pc := 42) C dX1_add_42 rfl ?_
    refine z_getIe (pc := 43) (v := σ 1 5) C fX1_28 sh1 rfl dX1_add_43 (by rw [e_40, zup_cell (by omega), e_30, zup_cell (by omega), e_20, zup_cell (by omega)]) ?_
    refine z_iconst (pc := 46) C dX1_add_46 ?_
    refine z_iadd (pc := 47) C dX1_add_47 ?_
    refine z_putI (pc := 48) C hR_40 fX1_28 sh1 rfl (by (try unfold zRg at *); (try simp only [IX] at *); omega) dX1_add_48 (fun σ_48 e_48 hR_48 => ?_)
    have hI_48 : IX σ_48 := by rw [e_48]; exact hI_40.up15 (by (try unfold zRg at *); (try simp only [IX] at *); omega)
    refine z_aload_nZ (pc := 51) C dX1_add_51 rfl rfl ?_
    refine z_getIe (pc := 52) (v := (σ 1 5) + 1) C fX1_28 sh1 rfl dX1_add_52 (by rw [e_48, zup_same]) ?_
    refine z_iconst (pc := 55) C dX1_add_55 ?_
    refine z_isub (pc := 56) C dX1_add_56 ?_
    refine hret 57 _ _ _ dX1_add_57 (by (try unfold zRg at *); (try simp only [IX] at *); omega) hR_48 ?_
    exact ⟨by rw [if_neg (by omega)]; omega, by unfold xopadd; rw [if_neg (by omega)]; subst_vars; rfl⟩
  · refine z_iconst (pc := 9) C dX1_add_9 ?_
    refine hret 10 _ _ _ dX1_add_10 (zRgL rfl) hR ?_
    exact ⟨by rw [if_pos (by omega)], by unfold xopadd; rw [if_pos (by omega)]⟩
set_option maxRecDepth 20000 in
theorem C_X1_replaceLevel (E : ZE) (σ : ZSt) (hR : zRs σ) (a : Int) (ha : zRg a) (b : Int) (hb : zRg b) (hI : IX σ) (hb9 : 0 ≤ b ∧ b ≤ 9) : ZMi E 2 yX1_replaceLevel cX1_replaceLevel 4 (some .int) [zrf E 1, ziv a, ziv b] σ (fun r σ' => r = xlev σ a ∧ σ' = if 0 ≤ a ∧ a < σ 1 5 then zup σ 4 a.toNat b else σ) := by
  refine ZMi.intro (by decide) rfl (Nat.le_of_ble_eq_true rfl) (fun Γ C hN hret => ?_)
  show ZG E Γ 0 [some (zrf E 1), some (ziv a), some (ziv b), none] [] σ
  refine z_aload_nZ (pc := 0) C dX1_replaceLevel_0 rfl rfl ?_
  refine z_iload_n (pc := 1) C dX1_replaceLevel_1 rfl rfl ?_
  refine z_callVp (pc := 2) (rest := []) C (C_X1_levelAt E σ hR a ha hI) vX1_36 (by decide) sh1 rfl rfl rfl (Nat.le_of_ble_eq_true rfl) dX1_replaceLevel_2 (fun r_2 g_2 hp_2 => ?_)
  refine z_istore_n (pc := 5) (lv' := [some (zrf E 1), some (ziv a), some (ziv b), some (ziv r_2)]) C hN dX1_replaceLevel_5 rfl (by decide) rfl ?_
  refine z_aload_nZ (pc := 6) C dX1_replaceLevel_6 rfl rfl ?_
  refine z_iload_n (pc := 7) C dX1_replaceLevel_7 rfl rfl ?_
  refine z_callVp (pc := 8) (rest := []) C (C_X1_has E σ hR a ha) vX1_32 (by decide) sh1 rfl rfl rfl (Nat.le_of_ble_eq_true rfl) dX1_replaceLevel_8 (fun r_8 g_8 hp_8 => ?_)
  refine z_if_eq (pc := 11) C 21 g_8 dX1_replaceLevel_11 rfl (fun c_11 => ?_) (fun c_11 => ?_)
  · have c_11 := zb0 hp_8 c_11
    refine z_iload_n (pc := 21) C dX1_replaceLevel_21 rfl rfl ?_
    refine hret 22 _ _ _ dX1_replaceLevel_22 g_2 hR ?_
    exact ⟨by assumption, by first | (rw [if_pos (by assumption)]; assumption) | rw [if_neg (by assumption)]⟩
  · have c_11 := zb1 hp_8 c_11
    refine z_aload_nZ (pc := 14) C dX1_replaceLevel_14 rfl rfl ?_
    refine z_getR (pc := 15) C fX1_18 sh1 rfl dX1_replaceLevel_15 ?_
    refine z_iload_n (pc := 18) C dX1_replaceLevel_18 rfl rfl ?_
    refine z_iload_n (pc := 19) C dX1_replaceLevel_19 rfl rfl ?_
    refine z_iast (pc := 20) C hR sh4 (by (try unfold zRg at *); (try simp only [IX] at *); omega) (by (try unfold zRg at *); (try simp only [IX] at *); omega) hb dX1_replaceLevel_20 (fun σ_20 e_20 hR_20 => ?_)
    have hI_20 : IX σ_20 := by rw [e_20]; exact hI.up4 (by (try unfold zRg at *); (try simp only [IX] at *); omega)
    refine z_iload_n (pc := 21) C dX1_replaceLevel_21 rfl rfl ?_
    refine hret 22 _ _ _ dX1_replaceLevel_22 g_2 hR_20 ?_
    exact ⟨by assumption, by first | (rw [if_pos (by assumption)]; assumption) | rw [if_neg (by assumption)]⟩
set_option maxRecDepth 20000 in
theorem C_X1_associativityAt (E : ZE) (σ : ZSt) (hR : zRs σ) (a : Int) (ha : zRg a) (hI : IX σ) : ZMi E 1 yX1_associativityAt cX1_associativityAt 2 (some .int) [zrf E 1, ziv a] σ (fun r σ' => (r = xasc σ a) ∧ σ' = σ) := by
  refine ZMi.intro (by decide) rfl (Nat.le_of_ble_eq_true rfl) (fun Γ C hN hret => ?_)
  show ZG E Γ 0 [some (zrf E 1), some (ziv a)] [] σ
  refine z_iload_n (pc := 0) C dX1_associativityAt_0 rfl rfl ?_
  refine z_callNp (pc := 1) (rest := []) C (C_X5_isLevel E σ hR a ha) vX1_40 (by decide) rfl rfl (Nat.le_of_ble_eq_true rfl) dX1_associativityAt_1 (fun r_1 g_1 hp_1 => ?_)
  refine z_if_eq (pc := 4) C 16 g_1 dX1_associativityAt_4 rfl (fun c_4 => ?_) (fun c_4 => ?_)
  · have c_4 := zb0 hp_1 c_4
    refine z_iconst (pc := 16) C dX1_associativityAt_16 ?_
    refine hret 17 _ _ _ dX1_associativityAt_17 (zRgL rfl) hR ?_
    exact ⟨by unfold xasc; first | rw [if_pos (by omega)] | rw [if_neg (by omega)], rfl⟩
  · have c_4 := zb1 hp_1 c_4
    refine z_aload_nZ (pc := 7) C dX1_associativityAt_7 rfl rfl ?_
    refine z_getR (pc := 8) C fX1_21 sh1 rfl dX1_associativityAt_8 ?_
    refine z_iload_n (pc := 11) C dX1_associativityAt_11 rfl rfl ?_
    refine z_iald (pc := 12) C sh5 (by (try unfold zRg at *); (try simp only [IX] at *); omega) (by (try unfold zRg at *); (try simp only [IX] at *); omega) dX1_associativityAt_12 ?_
    refine z_goto (pc := 13) C 17 dX1_associativityAt_13 rfl ?_
    refine hret 17 _ _ _ dX1_associativityAt_17 (hR 5 _) hR ?_
    exact ⟨by unfold xasc; first | rw [if_pos (by omega)] | rw [if_neg (by omega)], rfl⟩
set_option maxRecDepth 20000 in
theorem C_X1_replaceAssociativity (E : ZE) (σ : ZSt) (hR : zRs σ) (a : Int) (ha : zRg a) (b : Int) (hb : zRg b) (hI : IX σ) : ZMi E 2 yX1_replaceAssociativity cX1_replaceAssociativity 4 (some .int) [zrf E 1, ziv a, ziv b] σ (fun r σ' => r = xasc σ a ∧ σ' = if 1 ≤ a ∧ a ≤ 9 then zup σ 5 a.toNat b else σ) := by
  refine ZMi.intro (by decide) rfl (Nat.le_of_ble_eq_true rfl) (fun Γ C hN hret => ?_)
  show ZG E Γ 0 [some (zrf E 1), some (ziv a), some (ziv b), none] [] σ
  refine z_aload_nZ (pc := 0) C dX1_replaceAssociativity_0 rfl rfl ?_
  refine z_iload_n (pc := 1) C dX1_replaceAssociativity_1 rfl rfl ?_
  refine z_callVp (pc := 2) (rest := []) C (C_X1_associativityAt E σ hR a ha hI) vX1_43 (by decide) sh1 rfl rfl rfl (Nat.le_of_ble_eq_true rfl) dX1_replaceAssociativity_2 (fun r_2 g_2 hp_2 => ?_)
  refine z_istore_n (pc := 5) (lv' := [some (zrf E 1), some (ziv a), some (ziv b), some (ziv r_2)]) C hN dX1_replaceAssociativity_5 rfl (by decide) rfl ?_
  refine z_iload_n (pc := 6) C dX1_replaceAssociativity_6 rfl rfl ?_
  refine z_callNp (pc := 7) (rest := []) C (C_X5_isLevel E σ hR a ha) vX1_40 (by decide) rfl rfl (Nat.le_of_ble_eq_true rfl) dX1_replaceAssociativity_7 (fun r_7 g_7 hp_7 => ?_)
  refine z_if_eq (pc := 10) C 20 g_7 dX1_replaceAssociativity_10 rfl (fun c_10 => ?_) (fun c_10 => ?_)
  · have c_10 := zb0 hp_7 c_10
    refine z_iload_n (pc := 20) C dX1_replaceAssociativity_20 rfl rfl ?_
    refine hret 21 _ _ _ dX1_replaceAssociativity_21 g_2 hR ?_
    exact ⟨by assumption, by first | (rw [if_pos (by assumption)]; assumption) | rw [if_neg (by assumption)]⟩
  · have c_10 := zb1 hp_7 c_10
    refine z_aload_nZ (pc := 13) C dX1_replaceAssociativity_13 rfl rfl ?_
    refine z_getR (pc := 14) C fX1_21 sh1 rfl dX1_replaceAssociativity_14 ?_
    refine z_iload_n (pc := 17) C dX1_replaceAssociativity_17 rfl rfl ?_
    refine z_iload_n (pc := 18) C dX1_replaceAssociativity_18 rfl rfl ?_
    refine z_iast (pc := 19) C hR sh5 (by (try unfold zRg at *); (try simp only [IX] at *); omega) (by (try unfold zRg at *); (try simp only [IX] at *); omega) hb dX1_replaceAssociativity_19 (fun σ_19 e_19 hR_19 => ?_)
    have hI_19 : IX σ_19 := by rw [e_19]; exact hI.upA rfl
    refine z_iload_n (pc := 20) C dX1_replaceAssociativity_20 rfl rfl ?_
    refine hret 21 _ _ _ dX1_replaceAssociativity_21 g_2 hR_19 ?_
    exact ⟨by assumption, by first | (rw [if_pos (by assumption)]; assumption) | rw [if_neg (by assumption)]⟩
set_option maxRecDepth 20000 in
theorem C_X1_isForbidden (E : ZE) (σ : ZSt) (hR : zRs σ) (a : Int) (ha : zRg a) (b : Int) (hb : zRg b) (hI : IX σ) : ZMi E 1 yX1_isForbidden cX1_isForbidden 3 (some .boolean) [zrf E 1, ziv a, ziv b] σ (fun r σ' => (r = zb (xfb σ a b)) ∧ σ' = σ) := by
  refine ZMi.introZ (by decide) rfl (Nat.le_of_ble_eq_true rfl) (fun Γ C hN hret => ?_)
  show ZG E Γ 0 [some (zrf E 1), some (ziv a), some (ziv b)] [] σ
  refine z_aload_nZ (pc := 0) C dX1_isForbidden_0 rfl rfl ?_
  refine z_iload_n (pc := 1) C dX1_isForbidden_1 rfl rfl ?_
  refine z_callVp (pc := 2) (rest := []) C (C_X1_has E σ hR a ha) vX1_32 (by decide) sh1 rfl rfl rfl (Nat.le_of_ble_eq_true rfl) dX1_isForbidden_2 (fun r_2 g_2 hp_2 => ?_)
  refine z_if_eq (pc := 5) C 34 g_2 dX1_isForbidden_5 rfl (fun c_5 => ?_) (fun c_5 => ?_)
  · have c_5 := zb0 hp_2 c_5
    refine z_iconst (pc := 34) C dX1_isForbidden_34 ?_
    refine hret 35 _ _ _ dX1_isForbidden_35 (Or.inl rfl) hR ?_
    exact ⟨by first | exact zb_one ⟨by assumption, by assumption, by assumption⟩ | exact zb_zero (fun q => by obtain ⟨q1, q2, q3⟩ := q; contradiction), rfl⟩
  · have c_5 := zb1 hp_2 c_5
    refine z_aload_nZ (pc := 8) C dX1_isForbidden_8 rfl rfl ?_
    refine z_iload_n (pc := 9) C dX1_isForbidden_9 rfl rfl ?_
    refine z_callVp (pc := 10) (rest := []) C (C_X1_has E σ hR b hb) vX1_32 (by decide) sh1 rfl rfl rfl (Nat.le_of_ble_eq_true rfl) dX1_isForbidden_10 (fun r_10 g_10 hp_10 => ?_)
    refine z_if_eq (pc := 13) C 34 g_10 dX1_isForbidden_13 rfl (fun c_13 => ?_) (fun c_13 => ?_)
    · have c_13 := zb0 hp_10 c_13
      refine z_iconst (pc := 34) C dX1_isForbidden_34 ?_
      refine hret 35 _ _ _ dX1_isForbidden_35 (Or.inl rfl) hR ?_
      exact ⟨by first | exact zb_one ⟨by assumption, by assumption, by assumption⟩ | exact zb_zero (fun q => by obtain ⟨q1, q2, q3⟩ := q; contradiction), rfl⟩
    · have c_13 := zb1 hp_10 c_13
      refine z_aload_nZ (pc := 16) C dX1_isForbidden_16 rfl rfl ?_
      refine z_getR (pc := 17) C fX1_24 sh1 rfl dX1_isForbidden_17 ?_
      refine z_iload_n (pc := 20) C dX1_isForbidden_20 rfl rfl ?_
      refine z_bipush (pc := 21) C dX1_isForbidden_21 (by decide) ?_
      refine z_imul (pc := 23) C dX1_isForbidden_23 ?_
      refine z_iload_n (pc := 24) C dX1_isForbidden_24 rfl rfl ?_
      refine z_iadd (pc := 25) C dX1_isForbidden_25 ?_
      refine z_zald (pc := 26) C sh6 (by (try unfold zRg at *); (try simp only [IX] at *); omega) (by (try unfold zRg at *); (try simp only [IX] at *); omega) dX1_isForbidden_26 ?_
      refine z_if_eq (pc := 27) C 34 (hR 6 _) dX1_isForbidden_27 rfl (fun c_27 => ?_) (fun c_27 => ?_)
      · refine z_iconst (pc := 34) C dX1_isForbidden_34 ?_
        refine hret 35 _ _ _ dX1_isForbidden_35 (Or.inl rfl) hR ?_
        exact ⟨by first | exact zb_one ⟨by assumption, by assumption, by assumption⟩ | exact zb_zero (fun q => by obtain ⟨q1, q2, q3⟩ := q; contradiction), rfl⟩
      · refine z_iconst (pc := 30) C dX1_isForbidden_30 ?_
        refine z_goto (pc := 31) C 35 dX1_isForbidden_31 rfl ?_
        refine hret 35 _ _ _ dX1_isForbidden_35 (Or.inr rfl) hR ?_
        exact ⟨by first | exact zb_one ⟨by assumption, by assumption, by assumption⟩ | exact zb_zero (fun q => by obtain ⟨q1, q2, q3⟩ := q; contradiction), rfl⟩
set_option maxRecDepth 20000 in
theorem C_X1_replaceForbidden (E : ZE) (σ : ZSt) (hR : zRs σ) (a : Int) (ha : zRg a) (b : Int) (hb : zRg b) (c : Int) (hc : c = 0 ∨ c = 1) (hI : IX σ) : ZMi E 2 yX1_replaceForbidden cX1_replaceForbidden 5 (some .boolean) [zrf E 1, ziv a, ziv b, ziv c] σ (fun r σ' => r = zb (xfb σ a b) ∧ σ' = if (0 ≤ a ∧ a < σ 1 5) ∧ (0 ≤ b ∧ b < σ 1 5) then zup σ 6 (a * 16 + b).toNat c else σ) := by
  refine ZMi.introZ (by decide) rfl (Nat.le_of_ble_eq_true rfl) (fun Γ C hN hret => ?_)
  show ZG E Γ 0 [some (zrf E 1), some (ziv a), some (ziv b), some (ziv c), none] [] σ
  refine z_aload_nZ (pc := 0) C dX1_replaceForbidden_0 rfl rfl ?_
  refine z_iload_n (pc := 1) C dX1_replaceForbidden_1 rfl rfl ?_
  refine z_iload_n (pc := 2) C dX1_replaceForbidden_2 rfl rfl ?_
  refine z_callVp (pc := 3) (rest := []) C (C_X1_isForbidden E σ hR a ha b hb hI) vX1_46 (by decide) sh1 rfl rfl rfl (Nat.le_of_ble_eq_true rfl) dX1_replaceForbidden_3 (fun r_3 g_3 hp_3 => ?_)
  refine z_istore (pc := 6) (lv' := [some (zrf E 1), some (ziv a), some (ziv b), some (ziv c), some (ziv r_3)]) C hN dX1_replaceForbidden_6 (by decide) rfl ?_
  refine z_aload_nZ (pc := 8) C dX1_replaceForbidden_8 rfl rfl ?_
  refine z_iload_n (pc := 9) C dX1_replaceForbidden_9 rfl rfl ?_
  refine z_callVp (pc := 10) (rest := []) C (C_X1_has E σ hR a ha) vX1_32 (by decide) sh1 rfl rfl rfl (Nat.le_of_ble_eq_true rfl) dX1_replaceForbidden_10 (fun r_10 g_10 hp_10 => ?_)
  refine z_if_eq (pc := 13) C 36 g_10 dX1_replaceForbidden_13 rfl (fun c_13 => ?_) (fun c_13 => ?_)
  · have c_13 := zb0 hp_10 c_13
    refine z_iload (pc := 36) C dX1_replaceForbidden_36 rfl ?_
    refine hret 38 _ _ _ dX1_replaceForbidden_38 (zb01 hp_3) hR ?_
    exact ⟨by assumption, by first | (rw [if_pos ⟨by assumption, by assumption⟩]; assumption) | rw [if_neg (by omega)]⟩
  · have c_13 := zb1 hp_10 c_13
    refine z_aload_nZ (pc := 16) C dX1_replaceForbidden_16 rfl rfl ?_
    refine z_iload_n (pc := 17) C dX1_replaceForbidden_17 rfl rfl ?_
    refine z_callVp (pc := 18) (rest := []) C (C_X1_has E σ hR b hb) vX1_32 (by decide) sh1 rfl rfl rfl (Nat.le_of_ble_eq_true rfl) dX1_replaceForbidden_18 (fun r_18 g_18 hp_18 => ?_)
    refine z_if_eq (pc := 21) C 36 g_18 dX1_replaceForbidden_21 rfl (fun c_21 => ?_) (fun c_21 => ?_)
    · have c_21 := zb0 hp_18 c_21
      refine z_iload (pc := 36) C dX1_replaceForbidden_36 rfl ?_
      refine hret 38 _ _ _ dX1_replaceForbidden_38 (zb01 hp_3) hR ?_
      exact ⟨by assumption, by first | (rw [if_pos ⟨by assumption, by assumption⟩]; assumption) | rw [if_neg (by omega)]⟩
    · have c_21 := zb1 hp_18 c_21
      refine z_aload_nZ (pc := 24) C dX1_replaceForbidden_24 rfl rfl ?_
      refine z_getR (pc := 25) C fX1_24 sh1 rfl dX1_replaceForbidden_25 ?_
      refine z_iload_n (pc := 28) C dX1_replaceForbidden_28 rfl rfl ?_
      refine z_bipush (pc := 29) C dX1_replaceForbidden_29 (by decide) ?_
      refine z_imul (pc := 31) C dX1_replaceForbidden_31 ?_
      refine z_iload_n (pc := 32) C dX1_replaceForbidden_32 rfl rfl ?_
      refine z_iadd (pc := 33) C dX1_replaceForbidden_33 ?_
      refine z_iload_n (pc := 34) C dX1_replaceForbidden_34 rfl rfl ?_
      refine z_zast (pc := 35) C hR sh6 (by (try unfold zRg at *); (try simp only [IX] at *); omega) (by (try unfold zRg at *); (try simp only [IX] at *); omega) hc dX1_replaceForbidden_35 (fun σ_35 e_35 hR_35 => ?_)
      have hI_35 : IX σ_35 := by rw [e_35]; exact hI.upA rfl
      refine z_iload (pc := 36) C dX1_replaceForbidden_36 rfl ?_
      refine hret 38 _ _ _ dX1_replaceForbidden_38 (zb01 hp_3) hR_35 ?_
      exact ⟨by assumption, by first | (rw [if_pos ⟨by assumption, by assumption⟩]; assumption) | rw [if_neg (by omega)]⟩
set_option maxRecDepth 20000 in
theorem C_X1_minAfter (E : ZE) (σ : ZSt) (hR : zRs σ) (a : Int) (ha : zRg a) (hI : IX σ) : ZMi E 1 yX1_minAfter cX1_minAfter 4 (some .int) [zrf E 1, ziv a] σ (fun r σ' => (r = xmin σ a) ∧ σ' = σ) := by
  refine ZMi.intro (by decide) rfl (Nat.le_of_ble_eq_true rfl) (fun Γ C hN hret => ?_)
  show ZG E Γ 0 [some (zrf E 1), some (ziv a), none, none] [] σ
  have hlev := hI.lev a.toNat
  refine z_aload_nZ (pc := 0) C dX1_minAfter_0 rfl rfl ?_
  refine z_iload_n (pc := 1) C dX1_minAfter_1 rfl rfl ?_
  refine z_callVp (pc := 2) (rest := []) C (C_X1_has E σ hR a ha) vX1_32 (by decide) sh1 rfl rfl rfl (Nat.le_of_ble_eq_true rfl) dX1_minAfter_2 (fun r_2 g_2 hp_2 => ?_)
  refine z_if_ne (pc := 5) C 10 g_2 dX1_minAfter_5 rfl (fun c_5 => ?_) (fun c_5 => ?_)
  · have c_5 := zb1 hp_2 c_5
    refine z_aload_nZ (pc := 10) C dX1_minAfter_10 rfl rfl ?_
    refine z_getR (pc := 11) C fX1_18 sh1 rfl dX1_minAfter_11 ?_
    refine z_iload_n (pc := 14) C dX1_minAfter_14 rfl rfl ?_
    refine z_iald (pc := 15) C sh4 (by (try unfold zRg at *); (try simp only [IX] at *); omega) (by (try unfold zRg at *); (try simp only [IX] at *); omega) dX1_minAfter_15 ?_
    refine z_istore_n (pc := 16) (lv' := [some (zrf E 1), some (ziv a), some (ziv (σ 4 a.toNat)), none]) C hN dX1_minAfter_16 rfl (by decide) rfl ?_
    refine z_iload_n (pc := 17) C dX1_minAfter_17 rfl rfl ?_
    refine z_callNp (pc := 18) (rest := []) C (C_X5_isLevel E σ hR (σ 4 a.toNat) (hR 4 _)) vX1_40 (by decide) rfl rfl (Nat.le_of_ble_eq_true rfl) dX1_minAfter_18 (fun r_18 g_18 hp_18 => ?_)
    refine z_if_eq (pc := 21) C 38 g_18 dX1_minAfter_21 rfl (fun c_21 => ?_) (fun c_21 => ?_)
    · have c_21 := zb0 hp_18 c_21
      refine z_iconst (pc := 38) C dX1_minAfter_38 ?_
      refine z_istore_n (pc := 39) (lv' := [some (zrf E 1), some (ziv a), some (ziv (σ 4 a.toNat)), some (ziv 0)]) C hN dX1_minAfter_39 rfl (by decide) rfl ?_
      refine z_aload_nZ (pc := 40) C dX1_minAfter_40 rfl rfl ?_
      refine z_getR (pc := 41) C fX1_15 sh1 rfl dX1_minAfter_41 ?_
      refine z_iload_n (pc := 44) C dX1_minAfter_44 rfl rfl ?_
      refine z_iald (pc := 45) C sh3 (by (try unfold zRg at *); (try simp only [IX] at *); omega) (by (try unfold zRg at *); (try simp only [IX] at *); omega) dX1_minAfter_45 ?_
      refine z_if_ne (pc := 46) C 59 (hR 3 _) dX1_minAfter_46 rfl (fun c_46 => ?_) (fun c_46 => ?_)
      · refine z_iload_n (pc := 59) C dX1_minAfter_59 rfl rfl ?_
        refine hret 60 _ _ _ dX1_minAfter_60 (hR 4 _) hR ?_
        exact ⟨by unfold xmin; first | (rw [if_neg (by assumption)]; done) | (rw [if_pos (by assumption)]; first | (rw [if_pos (by simp_all; omega)]; done) | (rw [if_neg (by simp_all)]; done) | grind), rfl⟩
      · refine z_iload_n (pc := 49) C dX1_minAfter_49 rfl rfl ?_
        refine z_if_ne (pc := 50) C 59 (zRgL rfl) dX1_minAfter_50 rfl (fun c_50 => ?_) (fun c_50 => ?_)
        · refine z_iload_n (pc := 59) C dX1_minAfter_59 rfl rfl ?_
          refine hret 60 _ _ _ dX1_minAfter_60 (hR 4 _) hR ?_
          exact ⟨by unfold xmin; first | (rw [if_neg (by assumption)]; done) | (rw [if_pos (by assumption)]; first | (rw [if_pos (by simp_all; omega)]; done) | (rw [if_neg (by simp_all)]; done) | grind), rfl⟩
        · refine z_iload_n (pc := 53) C dX1_minAfter_53 rfl rfl ?_
          refine z_iconst (pc := 54) C dX1_minAfter_54 ?_
          refine z_iadd (pc := 55) C dX1_minAfter_55 ?_
          refine z_goto (pc := 56) C 60 dX1_minAfter_56 rfl ?_
          refine hret 60 _ _ _ dX1_minAfter_60 (by (try unfold zRg at *); (try simp only [IX] at *); omega) hR ?_
          exact ⟨by unfold xmin; first | (rw [if_neg (by assumption)]; done) | (rw [if_pos (by assumption)]; first | (rw [if_pos (by simp_all; omega)]; done) | (rw [if_neg (by simp_all)]; done) | grind), rfl⟩
    · have c_21 := zb1 hp_18 c_21
      refine z_aload_nZ (pc := 24) C dX1_minAfter_24 rfl rfl ?_
      refine z_getR (pc := 25) C fX1_21 sh1 rfl dX1_minAfter_25 ?_
      refine z_iload_n (pc := 28) C dX1_minAfter_28 rfl rfl ?_
      refine z_iald (pc := 29) C sh5 (by (try unfold zRg at *); (try simp only [IX] at *); omega) (by (try unfold zRg at *); (try simp only [IX] at *); omega) dX1_minAfter_29 ?_
      refine z_iconst (pc := 30) C dX1_minAfter_30 ?_
      refine z_icmp_ne (pc := 31) C 38 (hR 5 _) (zRgL rfl) dX1_minAfter_31 rfl (fun c_31 => ?_) (fun c_31 => ?_)
      · refine z_iconst (pc := 38) C dX1_minAfter_38 ?_
        refine z_istore_n (pc := 39) (lv' := [some (zrf E 1), some (ziv a), some (ziv (σ 4 a.toNat)), some (ziv 0)]) C hN dX1_minAfter_39 rfl (by decide) rfl ?_
        refine z_aload_nZ (pc := 40) C dX1_minAfter_40 rfl rfl ?_
        refine z_getR (pc := 41) C fX1_15 sh1 rfl dX1_minAfter_41 ?_
        refine z_iload_n (pc := 44) C dX1_minAfter_44 rfl rfl ?_
        refine z_iald (pc := 45) C sh3 (by (try unfold zRg at *); (try simp only [IX] at *); omega) (by (try unfold zRg at *); (try simp only [IX] at *); omega) dX1_minAfter_45 ?_
        refine z_if_ne (pc := 46) C 59 (hR 3 _) dX1_minAfter_46 rfl (fun c_46 => ?_) (fun c_46 => ?_)
        · refine z_iload_n (pc := 59) C dX1_minAfter_59 rfl rfl ?_
          refine hret 60 _ _ _ dX1_minAfter_60 (hR 4 _) hR ?_
          exact ⟨by unfold xmin; first | (rw [if_neg (by assumption)]; done) | (rw [if_pos (by assumption)]; first | (rw [if_pos (by simp_all; omega)]; done) | (rw [if_neg (by simp_all)]; done) | grind), rfl⟩
        · refine z_iload_n (pc := 49) C dX1_minAfter_49 rfl rfl ?_
          refine z_if_ne (pc := 50) C 59 (zRgL rfl) dX1_minAfter_50 rfl (fun c_50 => ?_) (fun c_50 => ?_)
          · refine z_iload_n (pc := 59) C dX1_minAfter_59 rfl rfl ?_
            refine hret 60 _ _ _ dX1_minAfter_60 (hR 4 _) hR ?_
            exact ⟨by unfold xmin; first | (rw [if_neg (by assumption)]; done) | (rw [if_pos (by assumption)]; first | (rw [if_pos (by simp_all; omega)]; done) | (rw [if_neg (by simp_all)]; done) | grind), rfl⟩
          · refine z_iload_n (pc := 53) C dX1_minAfter_53 rfl rfl ?_
            refine z_iconst (pc := 54) C dX1_minAfter_54 ?_
            refine z_iadd (pc := 55) C dX1_minAfter_55 ?_
            refine z_goto (pc := 56) C 60 dX1_minAfter_56 rfl ?_
            refine hret 60 _ _ _ dX1_minAfter_60 (by (try unfold zRg at *); (try simp only [IX] at *); omega) hR ?_
            exact ⟨by unfold xmin; first | (rw [if_neg (by assumption)]; done) | (rw [if_pos (by assumption)]; first | (rw [if_pos (by simp_all; omega)]; done) | (rw [if_neg (by simp_all)]; done) | grind), rfl⟩
      · refine z_iconst (pc := 34) C dX1_minAfter_34 ?_
        refine z_goto (pc := 35) C 39 dX1_minAfter_35 rfl ?_
        refine z_istore_n (pc := 39) (lv' := [some (zrf E 1), some (ziv a), some (ziv (σ 4 a.toNat)), some (ziv 1)]) C hN dX1_minAfter_39 rfl (by decide) rfl ?_
        refine z_aload_nZ (pc := 40) C dX1_minAfter_40 rfl rfl ?_
        refine z_getR (pc := 41) C fX1_15 sh1 rfl dX1_minAfter_41 ?_
        refine z_iload_n (pc := 44) C dX1_minAfter_44 rfl rfl ?_
        refine z_iald (pc := 45) C sh3 (by (try unfold zRg at *); (try simp only [IX] at *); omega) (by (try unfold zRg at *); (try simp only [IX] at *); omega) dX1_minAfter_45 ?_
        refine z_if_ne (pc := 46) C 59 (hR 3 _) dX1_minAfter_46 rfl (fun c_46 => ?_) (fun c_46 => ?_)
        · refine z_iload_n (pc := 59) C dX1_minAfter_59 rfl rfl ?_
          refine hret 60 _ _ _ dX1_minAfter_60 (hR 4 _) hR ?_
          exact ⟨by unfold xmin; first | (rw [if_neg (by assumption)]; done) | (rw [if_pos (by assumption)]; first | (rw [if_pos (by simp_all; omega)]; done) | (rw [if_neg (by simp_all)]; done) | grind), rfl⟩
        · refine z_iload_n (pc := 49) C dX1_minAfter_49 rfl rfl ?_
          refine z_if_ne (pc := 50) C 59 (zRgL rfl) dX1_minAfter_50 rfl (fun c_50 => ?_) (fun c_50 => ?_)
          · refine z_iload_n (pc := 59) C dX1_minAfter_59 rfl rfl ?_
            refine hret 60 _ _ _ dX1_minAfter_60 (hR 4 _) hR ?_
            exact ⟨by unfold xmin; first | (rw [if_neg (by assumption)]; done) | (rw [if_pos (by assumption)]; first | (rw [if_pos (by simp_all; omega)]; done) | (rw [if_neg (by simp_all)]; done) | grind), rfl⟩
          · refine z_iload_n (pc := 53) C dX1_minAfter_53 rfl rfl ?_
            refine z_iconst (pc := 54) C dX1_minAfter_54 ?_
            refine z_iadd (pc := 55) C dX1_minAfter_55 ?_
            refine z_goto (pc := 56) C 60 dX1_minAfter_56 rfl ?_
            refine hret 60 _ _ _ dX1_minAfter_60 (by (try unfold zRg at *); (try simp only [IX] at *); omega) hR ?_
            exact ⟨by unfold xmin; first | (rw [if_neg (by assumption)]; done) | (rw [if_pos (by assumption)]; first | (rw [if_pos (by simp_all; omega)]; done) | (rw [if_neg (by simp_all)]; done) | grind), rfl⟩
  · have c_5 := zb0 hp_2 c_5
    refine z_iconst (pc := 8) C dX1_minAfter_8 ?_
    refine hret 9 _ _ _ dX1_minAfter_9 (zRgL rfl) hR ?_
    exact ⟨by unfold xmin; first | (rw [if_neg (by assumption)]; done) | (rw [if_pos (by assumption)]; first | (rw [if_pos (by simp_all; omega)]; done) | (rw [if_neg (by simp_all)]; done) | grind), rfl⟩
set_option maxRecDepth 20000 in
theorem C_X1_isNotAssociative (E : ZE) (σ : ZSt) (hR : zRs σ) (a : Int) (ha : zRg a) (b : Int) (hb : zRg b) (hI : IX σ) : ZMi E 2 yX1_isNotAssociative cX1_isNotAssociative 4 (some .boolean) [zrf E 1, ziv a, ziv b] σ (fun r σ' => (r = zb (xna σ a b)) ∧ σ' = σ) := by
  refine ZMi.introZ (by decide) rfl (Nat.le_of_ble_eq_true rfl) (fun Γ C hN hret => ?_)
  show ZG E Γ 0 [some (zrf E 1), some (ziv a), some (ziv b), none] [] σ
  refine z_aload_nZ (pc := 0) C dX1_isNotAssociative_0 rfl rfl ?_
  refine z_iload_n (pc := 1) C dX1_isNotAssociative_1 rfl rfl ?_
  refine z_callVp (pc := 2) (rest := []) C (C_X1_levelAt E σ hR a ha hI) vX1_36 (by decide) sh1 rfl rfl rfl (Nat.le_of_ble_eq_true rfl) dX1_isNotAssociative_2 (fun r_2 g_2 hp_2 => ?_)
  refine z_istore_n (pc := 5) (lv' := [some (zrf E 1), some (ziv a), some (ziv b), some (ziv r_2)]) C hN dX1_isNotAssociative_5 rfl (by decide) rfl ?_
  refine z_aload_nZ (pc := 6) C dX1_isNotAssociative_6 rfl rfl ?_
  refine z_iload_n (pc := 7) C dX1_isNotAssociative_7 rfl rfl ?_
  refine z_callVp (pc := 8) (rest := []) C (C_X1_kindAt E σ hR a ha hI) vX1_50 (by decide) sh1 rfl rfl rfl (Nat.le_of_ble_eq_true rfl) dX1_isNotAssociative_8 (fun r_8 g_8 hp_8 => ?_)
  refine z_if_ne (pc := 11) C 44 g_8 dX1_isNotAssociative_11 rfl (fun c_11 => ?_) (fun c_11 => ?_)
  · refine z_iconst (pc := 44) C dX1_isNotAssociative_44 ?_
    refine hret 45 _ _ _ dX1_isNotAssociative_45 (Or.inl rfl) hR ?_
    exact ⟨by first | exact zb_one (by unfold xna; subst_vars; simp_all) | exact zb_zero (by unfold xna; subst_vars; simp_all), rfl⟩
  · refine z_aload_nZ (pc := 14) C dX1_isNotAssociative_14 rfl rfl ?_
    refine z_iload_n (pc := 15) C dX1_isNotAssociative_15 rfl rfl ?_
    refine z_callVp (pc := 16) (rest := []) C (C_X1_kindAt E σ hR b hb hI) vX1_50 (by decide) sh1 rfl rfl rfl (Nat.le_of_ble_eq_true rfl) dX1_isNotAssociative_16 (fun r_16 g_16 hp_16 => ?_)
    refine z_if_ne (pc := 19) C 44 g_16 dX1_isNotAssociative_19 rfl (fun c_19 => ?_) (fun c_19 => ?_)
    · refine z_iconst (pc := 44) C dX1_isNotAssociative_44 ?_
      refine hret 45 _ _ _ dX1_isNotAssociative_45 (Or.inl rfl) hR ?_
      exact ⟨by first | exact zb_one (by unfold xna; subst_vars; simp_all) | exact zb_zero (by unfold xna; subst_vars; simp_all), rfl⟩
    · refine z_aload_nZ (pc := 22) C dX1_isNotAssociative_22 rfl rfl ?_
      refine z_iload_n (pc := 23) C dX1_isNotAssociative_23 rfl rfl ?_
      refine z_callVp (pc := 24) (rest := []) C (C_X1_levelAt E σ hR b hb hI) vX1_36 (by decide) sh1 rfl rfl rfl (Nat.le_of_ble_eq_true rfl) dX1_isNotAssociative_24 (fun r_24 g_24 hp_24 => ?_)
      refine z_iload_n (pc := 27) C dX1_isNotAssociative_27 rfl rfl ?_
      refine z_icmp_ne (pc := 28) C 44 g_24 g_2 dX1_isNotAssociative_28 rfl (fun c_28 => ?_) (fun c_28 => ?_)
      · refine z_iconst (pc := 44) C dX1_isNotAssociative_44 ?_
        refine hret 45 _ _ _ dX1_isNotAssociative_45 (Or.inl rfl) hR ?_
        exact ⟨by first | exact zb_one (by unfold xna; subst_vars; simp_all) | exact zb_zero (by unfold xna; subst_vars; simp_all), rfl⟩
      · refine z_aload_nZ (pc := 31) C dX1_isNotAssociative_31 rfl rfl ?_
        refine z_iload_n (pc := 32) C dX1_isNotAssociative_32 rfl rfl ?_
        refine z_callVp (pc := 33) (rest := []) C (C_X1_associativityAt E σ hR r_2 g_2 hI) vX1_43 (by decide) sh1 rfl rfl rfl (Nat.le_of_ble_eq_true rfl) dX1_isNotAssociative_33 (fun r_33 g_33 hp_33 => ?_)
        refine z_iconst (pc := 36) C dX1_isNotAssociative_36 ?_
        refine z_icmp_ne (pc := 37) C 44 g_33 (zRgL rfl) dX1_isNotAssociative_37 rfl (fun c_37 => ?_) (fun c_37 => ?_)
        · refine z_iconst (pc := 44) C dX1_isNotAssociative_44 ?_
          refine hret 45 _ _ _ dX1_isNotAssociative_45 (Or.inl rfl) hR ?_
          exact ⟨by first | exact zb_one (by unfold xna; subst_vars; simp_all) | exact zb_zero (by unfold xna; subst_vars; simp_all), rfl⟩
        · refine z_iconst (pc := 40) C dX1_isNotAssociative_40 ?_
          refine z_goto (pc := 41) C 45 dX1_isNotAssociative_41 rfl ?_
          refine hret 45 _ _ _ dX1_isNotAssociative_45 (Or.inr rfl) hR ?_
          exact ⟨by first | exact zb_one (by unfold xna; subst_vars; simp_all) | exact zb_zero (by unfold xna; subst_vars; simp_all), rfl⟩
set_option maxRecDepth 20000 in
theorem C_X0_empty (E : ZE) (σ : ZSt) (hR : zRs σ) (k : Nat) (hk : k = 7 ∨ k = 13) : ZMv E 0 yX0_empty cX0_empty 1 [zrf E k] σ (fun σ' => σ' = zup σ k 5 0) := by
  refine ZMv.intro (by decide) rfl (Nat.le_of_ble_eq_true rfl) (fun Γ C hN hret => ?_)
  show ZG E Γ 0 [some (zrf E k)] [] σ
  refine z_aload_nZ (pc := 0) C dX0_empty_0 rfl rfl ?_
  refine z_iconst (pc := 1) C dX0_empty_1 ?_
  refine z_putI (pc := 2) C hR fX0_27 (shNT hk) rfl (zRgL rfl) dX0_empty_2 (fun σ_2 e_2 hR_2 => ?_)
  refine hret 5 _ _ dX0_empty_5 hR_2 ?_
  assumption
set_option maxRecDepth 20000 in
theorem C_X0_add (E : ZE) (σ : ZSt) (hR : zRs σ) (k : Nat) (hk : k = 7 ∨ k = 13) (a : Int) (ha : zRg a) (b : Int) (hb : zRg b) (c : Int) (hc : zRg c) (e : Int) (he : zRg e) (hI : IX σ) : ZMi E 2 yX0_add cX0_add 5 (some .int) [zrf E k, ziv a, ziv b, ziv c, ziv e] σ (fun r σ' => r = xnaddr σ k ∧ σ' = xnadd σ k a b c e) := by
  refine ZMi.intro (by decide) rfl (Nat.le_of_ble_eq_true rfl) (fun Γ C hN hret => ?_)
  show ZG E Γ 0 [some (zrf E k), some (ziv a), some (ziv b), some (ziv c), some (ziv e)] [] σ
  have hbd := hI.nt hk
  refine z_aload_nZ (pc := 0) C dX0_add_0 rfl rfl ?_
  refine z_getI (pc := 1) C fX0_27 (shNT hk) rfl dX0_add_1 ?_
  refine z_bipush (pc := 4) C dX0_add_4 (by decide) ?_
  refine z_icmp_lt (pc := 6) C 11 (hR k _) (zRgL rfl) dX0_add_6 rfl (fun c_6 => ?_) (fun c_6 => ?_)
  · refine z_aload_nZ (pc := 11) C dX0_add_11 rfl rfl ?_
    refine z_getR (pc := 12) C fX0_11 (shNT hk) rfl dX0_add_12 ?_
    refine z_aload_nZ (pc := 15) C dX0_add_15 rfl rfl ?_
    refine z_getI (pc := 16) C fX0_27 (shNT hk) rfl dX0_add_16 ?_
    refine z_iload_n (pc := 19) C dX0_add_19 rfl rfl ?_
    refine z_iast (pc := 20) C hR (shNT1 hk) (by (try unfold zRg at *); (try simp only [IX] at *); omega) (by (try unfold zRg at *); (try simp only [IX] at *); omega) ha dX0_add_20 (fun σ_20 e_20 hR_20 => ?_)
    have hI_20 : IX σ_20 := by rw [e_20]; exact hI.upNTa hk (by decide)
    refine z_aload_nZ (pc := 21) C dX0_add_21 rfl rfl ?_
    refine z_getR (pc := 22) C fX0_15 (shNT hk) rfl dX0_add_22 ?_
    refine z_aload_nZ (pc := 25) C dX0_add_25 rfl rfl ?_
    refine z_getIe (pc := 26) (v := σ k 5) C fX0_27 (shNT hk) rfl dX0_add_26 (by rw [e_20, zup_cell (by omega)]) ?_
    refine z_iload_n (pc := 29) C dX0_add_29 rfl rfl ?_
    refine z_iast (pc := 30) C hR_20 (shNT2 hk) (by (try unfold zRg at *); (try simp only [IX] at *); omega) (by (try unfold zRg at *); (try simp only [IX] at *); omega) hb dX0_add_30 (fun σ_30 e_30 hR_30 => ?_)
    have hI_30 : IX σ_30 := by rw [e_30]; exact hI_20.upNTa hk (by decide)
    refine z_aload_nZ (pc := 31) C dX0_add_31 rfl rfl ?_
    refine z_getR (pc := 32) C fX0_18 (shNT hk) rfl dX0_add_32 ?_
    refine z_aload_nZ (pc := 35) C dX0_add_35 rfl rfl ?_
    refine z_getIe (pc := 36) (v := σ k 5) C fX0_27 (shNT hk) rfl dX0_add_36 (by rw [e_30, zup_cell (by omega), e_20, zup_cell (by omega)]) ?_
    refine z_iload_n (pc := 39) C dX0_add_39 rfl rfl ?_
    refine z_iast (pc := 40) C hR_30 (shNT3 hk) (by (try unfold zRg at *); (try simp only [IX] at *); omega) (by (try unfold zRg at *); (try simp only [IX] at *); omega) hc dX0_add_40 (fun σ_40 e_40 hR_40 => ?_)
    have hI_40 : IX σ_40 := by rw [e_40]; exact hI_30.upNTa hk (by decide)
    refine z_aload_nZ (pc := 41) C dX0_add_41 rfl rfl ?_
    refine z_getR (pc := 42) C fX0_21 (shNT hk) rfl dX0_add_42 ?_
    refine z_aload_nZ (pc := 45) C dX0_add_45 rfl rfl ?_
    refine z_getIe (pc := 46) (v := σ k 5) C fX0_27 (shNT hk) rfl dX0_add_46 (by rw [e_40, zup_cell (by omega), e_30, zup_cell (by omega), e_20, zup_cell (by omega)]) ?_
    refine z_iload (pc := 49) C dX0_add_49 rfl ?_
    refine z_iast (pc := 51) C hR_40 (shNT4 hk) (by (try unfold zRg at *); (try simp only [IX] at *); omega) (by (try unfold zRg at *); (try simp only [IX] at *); omega) he dX0_add_51 (fun σ_51 e_51 hR_51 => ?_)
    have hI_51 : IX σ_51 := by rw [e_51]; exact hI_40.upNTa hk (by decide)
    refine z_aload_nZ (pc := 52) C dX0_add_52 rfl rfl ?_
    refine z_getR (pc := 53) C fX0_24 (shNT hk) rfl dX0_add_53 ?_
    refine z_aload_nZ (pc := 56) C dX0_add_56 rfl rfl ?_
    refine z_getIe (pc := 57) (v := σ k 5) C fX0_27 (shNT hk) rfl dX0_add_57 (by rw [e_51, zup_cell (by omega), e_40, zup_cell (by omega), e_30, zup_cell (by omega), e_20, zup_cell (by omega)]) ?_
    refine z_iconst (pc := 60) C dX0_add_60 ?_
    refine z_aload_nZ (pc := 61) C dX0_add_61 rfl rfl ?_
    refine z_iload_n (pc := 62) C dX0_add_62 rfl rfl ?_
    refine z_callVp (pc := 63) (rest := [ziv 1, ziv (σ k 5), zrf E (k + 5)]) C (C_X0_sizeAt E σ_51 hR_51 k hk c hc hI_51) vX0_31 (by decide) (shNT hk) rfl rfl rfl (Nat.le_of_ble_eq_true rfl) dX0_add_63 (fun r_63 g_63 hp_63 => ?_)
    refine z_iadd (pc := 66) C dX0_add_66 ?_
    refine z_aload_nZ (pc := 67) C dX0_add_67 rfl rfl ?_
    refine z_iload (pc := 68) C dX0_add_68 rfl ?_
    refine z_callVp (pc := 70) (rest := [ziv (1 + r_63), ziv (σ k 5), zrf E (k + 5)]) C (C_X0_sizeAt E σ_51 hR_51 k hk e he hI_51) vX0_31 (by decide) (shNT hk) rfl rfl rfl (Nat.le_of_ble_eq_true rfl) dX0_add_70 (fun r_70 g_70 hp_70 => ?_)
    refine z_iadd (pc := 73) C dX0_add_73 ?_
    refine z_iastW (pc := 74) C hR_51 (shNT5 hk) (by (try unfold zRg at *); (try simp only [IX] at *); omega) (by (try unfold zRg at *); (try simp only [IX] at *); omega) dX0_add_74 (fun σ_74 e_74 hR_74 => ?_)
    have hI_74 : IX σ_74 := by rw [e_74]; exact hI_51.upNTa hk (by decide)
    refine z_aload_nZ (pc := 75) C dX0_add_75 rfl rfl ?_
    refine z_dup (pc := 76) C dX0_add_76 rfl ?_
    refine z_getIe (pc := 77) (v := σ k 5) C fX0_27 (shNT hk) rfl dX0_add_77 (by rw [e_74, zup_cell (by omega), e_51, zup_cell (by omega), e_40, zup_cell (by omega), e_30, zup_cell (by omega), e_20, zup_cell (by omega)]) ?_
    refine z_iconst (pc := 80) C dX0_add_80 ?_
    refine z_iadd (pc := 81) C dX0_add_81 ?_
    refine z_putI (pc := 82) C hR_74 fX0_27 (shNT hk) rfl (by (try unfold zRg at *); (try simp only [IX] at *); omega) dX0_add_82 (fun σ_82 e_82 hR_82 => ?_)
    have hI_82 : IX σ_82 := by rw [e_82]; exact hI_74.upNT hk (by (try unfold zRg at *); (try simp only [IX] at *); omega)
    refine z_aload_nZ (pc := 85) C dX0_add_85 rfl rfl ?_
    refine z_getIe (pc := 86) (v := (σ k 5) + 1) C fX0_27 (shNT hk) rfl dX0_add_86 (by rw [e_82, zup_same]) ?_
    refine z_iconst (pc := 89) C dX0_add_89 ?_
    refine z_isub (pc := 90) C dX0_add_90 ?_
    refine hret 91 _ _ _ dX0_add_91 (by (try unfold zRg at *); (try simp only [IX] at *); omega) hR_82 ?_
    have q1 : r_63 = xnsz σ k c := by rw [hp_63, e_51, e_40, e_30, e_20]; unfold xnsz; repeat rw [zup_row (by omega)]
    have q2 : r_70 = xnsz σ k e := by rw [hp_70, e_51, e_40, e_30, e_20]; unfold xnsz; repeat rw [zup_row (by omega)]
    exact ⟨by unfold xnaddr; rw [if_neg (by omega)]; omega, by unfold xnadd; rw [if_neg (by omega), ← q1, ← q2]; subst_vars; rfl⟩
  · refine z_iconst (pc := 9) C dX0_add_9 ?_
    refine hret 10 _ _ _ dX0_add_10 (zRgL rfl) hR ?_
    exact ⟨by unfold xnaddr; rw [if_pos (by omega)], by unfold xnadd; rw [if_pos (by omega)]⟩
set_option maxRecDepth 20000 in
theorem C_X0_operandAt (E : ZE) (σ : ZSt) (hR : zRs σ) (k : Nat) (hk : k = 7 ∨ k = 13) (a : Int) (ha : zRg a) (b : Int) (hb : zRg b) (hI : IX σ) : ZMi E 2 yX0_operandAt cX0_operandAt 5 (some .int) [zrf E k, ziv a, ziv b] σ (fun r σ' => (r = if b = 0 then (if xnbef σ k a = -1 then xnaft σ k a else xnbef σ k a) else if b = 1 ∧ xnbef σ k a ≠ -1 then xnaft σ k a else -1) ∧ σ' = σ) := by
  refine ZMi.intro (by decide) rfl (Nat.le_of_ble_eq_true rfl) (fun Γ C hN hret => ?_)
  show ZG E Γ 0 [some (zrf E k), some (ziv a), some (ziv b), none, none] [] σ
  refine z_aload_nZ (pc := 0) C dX0_operandAt_0 rfl rfl ?_
  refine z_iload_n (pc := 1) C dX0_operandAt_1 rfl rfl ?_
  refine z_callVp (pc := 2) (rest := []) C (C_X0_beforeAt E σ hR k hk a ha hI) vX0_47 (by decide) (shNT hk) rfl rfl rfl (Nat.le_of_ble_eq_true rfl) dX0_operandAt_2 (fun r_2 g_2 hp_2 => ?_)
  refine z_istore_n (pc := 5) (lv' := [some (zrf E k), some (ziv a), some (ziv b), some (ziv r_2), none]) C hN dX0_operandAt_5 rfl (by decide) rfl ?_
  refine z_aload_nZ (pc := 6) C dX0_operandAt_6 rfl rfl ?_
  refine z_iload_n (pc := 7) C dX0_operandAt_7 rfl rfl ?_
  refine z_callVp (pc := 8) (rest := []) C (C_X0_afterAt E σ hR k hk a ha hI) vX0_50 (by decide) (shNT hk) rfl rfl rfl (Nat.le_of_ble_eq_true rfl) dX0_operandAt_8 (fun r_8 g_8 hp_8 => ?_)
  refine z_istore (pc := 11) (lv' := [some (zrf E k), some (ziv a), some (ziv b), some (ziv r_2), some (ziv r_8)]) C hN dX0_operandAt_11 (by decide) rfl ?_
  refine z_iload_n (pc := 13) C dX0_operandAt_13 rfl rfl ?_
  refine z_if_ne (pc := 14) C 29 hb dX0_operandAt_14 rfl (fun c_14 => ?_) (fun c_14 => ?_)
  · refine z_iload_n (pc := 29) C dX0_operandAt_29 rfl rfl ?_
    refine z_iconst (pc := 30) C dX0_operandAt_30 ?_
    refine z_icmp_ne (pc := 31) C 44 hb (zRgL rfl) dX0_operandAt_31 rfl (fun c_31 => ?_) (fun c_31 => ?_)
    · refine z_iconst (pc := 44) C dX0_operandAt_44 ?_
      refine hret 45 _ _ _ dX0_operandAt_45 (zRgL rfl) hR ?_
      exact ⟨by (first | rfl | omega | (split <;> first | rfl | omega) | (simp_all; done) | (split <;> split <;> first | rfl | omega) | grind), rfl⟩
    · refine z_iload_n (pc := 34) C dX0_operandAt_34 rfl rfl ?_
      refine z_iconst (pc := 35) C dX0_operandAt_35 ?_
      refine z_icmp_eq (pc := 36) C 44 g_2 (zRgL rfl) dX0_operandAt_36 rfl (fun c_36 => ?_) (fun c_36 => ?_)
      · refine z_iconst (pc := 44) C dX0_operandAt_44 ?_
        refine hret 45 _ _ _ dX0_operandAt_45 (zRgL rfl) hR ?_
        exact ⟨by (first | rfl | omega | (split <;> first | rfl | omega) | (simp_all; done) | (split <;> split <;> first | rfl | omega) | grind), rfl⟩
      · refine z_iload (pc := 39) C dX0_operandAt_39 rfl ?_
        refine z_goto (pc := 41) C 45 dX0_operandAt_41 rfl ?_
        refine hret 45 _ _ _ dX0_operandAt_45 g_8 hR ?_
        exact ⟨by (first | rfl | omega | (split <;> first | rfl | omega) | (simp_all; done) | (split <;> split <;> first | rfl | omega) | grind), rfl⟩
  · refine z_iload_n (pc := 17) C dX0_operandAt_17 rfl rfl ?_
    refine z_iconst (pc := 18) C dX0_operandAt_18 ?_
    refine z_icmp_ne (pc := 19) C 27 g_2 (zRgL rfl) dX0_operandAt_19 rfl (fun c_19 => ?_) (fun c_19 => ?_)
    · refine z_iload_n (pc := 27) C dX0_operandAt_27 rfl rfl ?_
      refine hret 28 _ _ _ dX0_operandAt_28 g_2 hR ?_
      exact ⟨by (first | rfl | omega | (split <;> first | rfl | omega) | (simp_all; done) | (split <;> split <;> first | rfl | omega) | grind), rfl⟩
    · refine z_iload (pc := 22) C dX0_operandAt_22 rfl ?_
      refine z_goto (pc := 24) C 28 dX0_operandAt_24 rfl ?_
      refine hret 28 _ _ _ dX0_operandAt_28 g_8 hR ?_
      exact ⟨by (first | rfl | omega | (split <;> first | rfl | omega) | (simp_all; done) | (split <;> split <;> first | rfl | omega) | grind), rfl⟩
set_option maxRecDepth 20000 in
theorem C_X3_empty (E : ZE) (σ : ZSt) (hR : zRs σ) (k : Nat) (hk : k = 19 ∨ k = 21 ∨ k = 23) : ZMv E 0 yX3_empty cX3_empty 1 [zrf E k] σ (fun σ' => σ' = zup σ k 1 0) := by
  refine ZMv.intro (by decide) rfl (Nat.le_of_ble_eq_true rfl) (fun Γ C hN hret => ?_)
  show ZG E Γ 0 [some (zrf E k)] [] σ
  refine z_aload_nZ (pc := 0) C dX3_empty_0 rfl rfl ?_
  refine z_iconst (pc := 1) C dX3_empty_1 ?_
  refine z_putI (pc := 2) C hR fX3_15 (shTX hk) rfl (zRgL rfl) dX3_empty_2 (fun σ_2 e_2 hR_2 => ?_)
  refine hret 5 _ _ dX3_empty_5 hR_2 ?_
  assumption
set_option maxRecDepth 20000 in
theorem C_X3_put (E : ZE) (σ : ZSt) (hR : zRs σ) (k : Nat) (hk : k = 19 ∨ k = 21 ∨ k = 23) (a : Int) (ha : zRg a) (hI : IX σ) : ZMi E 0 yX3_put cX3_put 2 (some .boolean) [zrf E k, ziv a] σ (fun r σ' => r = (if 120 ≤ σ k 1 then 0 else 1) ∧ σ' = xput σ k a) := by
  refine ZMi.introZ (by decide) rfl (Nat.le_of_ble_eq_true rfl) (fun Γ C hN hret => ?_)
  show ZG E Γ 0 [some (zrf E k), some (ziv a)] [] σ
  have hbd := hI.tx hk
  refine z_aload_nZ (pc := 0) C dX3_put_0 rfl rfl ?_
  refine z_getI (pc := 1) C fX3_15 (shTX hk) rfl dX3_put_1 ?_
  refine z_bipush (pc := 4) C dX3_put_4 (by decide) ?_
  refine z_icmp_lt (pc := 6) C 11 (hR k _) (zRgL rfl) dX3_put_6 rfl (fun c_6 => ?_) (fun c_6 => ?_)
  · refine z_aload_nZ (pc := 11) C dX3_put_11 rfl rfl ?_
    refine z_getR (pc := 12) C fX3_9 (shTX hk) rfl dX3_put_12 ?_
    refine z_aload_nZ (pc := 15) C dX3_put_15 rfl rfl ?_
    refine z_getI (pc := 16) C fX3_15 (shTX hk) rfl dX3_put_16 ?_
    refine z_iload_n (pc := 19) C dX3_put_19 rfl rfl ?_
    refine z_iast (pc := 20) C hR (shTX1 hk) (by (try unfold zRg at *); (try simp only [IX] at *); omega) (by (try unfold zRg at *); (try simp only [IX] at *); omega) ha dX3_put_20 (fun σ_20 e_20 hR_20 => ?_)
    have hI_20 : IX σ_20 := by rw [e_20]; exact hI.upTXa hk
    refine z_aload_nZ (pc := 21) C dX3_put_21 rfl rfl ?_
    refine z_dup (pc := 22) C dX3_put_22 rfl ?_
    refine z_getIe (pc := 23) (v := σ k 1) C fX3_15 (shTX hk) rfl dX3_put_23 (by rw [e_20, zup_cell (by omega)]) ?_
    refine z_iconst (pc := 26) C dX3_put_26 ?_
    refine z_iadd (pc := 27) C dX3_put_27 ?_
    refine z_putI (pc := 28) C hR_20 fX3_15 (shTX hk) rfl (by (try unfold zRg at *); (try simp only [IX] at *); omega) dX3_put_28 (fun σ_28 e_28 hR_28 => ?_)
    have hI_28 : IX σ_28 := by rw [e_28]; exact hI_20.upTX hk (by (try unfold zRg at *); (try simp only [IX] at *); omega)
    refine z_iconst (pc := 31) C dX3_put_31 ?_
    refine hret 32 _ _ _ dX3_put_32 (Or.inr rfl) hR_28 ?_
    exact ⟨by rw [if_neg (by omega)], by unfold xput; rw [if_neg (by omega)]; subst_vars; rfl⟩
  · refine z_iconst (pc := 9) C dX3_put_9 ?_
    refine hret 10 _ _ _ dX3_put_10 (Or.inl rfl) hR ?_
    exact ⟨by rw [if_pos (by omega)], by unfold xput; rw [if_pos (by omega)]⟩
