set_option maxRecDepth 20000 in
theorem C_X4_mark (E : ZE) (σ : ZSt) (hR : zRs σ) (a : Int) (ha : zRg a) (hI : IX σ) : ZMv E 0 yX4_mark cX4_mark 2 [zrf E 29, ziv a] σ (fun σ' => σ' = xmark σ a) := by
  refine ZMv.intro (by decide) rfl (Nat.le_of_ble_eq_true rfl) (fun Γ C hN hret => ?_)
  show ZG E Γ 0 [some (zrf E 29), some (ziv a)] [] σ
  refine z_iload_n (pc := 0) C dX4_mark_0 rfl rfl ?_
  refine z_if_lt (pc := 1) C 17 ha dX4_mark_1 rfl (fun c_1 => ?_) (fun c_1 => ?_)
  · refine hret 17 _ _ dX4_mark_17 hR ?_
    unfold xmark; first | (rw [zif_pos (by omega)]; assumption) | rw [zif_neg (by omega)]
  · refine z_iload_n (pc := 4) C dX4_mark_4 rfl rfl ?_
    refine z_bipush (pc := 5) C dX4_mark_5 (by decide) ?_
    refine z_icmp_ge (pc := 7) C 17 ha (zRgL rfl) dX4_mark_7 rfl (fun c_7 => ?_) (fun c_7 => ?_)
    · refine hret 17 _ _ dX4_mark_17 hR ?_
      unfold xmark; first | (rw [zif_pos (by omega)]; assumption) | rw [zif_neg (by omega)]
    · refine z_aload_nZ (pc := 10) C dX4_mark_10 rfl rfl ?_
      refine z_getR (pc := 11) C fX4_9 sh29 rfl dX4_mark_11 ?_
      refine z_iload_n (pc := 14) C dX4_mark_14 rfl rfl ?_
      refine z_iconst (pc := 15) C dX4_mark_15 ?_
      refine z_iast (pc := 16) C hR sh30 (by (try unfold zRg at *); (try simp only [IX] at *); omega) (by (try unfold zRg at *); (try simp only [IX] at *); omega) (zRgL rfl) dX4_mark_16 (fun σ_16 e_16 hR_16 => ?_)
      have hI_16 : IX σ_16 := by rw [e_16]; exact hI.upA rfl
      refine hret 17 _ _ dX4_mark_17 hR_16 ?_
      unfold xmark; first | (rw [zif_pos (by omega)]; assumption) | rw [zif_neg (by omega)]
set_option maxRecDepth 20000 in
theorem C_X4_isReadWhole (E : ZE) (σ : ZSt) (hR : zRs σ) (a : Int) (ha : zRg a) (b : Int) (hb : zRg b) (c : Int) (hc : zRg c) (hI : IX σ) : ZMi E 2 yX4_isReadWhole cX4_isReadWhole 7 (some .boolean) [zrf E 29, ziv a, ziv b, ziv c] σ (fun r σ' => (r = zb (xrw σ a b c)) ∧ σ' = σ) := by
  refine ZMi.introZ (by decide) rfl (Nat.le_of_ble_eq_true rfl) (fun Γ C hN hret => ?_)
  show ZG E Γ 0 [some (zrf E 29), some (ziv a), some (ziv b), some (ziv c), none, none, none] [] σ
  refine z_aload_nZ (pc := 0) C dX4_isReadWhole_0 rfl rfl ?_
  refine z_getR (pc := 1) C fX4_15 sh29 rfl dX4_isReadWhole_1 ?_
  refine z_iload_n (pc := 4) C dX4_isReadWhole_4 rfl rfl ?_
  refine z_callVp (pc := 5) (rest := []) C (C_X1_kindAt E σ hR a ha hI) vX4_88 (by decide) sh1 rfl rfl rfl (Nat.le_of_ble_eq_true rfl) dX4_isReadWhole_5 (fun r_5 g_5 hp_5 => ?_)
  refine z_istore (pc := 8) (lv' := [some (zrf E 29), some (ziv a), some (ziv b), some (ziv c), some (ziv r_5), none, none]) C hN dX4_isReadWhole_8 (by decide) rfl ?_
  have L33 : ∀ (t : Int), t = zb (xkind σ a = 1 ∨ b ≤ xlev σ a) → ZG E Γ 33 [some (zrf E 29), some (ziv a), some (ziv b), some (ziv c), some (ziv r_5), none, none] [ziv t] σ := by
    intro t ht
    refine z_istore (pc := 33) (lv' := [some (zrf E 29), some (ziv a), some (ziv b), some (ziv c), some (ziv r_5), some (ziv t), none]) C hN dX4_isReadWhole_33 (by decide) rfl ?_
    have L58 : ∀ (u : Int), u = zb (xkind σ a = 2 ∨ c < xmin σ a) → ZG E Γ 58 [some (zrf E 29), some (ziv a), some (ziv b), some (ziv c), some (ziv r_5), some (ziv t), none] [ziv u] σ := by
      intro u hu
      refine z_istore (pc := 58) (lv' := [some (zrf E 29), some (ziv a), some (ziv b), some (ziv c), some (ziv r_5), some (ziv t), some (ziv u)]) C hN dX4_isReadWhole_58 (by decide) rfl ?_
      refine z_iload (pc := 60) C dX4_isReadWhole_60 rfl ?_
      refine z_if_eq (pc := 62) C 74 (zRg01 (zb01 ht)) dX4_isReadWhole_62 rfl (fun c_62 => ?_) (fun c_62 => ?_)
      · have c_62 := zb0 ht c_62
        refine z_iconst (pc := 74) C dX4_isReadWhole_74 ?_
        refine hret 75 _ _ _ dX4_isReadWhole_75 (Or.inl rfl) hR ?_
        exact ⟨by first | exact zb_one ⟨by assumption, by assumption⟩ | exact zb_zero (fun w => by first | exact absurd w.1 (by assumption) | exact absurd w.2 (by assumption)), rfl⟩
      · have c_62 := zb1 ht c_62
        refine z_iload (pc := 65) C dX4_isReadWhole_65 rfl ?_
        refine z_if_eq (pc := 67) C 74 (zRg01 (zb01 hu)) dX4_isReadWhole_67 rfl (fun c_67 => ?_) (fun c_67 => ?_)
        · have c_67 := zb0 hu c_67
          refine z_iconst (pc := 74) C dX4_isReadWhole_74 ?_
          refine hret 75 _ _ _ dX4_isReadWhole_75 (Or.inl rfl) hR ?_
          exact ⟨by first | exact zb_one ⟨by assumption, by assumption⟩ | exact zb_zero (fun w => by first | exact absurd w.1 (by assumption) | exact absurd w.2 (by assumption)), rfl⟩
        · have c_67 := zb1 hu c_67
          refine z_iconst (pc := 70) C dX4_isReadWhole_70 ?_
          refine z_goto (pc := 71) C 75 dX4_isReadWhole_71 rfl ?_
          refine hret 75 _ _ _ dX4_isReadWhole_75 (Or.inr rfl) hR ?_
          exact ⟨by first | exact zb_one ⟨by assumption, by assumption⟩ | exact zb_zero (fun w => by first | exact absurd w.1 (by assumption) | exact absurd w.2 (by assumption)), rfl⟩
    refine z_iload (pc := 35) C dX4_isReadWhole_35 rfl ?_
    refine z_iconst (pc := 37) C dX4_isReadWhole_37 ?_
    refine z_icmp_eq (pc := 38) C 53 g_5 (zRgL rfl) dX4_isReadWhole_38 rfl (fun c_38 => ?_) (fun c_38 => ?_)
    · refine z_iconst (pc := 53) C dX4_isReadWhole_53 ?_
      refine z_goto (pc := 54) C 58 dX4_isReadWhole_54 rfl ?_
      exact L58 _ (by first | exact zb_one (by rw [← hp_5]; omega) | exact zb_one (by rw [← hp_46]; omega) | exact zb_zero (by rw [← hp_5, ← hp_46]; omega))
    · refine z_aload_nZ (pc := 41) C dX4_isReadWhole_41 rfl rfl ?_
      refine z_getR (pc := 42) C fX4_15 sh29 rfl dX4_isReadWhole_42 ?_
      refine z_iload_n (pc := 45) C dX4_isReadWhole_45 rfl rfl ?_
      refine z_callVp (pc := 46) (rest := []) C (C_X1_minAfter E σ hR a ha hI) vX4_85 (by decide) sh1 rfl rfl rfl (Nat.le_of_ble_eq_true rfl) dX4_isReadWhole_46 (fun r_46 g_46 hp_46 => ?_)
      refine z_iload_n (pc := 49) C dX4_isReadWhole_49 rfl rfl ?_
      refine z_icmp_le (pc := 50) C 57 g_46 hc dX4_isReadWhole_50 rfl (fun c_50 => ?_) (fun c_50 => ?_)
      · refine z_iconst (pc := 57) C dX4_isReadWhole_57 ?_
        exact L58 _ (by first | exact zb_one (by rw [← hp_5]; omega) | exact zb_one (by rw [← hp_46]; omega) | exact zb_zero (by rw [← hp_5, ← hp_46]; omega))
      · refine z_iconst (pc := 53) C dX4_isReadWhole_53 ?_
        refine z_goto (pc := 54) C 58 dX4_isReadWhole_54 rfl ?_
        exact L58 _ (by first | exact zb_one (by rw [← hp_5]; omega) | exact zb_one (by rw [← hp_46]; omega) | exact zb_zero (by rw [← hp_5, ← hp_46]; omega))
  refine z_iload (pc := 10) C dX4_isReadWhole_10 rfl ?_
  refine z_iconst (pc := 12) C dX4_isReadWhole_12 ?_
  refine z_icmp_eq (pc := 13) C 28 g_5 (zRgL rfl) dX4_isReadWhole_13 rfl (fun c_13 => ?_) (fun c_13 => ?_)
  · refine z_iconst (pc := 28) C dX4_isReadWhole_28 ?_
    refine z_goto (pc := 29) C 33 dX4_isReadWhole_29 rfl ?_
    exact L33 _ (by first | exact zb_one (by rw [← hp_5]; omega) | exact zb_one (by rw [← hp_21]; omega) | exact zb_zero (by rw [← hp_5, ← hp_21]; omega))
  · refine z_aload_nZ (pc := 16) C dX4_isReadWhole_16 rfl rfl ?_
    refine z_getR (pc := 17) C fX4_15 sh29 rfl dX4_isReadWhole_17 ?_
    refine z_iload_n (pc := 20) C dX4_isReadWhole_20 rfl rfl ?_
    refine z_callVp (pc := 21) (rest := []) C (C_X1_levelAt E σ hR a ha hI) vX4_76 (by decide) sh1 rfl rfl rfl (Nat.le_of_ble_eq_true rfl) dX4_isReadWhole_21 (fun r_21 g_21 hp_21 => ?_)
    refine z_iload_n (pc := 24) C dX4_isReadWhole_24 rfl rfl ?_
    refine z_icmp_lt (pc := 25) C 32 g_21 hb dX4_isReadWhole_25 rfl (fun c_25 => ?_) (fun c_25 => ?_)
    · refine z_iconst (pc := 32) C dX4_isReadWhole_32 ?_
      exact L33 _ (by first | exact zb_one (by rw [← hp_5]; omega) | exact zb_one (by rw [← hp_21]; omega) | exact zb_zero (by rw [← hp_5, ← hp_21]; omega))
    · refine z_iconst (pc := 28) C dX4_isReadWhole_28 ?_
      refine z_goto (pc := 29) C 33 dX4_isReadWhole_29 rfl ?_
      exact L33 _ (by first | exact zb_one (by rw [← hp_5]; omega) | exact zb_one (by rw [← hp_21]; omega) | exact zb_zero (by rw [← hp_5, ← hp_21]; omega))
set_option maxRecDepth 20000 in
theorem C_X4_pairsIfBracketed (E : ZE) (σ : ZSt) (hR : zRs σ) (a : Int) (ha : zRg a) (hI : IX σ) : ZMi E 0 yX4_pairsIfBracketed cX4_pairsIfBracketed 2 (some .int) [zrf E 29, ziv a] σ (fun r σ' => (r = xpb σ a) ∧ σ' = σ) := by
  refine ZMi.intro (by decide) rfl (Nat.le_of_ble_eq_true rfl) (fun Γ C hN hret => ?_)
  show ZG E Γ 0 [some (zrf E 29), some (ziv a)] [] σ
  refine z_iload_n (pc := 0) C dX4_pairsIfBracketed_0 rfl rfl ?_
  refine z_if_lt (pc := 1) C 21 ha dX4_pairsIfBracketed_1 rfl (fun c_1 => ?_) (fun c_1 => ?_)
  · refine z_sipush (pc := 21) C dX4_pairsIfBracketed_21 (by decide) ?_
    refine hret 24 _ _ _ dX4_pairsIfBracketed_24 (zRgL rfl) hR ?_
    exact ⟨by unfold xpb; first | rw [zif_pos (by omega)] | rw [zif_neg (by omega)], rfl⟩
  · refine z_iload_n (pc := 4) C dX4_pairsIfBracketed_4 rfl rfl ?_
    refine z_bipush (pc := 5) C dX4_pairsIfBracketed_5 (by decide) ?_
    refine z_icmp_ge (pc := 7) C 21 ha (zRgL rfl) dX4_pairsIfBracketed_7 rfl (fun c_7 => ?_) (fun c_7 => ?_)
    · refine z_sipush (pc := 21) C dX4_pairsIfBracketed_21 (by decide) ?_
      refine hret 24 _ _ _ dX4_pairsIfBracketed_24 (zRgL rfl) hR ?_
      exact ⟨by unfold xpb; first | rw [zif_pos (by omega)] | rw [zif_neg (by omega)], rfl⟩
    · refine z_iconst (pc := 10) C dX4_pairsIfBracketed_10 ?_
      refine z_aload_nZ (pc := 11) C dX4_pairsIfBracketed_11 rfl rfl ?_
      refine z_getR (pc := 12) C fX4_9 sh29 rfl dX4_pairsIfBracketed_12 ?_
      refine z_iload_n (pc := 15) C dX4_pairsIfBracketed_15 rfl rfl ?_
      refine z_iald (pc := 16) C sh30 (by (try unfold zRg at *); (try simp only [IX] at *); omega) (by (try unfold zRg at *); (try simp only [IX] at *); omega) dX4_pairsIfBracketed_16 ?_
      refine z_iadd (pc := 17) C dX4_pairsIfBracketed_17 ?_
      refine z_norm ?_
      refine z_goto (pc := 18) C 24 dX4_pairsIfBracketed_18 rfl ?_
      refine hret 24 _ _ _ dX4_pairsIfBracketed_24 (zw_rg _) hR ?_
      exact ⟨by unfold xpb; first | rw [zif_pos (by omega)] | rw [zif_neg (by omega)], rfl⟩
set_option maxRecDepth 20000 in
theorem C_X4_pairsIfOpen (E : ZE) (σ : ZSt) (hR : zRs σ) (hI : IX σ) (N : Nat) (hK : K_pin E σ N) (o : Int) (ho : zRg o) (w : Int) (hw : zRg w) (m : Int) (hm : zRg m) (x : Int) (hx : zRg x) (d : Int) (hd : zRg d) (hdN : (40 - d).toNat < N) : ZMi E (3 * N + 4) yX4_pairsIfOpen cX4_pairsIfOpen 7 (some .int) [zrf E 29, ziv o, ziv w, ziv m, ziv x, ziv d] σ (fun r σ' => (r = xpi σ (xpin σ (40 - d).toNat) o w m x) ∧ σ' = σ) := by
  refine ZMi.intro (by decide) rfl (Nat.le_of_ble_eq_true rfl) (fun Γ C hN hret => ?_)
  show ZG E Γ 0 [some (zrf E 29), some (ziv o), some (ziv w), some (ziv m), some (ziv x), some (ziv d), none] [] σ
  refine z_aload_nZ (pc := 0) C dX4_pairsIfOpen_0 rfl rfl ?_
  refine z_getR (pc := 1) C fX4_19 sh29 rfl dX4_pairsIfOpen_1 ?_
  refine z_iload_n (pc := 4) C dX4_pairsIfOpen_4 rfl rfl ?_
  refine z_callVp (pc := 5) (rest := []) C (C_X0_operatorAt E σ hR 7 (Or.inl rfl) w hw hI) vX4_69 (by omega) sh7 rfl rfl rfl (Nat.le_of_ble_eq_true rfl) dX4_pairsIfOpen_5 (fun r_5 g_5 hp_5 => ?_)
  refine z_istore (pc := 8) (lv' := [some (zrf E 29), some (ziv o), some (ziv w), some (ziv m), some (ziv x), some (ziv d), some (ziv r_5)]) C hN dX4_pairsIfOpen_8 (by decide) rfl ?_
  refine z_aload_nZ (pc := 10) C dX4_pairsIfOpen_10 rfl rfl ?_
  refine z_getR (pc := 11) C fX4_15 sh29 rfl dX4_pairsIfOpen_11 ?_
  refine z_iload_n (pc := 14) C dX4_pairsIfOpen_14 rfl rfl ?_
  refine z_iload (pc := 15) C dX4_pairsIfOpen_15 rfl ?_
  refine z_callVp (pc := 17) (rest := []) C (C_X1_isForbidden E σ hR o ho r_5 g_5 hI) vX4_97 (by omega) sh1 rfl rfl rfl (Nat.le_of_ble_eq_true rfl) dX4_pairsIfOpen_17 (fun r_17 g_17 hp_17 => ?_)
  refine z_if_ne (pc := 20) C 36 g_17 dX4_pairsIfOpen_20 rfl (fun c_20 => ?_) (fun c_20 => ?_)
  · have c_20 := zb1 hp_17 c_20
    refine z_sipush (pc := 36) C dX4_pairsIfOpen_36 (by decide) ?_
    refine hret 39 _ _ _ dX4_pairsIfOpen_39 (zRgL rfl) hR ?_
    exact ⟨by unfold xpi; rw [← hp_5]; first | (rw [zif_pos (by first | (left; assumption) | (right; assumption))]; done) | (rw [zif_neg (fun q => by rcases q with q | q <;> contradiction)]; assumption), rfl⟩
  · have c_20 := zb0 hp_17 c_20
    refine z_aload_nZ (pc := 23) C dX4_pairsIfOpen_23 rfl rfl ?_
    refine z_getR (pc := 24) C fX4_15 sh29 rfl dX4_pairsIfOpen_24 ?_
    refine z_iload_n (pc := 27) C dX4_pairsIfOpen_27 rfl rfl ?_
    refine z_iload (pc := 28) C dX4_pairsIfOpen_28 rfl ?_
    refine z_callVp (pc := 30) (rest := []) C (C_X1_isNotAssociative E σ hR o ho r_5 g_5 hI) vX4_101 (by omega) sh1 rfl rfl rfl (Nat.le_of_ble_eq_true rfl) dX4_pairsIfOpen_30 (fun r_30 g_30 hp_30 => ?_)
    refine z_if_eq (pc := 33) C 40 g_30 dX4_pairsIfOpen_33 rfl (fun c_33 => ?_) (fun c_33 => ?_)
    · have c_33 := zb0 hp_30 c_33
      refine z_aload_nZ (pc := 40) C dX4_pairsIfOpen_40 rfl rfl ?_
      refine z_iload_n (pc := 41) C dX4_pairsIfOpen_41 rfl rfl ?_
      refine z_iload_n (pc := 42) C dX4_pairsIfOpen_42 rfl rfl ?_
      refine z_iload (pc := 43) C dX4_pairsIfOpen_43 rfl ?_
      refine z_iload (pc := 45) C dX4_pairsIfOpen_45 rfl ?_
      refine z_callVp (pc := 47) (rest := []) C (hK w hw m hm x hx d hd hdN) vX4_65 (by omega) sh29 rfl rfl rfl (Nat.le_of_ble_eq_true rfl) dX4_pairsIfOpen_47 (fun r_47 g_47 hp_47 => ?_)
      refine hret 50 _ _ _ dX4_pairsIfOpen_50 g_47 hR ?_
      exact ⟨by unfold xpi; rw [← hp_5]; first | (rw [zif_pos (by first | (left; assumption) | (right; assumption))]; done) | (rw [zif_neg (fun q => by rcases q with q | q <;> contradiction)]; assumption), rfl⟩
    · have c_33 := zb1 hp_30 c_33
      refine z_sipush (pc := 36) C dX4_pairsIfOpen_36 (by decide) ?_
      refine hret 39 _ _ _ dX4_pairsIfOpen_39 (zRgL rfl) hR ?_
      exact ⟨by unfold xpi; rw [← hp_5]; first | (rw [zif_pos (by first | (left; assumption) | (right; assumption))]; done) | (rw [zif_neg (fun q => by rcases q with q | q <;> contradiction)]; assumption), rfl⟩
set_option maxRecDepth 20000 in
theorem C_X4_pairsOfOperand (E : ZE) (σ : ZSt) (hR : zRs σ) (hI : IX σ) (N : Nat) (hK : K_pin E σ N) (o : Int) (ho : zRg o) (w : Int) (hw : zRg w) (m : Int) (hm : zRg m) (x : Int) (hx : zRg x) (d : Int) (hd : zRg d) (hdN : (40 - d).toNat < N) : ZMi E (3 * N + 5) yX4_pairsOfOperand cX4_pairsOfOperand 6 (some .int) [zrf E 29, ziv o, ziv w, ziv m, ziv x, ziv d] σ (fun r σ' => (r = xpo σ (xpin σ (40 - d).toNat) o w m x) ∧ σ' = σ) := by
  refine ZMi.intro (by decide) rfl (Nat.le_of_ble_eq_true rfl) (fun Γ C hN hret => ?_)
  show ZG E Γ 0 [some (zrf E 29), some (ziv o), some (ziv w), some (ziv m), some (ziv x), some (ziv d)] [] σ
  refine z_aload_nZ (pc := 0) C dX4_pairsOfOperand_0 rfl rfl ?_
  refine z_getR (pc := 1) C fX4_19 sh29 rfl dX4_pairsOfOperand_1 ?_
  refine z_iload_n (pc := 4) C dX4_pairsOfOperand_4 rfl rfl ?_
  refine z_callVp (pc := 5) (rest := []) C (C_X0_operatorAt E σ hR 7 (Or.inl rfl) w hw hI) vX4_69 (by omega) sh7 rfl rfl rfl (Nat.le_of_ble_eq_true rfl) dX4_pairsOfOperand_5 (fun r_5 g_5 hp_5 => ?_)
  refine z_iconst (pc := 8) C dX4_pairsOfOperand_8 ?_
  refine z_icmp_ne (pc := 9) C 14 g_5 (zRgL rfl) dX4_pairsOfOperand_9 rfl (fun c_9 => ?_) (fun c_9 => ?_)
  · refine z_aload_nZ (pc := 14) C dX4_pairsOfOperand_14 rfl rfl ?_
    refine z_iload_n (pc := 15) C dX4_pairsOfOperand_15 rfl rfl ?_
    refine z_iload_n (pc := 16) C dX4_pairsOfOperand_16 rfl rfl ?_
    refine z_iload_n (pc := 17) C dX4_pairsOfOperand_17 rfl rfl ?_
    refine z_iload (pc := 18) C dX4_pairsOfOperand_18 rfl ?_
    refine z_iload (pc := 20) C dX4_pairsOfOperand_20 rfl ?_
    refine z_callVp (pc := 22) (rest := []) C (C_X4_pairsIfOpen E σ hR hI N hK o ho w hw m hm x hx d hd hdN) vX4_91 (by omega) sh29 rfl rfl rfl (Nat.le_of_ble_eq_true rfl) dX4_pairsOfOperand_22 (fun r_22 g_22 hp_22 => ?_)
    refine z_aload_nZ (pc := 25) C dX4_pairsOfOperand_25 rfl rfl ?_
    refine z_iload_n (pc := 26) C dX4_pairsOfOperand_26 rfl rfl ?_
    refine z_callVp (pc := 27) (rest := [ziv r_22]) C (C_X4_pairsIfBracketed E σ hR w hw hI) vX4_94 (by omega) sh29 rfl rfl rfl (Nat.le_of_ble_eq_true rfl) dX4_pairsOfOperand_27 (fun r_27 g_27 hp_27 => ?_)
    refine z_min (pc := 30) C vX4_50 g_22 g_27 (by omega) (Nat.le_of_ble_eq_true rfl) dX4_pairsOfOperand_30 ?_
    refine hret 33 _ _ _ dX4_pairsOfOperand_33 (by (try unfold zRg at *); (try simp only [IX] at *); omega) hR ?_
    exact ⟨by unfold xpo; rw [← hp_5]; first | (rw [zif_pos (by assumption)]; done) | (rw [zif_neg (by assumption), hp_22, hp_27]), rfl⟩
  · refine z_iconst (pc := 12) C dX4_pairsOfOperand_12 ?_
    refine hret 13 _ _ _ dX4_pairsOfOperand_13 (zRgL rfl) hR ?_
    exact ⟨by unfold xpo; rw [← hp_5]; first | (rw [zif_pos (by assumption)]; done) | (rw [zif_neg (by assumption), hp_22, hp_27]), rfl⟩
set_option maxRecDepth 20000 in
theorem C_X4_pairsInside (E : ZE) (σ : ZSt) (hR : zRs σ) (hI : IX σ) : ∀ N : Nat, K_pin E σ N := by
  intro N
  induction N with
  | zero => intro v hv m hm x hx d hd hlt; exact absurd hlt (by omega)
  | succ N ih =>
  intro v hv m hm x hx d hd hlt
  refine ZMi.intro (by decide) rfl (Nat.le_of_ble_eq_true rfl) (fun Γ C hN hret => ?_)
  show ZG E Γ 0 [some (zrf E 29), some (ziv v), some (ziv m), some (ziv x), some (ziv d), none] [] σ
  refine z_aload_nZ (pc := 0) C dX4_pairsInside_0 rfl rfl ?_
  refine z_getR (pc := 1) C fX4_19 sh29 rfl dX4_pairsInside_1 ?_
  refine z_iload_n (pc := 4) C dX4_pairsInside_4 rfl rfl ?_
  refine z_callVp (pc := 5) (rest := []) C (C_X0_operatorAt E σ hR 7 (Or.inl rfl) v hv hI) vX4_69 (by omega) sh7 rfl rfl rfl (Nat.le_of_ble_eq_true rfl) dX4_pairsInside_5 (fun r_5 g_5 hp_5 => ?_)
  refine z_istore (pc := 8) (lv' := [some (zrf E 29), some (ziv v), some (ziv m), some (ziv x), some (ziv d), some (ziv r_5)]) C hN dX4_pairsInside_8 (by decide) rfl ?_
  refine z_iload (pc := 10) C dX4_pairsInside_10 rfl ?_
  refine z_iconst (pc := 12) C dX4_pairsInside_12 ?_
  refine z_icmp_ne (pc := 13) C 18 g_5 (zRgL rfl) dX4_pairsInside_13 rfl (fun c_13 => ?_) (fun c_13 => ?_)
  · refine z_iload (pc := 18) C dX4_pairsInside_18 rfl ?_
    refine z_bipush (pc := 20) C dX4_pairsInside_20 (by decide) ?_
    refine z_icmp_ge (pc := 22) C 36 hd (zRgL rfl) dX4_pairsInside_22 rfl (fun c_22 => ?_) (fun c_22 => ?_)
    · refine z_sipush (pc := 36) C dX4_pairsInside_36 (by decide) ?_
      refine hret 39 _ _ _ dX4_pairsInside_39 (zRgL rfl) hR ?_
      exact ⟨(xpin_far (by rw [← hp_5]; assumption) (by first | (left; omega) | (right; rw [← hp_5]; assumption))).symm, rfl⟩
    · refine z_aload_nZ (pc := 25) C dX4_pairsInside_25 rfl rfl ?_
      refine z_iload (pc := 26) C dX4_pairsInside_26 rfl ?_
      refine z_iload_n (pc := 28) C dX4_pairsInside_28 rfl rfl ?_
      refine z_iload_n (pc := 29) C dX4_pairsInside_29 rfl rfl ?_
      refine z_callVp (pc := 30) (rest := []) C (C_X4_isReadWhole E σ hR r_5 g_5 m hm x hx hI) vX4_72 (by omega) sh29 rfl rfl rfl (Nat.le_of_ble_eq_true rfl) dX4_pairsInside_30 (fun r_30 g_30 hp_30 => ?_)
      refine z_if_ne (pc := 33) C 40 g_30 dX4_pairsInside_33 rfl (fun c_33 => ?_) (fun c_33 => ?_)
      · have c_33 := zb1 hp_30 c_33
        refine z_aload_nZ (pc := 40) C dX4_pairsInside_40 rfl rfl ?_
        refine z_iload (pc := 41) C dX4_pairsInside_41 rfl ?_
        refine z_aload_nZ (pc := 43) C dX4_pairsInside_43 rfl rfl ?_
        refine z_getR (pc := 44) C fX4_19 sh29 rfl dX4_pairsInside_44 ?_
        refine z_iload_n (pc := 47) C dX4_pairsInside_47 rfl rfl ?_
        refine z_callVp (pc := 48) (rest := [ziv r_5, zrf E 29]) C (C_X0_beforeAt E σ hR 7 (Or.inl rfl) v hv hI) vX4_56 (by omega) sh7 rfl rfl rfl (Nat.le_of_ble_eq_true rfl) dX4_pairsInside_48 (fun r_48 g_48 hp_48 => ?_)
        refine z_iload_n (pc := 51) C dX4_pairsInside_51 rfl rfl ?_
        refine z_aload_nZ (pc := 52) C dX4_pairsInside_52 rfl rfl ?_
        refine z_getR (pc := 53) C fX4_15 sh29 rfl dX4_pairsInside_53 ?_
        refine z_iload (pc := 56) C dX4_pairsInside_56 rfl ?_
        refine z_callVp (pc := 58) (rest := [ziv m, ziv r_48, ziv r_5, zrf E 29]) C (C_X1_levelAt E σ hR r_5 g_5 hI) vX4_76 (by omega) sh1 rfl rfl rfl (Nat.le_of_ble_eq_true rfl) dX4_pairsInside_58 (fun r_58 g_58 hp_58 => ?_)
        refine z_iload (pc := 61) C dX4_pairsInside_61 rfl ?_
        refine z_iconst (pc := 63) C dX4_pairsInside_63 ?_
        refine z_iadd (pc := 64) C dX4_pairsInside_64 ?_
        refine z_callVp (pc := 65) (rest := []) C (C_X4_pairsOfOperand E σ hR hI N ih r_5 g_5 r_48 g_48 m hm r_58 g_58 (d + 1) (by (try unfold zRg at *); (try simp only [IX] at *); omega) (by omega)) vX4_81 (by omega) sh29 rfl rfl rfl (Nat.le_of_ble_eq_true rfl) dX4_pairsInside_65 (fun r_65 g_65 hp_65 => ?_)
        refine z_aload_nZ (pc := 68) C dX4_pairsInside_68 rfl rfl ?_
        refine z_iload (pc := 69) C dX4_pairsInside_69 rfl ?_
        refine z_aload_nZ (pc := 71) C dX4_pairsInside_71 rfl rfl ?_
        refine z_getR (pc := 72) C fX4_19 sh29 rfl dX4_pairsInside_72 ?_
        refine z_iload_n (pc := 75) C dX4_pairsInside_75 rfl rfl ?_
        refine z_callVp (pc := 76) (rest := [ziv r_5, zrf E 29, ziv r_65]) C (C_X0_afterAt E σ hR 7 (Or.inl rfl) v hv hI) vX4_62 (by omega) sh7 rfl rfl rfl (Nat.le_of_ble_eq_true rfl) dX4_pairsInside_76 (fun r_76 g_76 hp_76 => ?_)
        refine z_aload_nZ (pc := 79) C dX4_pairsInside_79 rfl rfl ?_
        refine z_getR (pc := 80) C fX4_15 sh29 rfl dX4_pairsInside_80 ?_
        refine z_iload (pc := 83) C dX4_pairsInside_83 rfl ?_
        refine z_callVp (pc := 85) (rest := [ziv r_76, ziv r_5, zrf E 29, ziv r_65]) C (C_X1_minAfter E σ hR r_5 g_5 hI) vX4_85 (by omega) sh1 rfl rfl rfl (Nat.le_of_ble_eq_true rfl) dX4_pairsInside_85 (fun r_85 g_85 hp_85 => ?_)
        refine z_iload_n (pc := 88) C dX4_pairsInside_88 rfl rfl ?_
        refine z_iload (pc := 89) C dX4_pairsInside_89 rfl ?_
        refine z_iconst (pc := 91) C dX4_pairsInside_91 ?_
        refine z_iadd (pc := 92) C dX4_pairsInside_92 ?_
        refine z_callVp (pc := 93) (rest := [ziv r_65]) C (C_X4_pairsOfOperand E σ hR hI N ih r_5 g_5 r_76 g_76 r_85 g_85 x hx (d + 1) (by (try unfold zRg at *); (try simp only [IX] at *); omega) (by omega)) vX4_81 (by omega) sh29 rfl rfl rfl (Nat.le_of_ble_eq_true rfl) dX4_pairsInside_93 (fun r_93 g_93 hp_93 => ?_)
        refine z_iadd (pc := 96) C dX4_pairsInside_96 ?_
        refine z_norm ?_
        refine hret 97 _ _ _ dX4_pairsInside_97 (zw_rg _) hR ?_
        have e1 : (40 - (d + 1)).toNat = (40 - d).toNat - 1 := by omega
        rw [e1] at hp_65 hp_93
        exact ⟨by rw [xpin_go (by rw [← hp_5]; assumption) (by omega) (by rw [← hp_5]; assumption), hp_65, hp_93, hp_48, hp_58, hp_76, hp_85, hp_5], rfl⟩
      · have c_33 := zb0 hp_30 c_33
        refine z_sipush (pc := 36) C dX4_pairsInside_36 (by decide) ?_
        refine hret 39 _ _ _ dX4_pairsInside_39 (zRgL rfl) hR ?_
        exact ⟨(xpin_far (by rw [← hp_5]; assumption) (by first | (left; omega) | (right; rw [← hp_5]; assumption))).symm, rfl⟩
  · refine z_iconst (pc := 16) C dX4_pairsInside_16 ?_
    refine hret 17 _ _ _ dX4_pairsInside_17 (zRgL rfl) hR ?_
    exact ⟨(xpin_leaf (by rw [← hp_5]; assumption)).symm, rfl⟩
set_option maxRecDepth 20000 in
theorem C_X4_markNeeded (E : ZE) (σ : ZSt) (hR : zRs σ) (a : Int) (ha : zRg a) (hI : IX σ) (ha0 : 0 ≤ a) : ZMv E 2 yX4_markNeeded cX4_markNeeded 3 [zrf E 29, ziv a] σ (fun σ' => σ' = xmarkN σ a) := by
  refine ZMv.intro (by decide) rfl (Nat.le_of_ble_eq_true rfl) (fun Γ C hN hret => ?_)
  show ZG E Γ 0 [some (zrf E 29), some (ziv a), none] [] σ
  refine z_aload_nZ (pc := 0) C dX4_markNeeded_0 rfl rfl ?_
  refine z_iload_n (pc := 1) C dX4_markNeeded_1 rfl rfl ?_
  refine z_callVv (pc := 2) (rest := []) C (C_X4_mark E σ hR a ha hI) vX4_47 (by decide) sh29 rfl rfl rfl (Nat.le_of_ble_eq_true rfl) dX4_markNeeded_2 (fun σ_2 hR_2 hp_2 => ?_)
  refine z_iload_n (pc := 5) C dX4_markNeeded_5 rfl rfl ?_
  refine z_bipush (pc := 6) C dX4_markNeeded_6 (by decide) ?_
  refine z_min (pc := 8) C vX4_50 ha (zRgL rfl) (by decide) (Nat.le_of_ble_eq_true rfl) dX4_markNeeded_8 ?_
  refine z_istore_n (pc := 11) (lv' := [some (zrf E 29), some (ziv a), some (ziv (min a 99))]) C hN dX4_markNeeded_11 rfl (by decide) rfl ?_
  have L12 : ∀ (n : Nat) (i : Int) (τ : ZSt), zRg i → -1 ≤ i ∧ i ≤ 99 → xmarkN σ a = xmarks (i + 1).toNat τ → zRs τ → IX τ → (i + 1).toNat < n → ZG E Γ 12 [some (zrf E 29), some (ziv a), some (ziv i)] [] τ := by
    intro n
    induction n with
    | zero => intro i τ hi h0 ht hRt hIt hm; exact absurd hm (by omega)
    | succ n ih =>
      intro i τ hi h0 ht hRt hIt hm
      refine z_iload_n (pc := 12) C dX4_markNeeded_12 rfl rfl ?_
      refine z_if_lt (pc := 13) C 56 hi dX4_markNeeded_13 rfl (fun c_13 => ?_) (fun c_13 => ?_)
      · refine hret 56 _ _ dX4_markNeeded_56 hRt ?_
        rw [ht, show (i + 1).toNat = 0 by omega]; rfl
      · refine z_aload_nZ (pc := 16) C dX4_markNeeded_16 rfl rfl ?_
        refine z_getR (pc := 17) C fX4_9 sh29 rfl dX4_markNeeded_17 ?_
        refine z_iload_n (pc := 20) C dX4_markNeeded_20 rfl rfl ?_
        refine z_iald (pc := 21) C sh30 (by (try unfold zRg at *); (try simp only [IX] at *); omega) (by (try unfold zRg at *); (try simp only [IX] at *); omega) dX4_markNeeded_21 ?_
        refine z_iconst (pc := 22) C dX4_markNeeded_22 ?_
        refine z_icmp_ne (pc := 23) C 50 (hRt 30 _) (zRgL rfl) dX4_markNeeded_23 rfl (fun c_23 => ?_) (fun c_23 => ?_)
        · refine z_iinc (pc := 50) (lv' := [some (zrf E 29), some (ziv a), some (ziv (i + (-1)))]) C hN dX4_markNeeded_50 (by decide) rfl rfl ?_
          refine z_goto (pc := 53) C 12 dX4_markNeeded_53 rfl ?_
          have e7 : (i + 1).toNat = i.toNat + 1 := by omega
          have e6 : (i + -1 + 1).toNat = i.toNat := by omega
          have e5 : ((i.toNat : Nat) : Int) = i := by omega
          first
          | exact ih _ _ (by (try unfold zRg at *); (try simp only [IX] at *); omega) (by omega) (by rw [ht, e7, e6]; show xmarks i.toNat (zif _ _ _) = _; rw [zif_pos (by assumption), e5, hp_47, hp_35, hp_44, hp_32, hp_35]; unfold xnaft; rw [xmark_row (by decide), xmark_row (by decide)]) hR_47 (by rw [hp_47, hp_35]; exact hIt.xmark.xmark) (by omega)
          | exact ih _ _ (by (try unfold zRg at *); (try simp only [IX] at *); omega) (by omega) (by rw [ht, e7, e6]; show xmarks i.toNat (zif _ _ _) = _; rw [zif_neg (by assumption)]) hRt hIt (by omega)
        · refine z_aload_nZ (pc := 26) C dX4_markNeeded_26 rfl rfl ?_
          refine z_aload_nZ (pc := 27) C dX4_markNeeded_27 rfl rfl ?_
          refine z_getR (pc := 28) C fX4_19 sh29 rfl dX4_markNeeded_28 ?_
          refine z_iload_n (pc := 31) C dX4_markNeeded_31 rfl rfl ?_
          refine z_callVp (pc := 32) (rest := [zrf E 29]) C (C_X0_beforeAt E τ hRt 7 (Or.inl rfl) i hi hIt) vX4_56 (by decide) sh7 rfl rfl rfl (Nat.le_of_ble_eq_true rfl) dX4_markNeeded_32 (fun r_32 g_32 hp_32 => ?_)
          refine z_callVv (pc := 35) (rest := []) C (C_X4_mark E τ hRt r_32 g_32 hIt) vX4_47 (by decide) sh29 rfl rfl rfl (Nat.le_of_ble_eq_true rfl) dX4_markNeeded_35 (fun σ_35 hR_35 hp_35 => ?_)
          have hI_35 : IX σ_35 := by rw [hp_35]; exact hIt.xmark
          refine z_aload_nZ (pc := 38) C dX4_markNeeded_38 rfl rfl ?_
          refine z_aload_nZ (pc := 39) C dX4_markNeeded_39 rfl rfl ?_
          refine z_getR (pc := 40) C fX4_19 sh29 rfl dX4_markNeeded_40 ?_
          refine z_iload_n (pc := 43) C dX4_markNeeded_43 rfl rfl ?_
          refine z_callVp (pc := 44) (rest := [zrf E 29]) C (C_X0_afterAt E σ_35 hR_35 7 (Or.inl rfl) i hi hI_35) vX4_62 (by decide) sh7 rfl rfl rfl (Nat.le_of_ble_eq_true rfl) dX4_markNeeded_44 (fun r_44 g_44 hp_44 => ?_)
          refine z_callVv (pc := 47) (rest := []) C (C_X4_mark E σ_35 hR_35 r_44 g_44 hI_35) vX4_47 (by decide) sh29 rfl rfl rfl (Nat.le_of_ble_eq_true rfl) dX4_markNeeded_47 (fun σ_47 hR_47 hp_47 => ?_)
          refine z_iinc (pc := 50) (lv' := [some (zrf E 29), some (ziv a), some (ziv (i + (-1)))]) C hN dX4_markNeeded_50 (by decide) rfl rfl ?_
          refine z_goto (pc := 53) C 12 dX4_markNeeded_53 rfl ?_
          have e7 : (i + 1).toNat = i.toNat + 1 := by omega
          have e6 : (i + -1 + 1).toNat = i.toNat := by omega
          have e5 : ((i.toNat : Nat) : Int) = i := by omega
          first
          | exact ih _ _ (by (try unfold zRg at *); (try simp only [IX] at *); omega) (by omega) (by rw [ht, e7, e6]; show xmarks i.toNat (zif _ _ _) = _; rw [zif_pos (by assumption), e5, hp_47, hp_35, hp_44, hp_32, hp_35]; unfold xnaft; rw [xmark_row (by decide), xmark_row (by decide)]) hR_47 (by rw [hp_47, hp_35]; exact hIt.xmark.xmark) (by omega)
          | exact ih _ _ (by (try unfold zRg at *); (try simp only [IX] at *); omega) (by omega) (by rw [ht, e7, e6]; show xmarks i.toNat (zif _ _ _) = _; rw [zif_neg (by assumption)]) hRt hIt (by omega)
  exact L12 _ (min a 99) σ_2 (by unfold zRg at *; omega) (by omega) (by rw [hp_2]; rfl) hR_2 (by rw [hp_2]; exact hI.xmark) (Nat.lt_succ_self _)
set_option maxRecDepth 20000 in
theorem C_X4_countNeeded (E : ZE) (σ : ZSt) (hR : zRs σ) (a : Int) (ha : zRg a) (hI : IX σ) (ha0 : 0 ≤ a) : ZMv E 127 yX4_countNeeded cX4_countNeeded 3 [zrf E 29, ziv a] σ (fun σ' => σ' = xcnt σ (min (a + 1) 100).toNat) := by
  refine ZMv.intro (by decide) rfl (Nat.le_of_ble_eq_true rfl) (fun Γ C hN hret => ?_)
  show ZG E Γ 0 [some (zrf E 29), some (ziv a), none] [] σ
  refine z_iconst (pc := 0) C dX4_countNeeded_0 ?_
  refine z_istore_n (pc := 1) (lv' := [some (zrf E 29), some (ziv a), some (ziv 0)]) C hN dX4_countNeeded_1 rfl (by decide) rfl ?_
  have L2 : ∀ (n : Nat) (i : Int) (τ : ZSt), zRg i → 0 ≤ i ∧ i ≤ 100 ∧ i ≤ a + 1 → τ = xcnt σ i.toNat → zRs τ → IX τ → (100 - i).toNat < n → ZG E Γ 2 [some (zrf E 29), some (ziv a), some (ziv i)] [] τ := by
    intro n
    induction n with
    | zero => intro i τ hi h0 ht hRt hIt hm; exact absurd hm (by omega)
    | succ n ih =>
      intro i τ hi h0 ht hRt hIt hm
      refine z_iload_n (pc := 2) C dX4_countNeeded_2 rfl rfl ?_
      refine z_iload_n (pc := 3) C dX4_countNeeded_3 rfl rfl ?_
      refine z_icmp_gt (pc := 4) C 43 hi ha dX4_countNeeded_4 rfl (fun c_4 => ?_) (fun c_4 => ?_)
      · refine hret 43 _ _ dX4_countNeeded_43 hRt ?_
        rw [ht]; congr 1; omega
      · refine z_iload_n (pc := 7) C dX4_countNeeded_7 rfl rfl ?_
        refine z_bipush (pc := 8) C dX4_countNeeded_8 (by decide) ?_
        refine z_icmp_ge (pc := 10) C 43 hi (zRgL rfl) dX4_countNeeded_10 rfl (fun c_10 => ?_) (fun c_10 => ?_)
        · refine hret 43 _ _ dX4_countNeeded_43 hRt ?_
          rw [ht]; congr 1; omega
        · refine z_aload_nZ (pc := 13) C dX4_countNeeded_13 rfl rfl ?_
          refine z_getR (pc := 14) C fX4_9 sh29 rfl dX4_countNeeded_14 ?_
          refine z_iload_n (pc := 17) C dX4_countNeeded_17 rfl rfl ?_
          refine z_iald (pc := 18) C sh30 (by (try unfold zRg at *); (try simp only [IX] at *); omega) (by (try unfold zRg at *); (try simp only [IX] at *); omega) dX4_countNeeded_18 ?_
          refine z_iconst (pc := 19) C dX4_countNeeded_19 ?_
          refine z_icmp_ne (pc := 20) C 37 (hRt 30 _) (zRgL rfl) dX4_countNeeded_20 rfl (fun c_20 => ?_) (fun c_20 => ?_)
          · refine z_iinc (pc := 37) (lv' := [some (zrf E 29), some (ziv a), some (ziv (i + 1))]) C hN dX4_countNeeded_37 (by decide) rfl rfl ?_
            refine z_goto (pc := 40) C 2 dX4_countNeeded_40 rfl ?_
            have e7 : (i + 1).toNat = i.toNat + 1 := by omega
            have e5 : ((i.toNat : Nat) : Int) = i := by omega
            first
            | exact ih _ _ (by (try unfold zRg at *); (try simp only [IX] at *); omega) (by omega) (by rw [e_36, hp_33, e7]; show _ = zif _ _ _; rw [← ht, zif_pos (by assumption), e5]; rfl) hR_36 (by rw [e_36]; exact hIt.upA rfl) (by omega)
            | exact ih _ _ (by (try unfold zRg at *); (try simp only [IX] at *); omega) (by omega) (by rw [e7]; show _ = zif _ _ _; rw [← ht, zif_neg (by assumption)]) hRt hIt (by omega)
          · refine z_aload_nZ (pc := 23) C dX4_countNeeded_23 rfl rfl ?_
            refine z_getR (pc := 24) C fX4_9 sh29 rfl dX4_countNeeded_24 ?_
            refine z_iload_n (pc := 27) C dX4_countNeeded_27 rfl rfl ?_
            refine z_aload_nZ (pc := 28) C dX4_countNeeded_28 rfl rfl ?_
            refine z_iload_n (pc := 29) C dX4_countNeeded_29 rfl rfl ?_
            refine z_iconst (pc := 30) C dX4_countNeeded_30 ?_
            refine z_iconst (pc := 31) C dX4_countNeeded_31 ?_
            refine z_iconst (pc := 32) C dX4_countNeeded_32 ?_
            refine z_callVp (pc := 33) (rest := [ziv i, zrf E 30]) C (C_X4_pairsInside E τ hRt hIt 41 i hi 0 (zRgL rfl) 0 (zRgL rfl) 0 (zRgL rfl) (by decide)) vX4_65 (by decide) sh29 rfl rfl rfl (Nat.le_of_ble_eq_true rfl) dX4_countNeeded_33 (fun r_33 g_33 hp_33 => ?_)
            refine z_iast (pc := 36) C hRt sh30 (by (try unfold zRg at *); (try simp only [IX] at *); omega) (by (try unfold zRg at *); (try simp only [IX] at *); omega) g_33 dX4_countNeeded_36 (fun σ_36 e_36 hR_36 => ?_)
            have hI_36 : IX σ_36 := by rw [e_36]; exact hIt.upA rfl
            refine z_iinc (pc := 37) (lv' := [some (zrf E 29), some (ziv a), some (ziv (i + 1))]) C hN dX4_countNeeded_37 (by decide) rfl rfl ?_
            refine z_goto (pc := 40) C 2 dX4_countNeeded_40 rfl ?_
            have e7 : (i + 1).toNat = i.toNat + 1 := by omega
            have e5 : ((i.toNat : Nat) : Int) = i := by omega
            first
            | exact ih _ _ (by (try unfold zRg at *); (try simp only [IX] at *); omega) (by omega) (by rw [e_36, hp_33, e7]; show _ = zif _ _ _; rw [← ht, zif_pos (by assumption), e5]; rfl) hR_36 (by rw [e_36]; exact hIt.upA rfl) (by omega)
            | exact ih _ _ (by (try unfold zRg at *); (try simp only [IX] at *); omega) (by omega) (by rw [e7]; show _ = zif _ _ _; rw [← ht, zif_neg (by assumption)]) hRt hIt (by omega)
  exact L2 _ 0 σ (zRgL rfl) (by omega) rfl hR hI (Nat.lt_succ_self _)
