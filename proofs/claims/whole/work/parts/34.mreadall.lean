set_option maxRecDepth 20000 in
theorem C_X6_readAll (E : ZE) (σ : ZSt) (hR : zRs σ) (τ0 : ZSt) (hI : IM σ) (h0 : Rd0 τ0 σ) : ZMi E 4 yX6_readAll cX6_readAll 2 (some .boolean) [zrf E 31] σ (fun r σ' => r = zb (xreadOk (xreads τ0)) ∧ SameM σ σ' ∧ RDone τ0 σ') := by
  refine ZMi.introZ (by decide) rfl (Nat.le_of_ble_eq_true rfl) (fun Γ C hN hret => ?_)
  show ZG E Γ 0 [some (zrf E 31), none] [] σ
  refine z_aload_nZ (pc := 0) C dX6_readAll_0 rfl rfl ?_
  refine z_iconst (pc := 1) C dX6_readAll_1 ?_
  refine z_putI (pc := 2) C hR fX6_175 sh31 rfl (zRgL rfl) dX6_readAll_2 (fun σ_2 e_2 hR_2 => ?_)
  have hI_2 : IM σ_2 := by rw [e_2]; exact hI.upF rfl
  refine z_aload_nZ (pc := 5) C dX6_readAll_5 rfl rfl ?_
  refine z_iconst (pc := 6) C dX6_readAll_6 ?_
  refine z_putI (pc := 7) C hR_2 fX6_184 sh31 rfl (zRgL rfl) dX6_readAll_7 (fun σ_7 e_7 hR_7 => ?_)
  have hI_7 : IM σ_7 := by rw [e_7]; exact hI_2.upF rfl
  refine z_aload_nZ (pc := 10) C dX6_readAll_10 rfl rfl ?_
  refine z_iconst (pc := 11) C dX6_readAll_11 ?_
  refine z_putI (pc := 12) C hR_7 fX6_187 sh31 rfl (zRgL rfl) dX6_readAll_12 (fun σ_12 e_12 hR_12 => ?_)
  have hI_12 : IM σ_12 := by rw [e_12]; exact hI_7.upF rfl
  refine z_aload_nZ (pc := 15) C dX6_readAll_15 rfl rfl ?_
  refine z_iconst (pc := 16) C dX6_readAll_16 ?_
  refine z_putI (pc := 17) C hR_12 fX6_190 sh31 rfl (zRgL rfl) dX6_readAll_17 (fun σ_17 e_17 hR_17 => ?_)
  have hI_17 : IM σ_17 := by rw [e_17]; exact hI_12.upF rfl
  refine z_aload_nZ (pc := 20) C dX6_readAll_20 rfl rfl ?_
  refine z_bipush (pc := 21) C dX6_readAll_21 (by decide) ?_
  refine z_putI (pc := 23) C hR_17 fX6_203 sh31 rfl (zRgL rfl) dX6_readAll_23 (fun σ_23 e_23 hR_23 => ?_)
  have hI_23 : IM σ_23 := by rw [e_23]; exact hI_17.upF rfl
  refine z_aload_nZ (pc := 26) C dX6_readAll_26 rfl rfl ?_
  refine z_iconst (pc := 27) C dX6_readAll_27 ?_
  refine z_putZ (pc := 28) C hR_23 fX6_206 sh31 rfl (Or.inl rfl) dX6_readAll_28 (fun σ_28 e_28 hR_28 => ?_)
  have hI_28 : IM σ_28 := by rw [e_28]; exact hI_23.upF rfl
  refine z_aload_nZ (pc := 31) C dX6_readAll_31 rfl rfl ?_
  refine z_iconst (pc := 32) C dX6_readAll_32 ?_
  refine z_putZ (pc := 33) C hR_28 fX6_193 sh31 rfl (Or.inr rfl) dX6_readAll_33 (fun σ_33 e_33 hR_33 => ?_)
  have hI_33 : IM σ_33 := by rw [e_33]; exact hI_28.upF rfl
  refine z_aload_nZ (pc := 36) C dX6_readAll_36 rfl rfl ?_
  refine z_bipush (pc := 37) C dX6_readAll_37 (by decide) ?_
  refine z_putI (pc := 39) C hR_33 fX6_178 sh31 rfl (zRgL rfl) dX6_readAll_39 (fun σ_39 e_39 hR_39 => ?_)
  have hI_39 : IM σ_39 := by rw [e_39]; exact hI_33.upF rfl
  refine z_aload_nZ (pc := 42) C dX6_readAll_42 rfl rfl ?_
  refine z_bipush (pc := 43) C dX6_readAll_43 (by decide) ?_
  refine z_putI (pc := 45) C hR_39 fX6_181 sh31 rfl (zRgL rfl) dX6_readAll_45 (fun σ_45 e_45 hR_45 => ?_)
  have hI_45 : IM σ_45 := by rw [e_45]; exact hI_39.upF rfl
  refine z_iconst (pc := 48) C dX6_readAll_48 ?_
  refine z_istore_n (pc := 49) (lv' := [some (zrf E 31), some (ziv 0)]) C hN dX6_readAll_49 rfl (by decide) rfl ?_
  have L50 : ∀ (n : Nat) (m : Nat) (t : Int) (ρ : ZSt), t = 0 ∨ t = 1 → zRs ρ → IM ρ → RJ τ0 σ m t ρ → m < n → ZG E Γ 50 [some (zrf E 31), some (ziv t)] [] ρ := by
    intro n
    induction n with
    | zero => intro m t ρ ht hRr hIr hj hm; exact absurd hm (by omega)
    | succ n ih =>
      intro m t ρ ht hRr hIr hj hm
      refine z_iload_n (pc := 50) C dX6_readAll_50 rfl rfl ?_
      refine z_if_ne (pc := 51) C 83 (zRg01 ht) dX6_readAll_51 rfl (fun c_51 => ?_) (fun c_51 => ?_)
      · refine z_aload_nZ (pc := 83) C dX6_readAll_83 rfl rfl ?_
        refine z_getI (pc := 84) C fX6_178 sh31 rfl dX6_readAll_84 ?_
        refine z_if_ge (pc := 87) C 94 (hRr 31 _) dX6_readAll_87 rfl (fun c_87 => ?_) (fun c_87 => ?_)
        · refine z_iconst (pc := 94) C dX6_readAll_94 ?_
          refine hret 95 _ _ _ dX6_readAll_95 (Or.inl rfl) hRr ?_
          obtain ⟨sm, hd⟩ := hj
          rcases hd with ⟨d1, d2, d3⟩ | ⟨d1, τr, dr⟩
          · refine ⟨?_, sm, d1⟩
            rcases d1 with ⟨k1, k2, k3⟩ | ⟨k1, k2, k3⟩
            · first | exact zb_one k1 | (exfalso; omega)
            · first | exact zb_zero k1 | (exfalso; omega)
          · exfalso; have d9 := dr.2.2.1; omega
        · refine z_iconst (pc := 90) C dX6_readAll_90 ?_
          refine z_goto (pc := 91) C 95 dX6_readAll_91 rfl ?_
          refine hret 95 _ _ _ dX6_readAll_95 (Or.inr rfl) hRr ?_
          obtain ⟨sm, hd⟩ := hj
          rcases hd with ⟨d1, d2, d3⟩ | ⟨d1, τr, dr⟩
          · refine ⟨?_, sm, d1⟩
            rcases d1 with ⟨k1, k2, k3⟩ | ⟨k1, k2, k3⟩
            · first | exact zb_one k1 | (exfalso; omega)
            · first | exact zb_zero k1 | (exfalso; omega)
          · exfalso; have d9 := dr.2.2.1; omega
      · refine z_aload_nZ (pc := 54) C dX6_readAll_54 rfl rfl ?_
        refine z_getI (pc := 55) C fX6_178 sh31 rfl dX6_readAll_55 ?_
        refine z_if_ge (pc := 58) C 83 (hRr 31 _) dX6_readAll_58 rfl (fun c_58 => ?_) (fun c_58 => ?_)
        · refine z_aload_nZ (pc := 83) C dX6_readAll_83 rfl rfl ?_
          refine z_getI (pc := 84) C fX6_178 sh31 rfl dX6_readAll_84 ?_
          refine z_if_ge (pc := 87) C 94 (hRr 31 _) dX6_readAll_87 rfl (fun c_87 => ?_) (fun c_87 => ?_)
          · refine z_iconst (pc := 94) C dX6_readAll_94 ?_
            refine hret 95 _ _ _ dX6_readAll_95 (Or.inl rfl) hRr ?_
            obtain ⟨sm, hd⟩ := hj
            rcases hd with ⟨d1, d2, d3⟩ | ⟨d1, τr, dr⟩
            · refine ⟨?_, sm, d1⟩
              rcases d1 with ⟨k1, k2, k3⟩ | ⟨k1, k2, k3⟩
              · first | exact zb_one k1 | (exfalso; omega)
              · first | exact zb_zero k1 | (exfalso; omega)
            · exfalso; have d9 := dr.2.2.1; omega
          · refine z_iconst (pc := 90) C dX6_readAll_90 ?_
            refine z_goto (pc := 91) C 95 dX6_readAll_91 rfl ?_
            refine hret 95 _ _ _ dX6_readAll_95 (Or.inr rfl) hRr ?_
            obtain ⟨sm, hd⟩ := hj
            rcases hd with ⟨d1, d2, d3⟩ | ⟨d1, τr, dr⟩
            · refine ⟨?_, sm, d1⟩
              rcases d1 with ⟨k1, k2, k3⟩ | ⟨k1, k2, k3⟩
              · first | exact zb_one k1 | (exfalso; omega)
              · first | exact zb_zero k1 | (exfalso; omega)
            · exfalso; have d9 := dr.2.2.1; omega
        · obtain ⟨τr, hrr⟩ := rj_run hj c_51 c_58
          refine z_aload_nZ (pc := 61) C dX6_readAll_61 rfl rfl ?_
          refine z_getI (pc := 62) C fX6_193 sh31 rfl dX6_readAll_62 ?_
          refine z_if_eq (pc := 65) C 75 (hRr 31 _) dX6_readAll_65 rfl (fun c_65 => ?_) (fun c_65 => ?_)
          · refine z_aload_nZ (pc := 75) C dX6_readAll_75 rfl rfl ?_
            refine z_callVi (pc := 76) (rest := []) C (C_X6_goOn E ρ hRr hIr (rrun_rm hrr) (rrun_rl h0 hrr (by assumption)) (rrun_fo h0 hrr)) vX6_231 (by decide) sh31 rfl rfl rfl (Nat.le_of_ble_eq_true rfl) dX6_readAll_76 (fun r_76 σ_76 g_76 hR_76 hp_76 => ?_)
            refine z_istore_n (pc := 79) (lv' := [some (zrf E 31), some (ziv r_76)]) C hN dX6_readAll_79 rfl (by decide) rfl ?_
            refine z_goto (pc := 80) C 50 dX6_readAll_80 rfl ?_
            first
            | (obtain ⟨j1, j2⟩ := rj_opd h0 hj c_51 c_58 (by assumption); exact ih (m - 1) t σ_69 ht hR_69 (by rw [hp_69]; exact hIr.same (mrdop_same ρ)) (by rw [hp_69]; exact j1) (by omega))
            | (obtain ⟨j1, j2, j3⟩ := rj_opr h0 hj c_51 c_58 (by assumption); exact ih (m - 1) r_76 σ_76 (by rw [hp_76.1]; exact j3) hR_76 (by rw [hp_76.2]; exact hIr.same (mgo_same ρ)) (by rw [hp_76.1, hp_76.2]; exact j1) (by omega))
          · refine z_aload_nZ (pc := 68) C dX6_readAll_68 rfl rfl ?_
            refine z_callVv (pc := 69) (rest := []) C (C_X6_readOperand E ρ hRr hIr (rrun_rm hrr)) vX6_228 (by decide) sh31 rfl rfl rfl (Nat.le_of_ble_eq_true rfl) dX6_readAll_69 (fun σ_69 hR_69 hp_69 => ?_)
            refine z_goto (pc := 72) C 50 dX6_readAll_72 rfl ?_
            first
            | (obtain ⟨j1, j2⟩ := rj_opd h0 hj c_51 c_58 (by assumption); exact ih (m - 1) t σ_69 ht hR_69 (by rw [hp_69]; exact hIr.same (mrdop_same ρ)) (by rw [hp_69]; exact j1) (by omega))
            | (obtain ⟨j1, j2, j3⟩ := rj_opr h0 hj c_51 c_58 (by assumption); exact ih (m - 1) r_76 σ_76 (by rw [hp_76.1]; exact j3) hR_76 (by rw [hp_76.2]; exact hIr.same (mgo_same ρ)) (by rw [hp_76.1, hp_76.2]; exact j1) (by omega))
  have e9 : σ_45 = mstart σ := by subst_vars; rfl
  exact L50 _ 242 0 σ_45 (Or.inl rfl) hR_45 hI_45 (by rw [e9]; exact rj_start h0) (Nat.lt_succ_self _)
