/-! ===== writing: emptying the output and the marks commute ===== -/
theorem zup_comm {σ : ZSt} {k j k2 j2 : Nat} {v v2 : Int} (h : k ≠ k2) : zup (zup σ k j v) k2 j2 v2 = zup (zup σ k2 j2 v2) k j v := by
  funext a b
  by_cases h1 : a = k2
  · rw [h1, zup_row (Ne.symm h)]
    unfold zup
    simp [Ne.symm h]
  · rw [zup_row h1]
    unfold zup
    simp [h1]
theorem zAl_empty (σ : ZSt) : zAl σ (zup σ 21 1 0) := fun _ h => zup_row h.1
theorem xmark_empty (σ : ZSt) (a : Int) : xmark (zup σ 21 1 0) a = zup (xmark σ a) 21 1 0 := by
  unfold xmark
  by_cases hc : 0 ≤ a ∧ a < 100
  · rw [zif_pos hc, zif_pos hc, zup_comm (by decide)]
  · rw [zif_neg hc, zif_neg hc]
theorem xmarks_empty : ∀ (n : Nat) (τ : ZSt), xmarks n (zup τ 21 1 0) = zup (xmarks n τ) 21 1 0 := by
  intro n
  induction n with
  | zero => intro τ; rfl
  | succ n ih =>
    intro τ
    show xmarks n (zif _ _ _) = zup (xmarks n (zif _ _ _)) 21 1 0
    rw [(zAl_empty τ).nbef, (zAl_empty τ).naft, zup_row (by decide), xmark_empty, xmark_empty]
    by_cases hc : τ 30 n = -1
    · rw [zif_pos hc, zif_pos hc, ih]
    · rw [zif_neg hc, zif_neg hc, ih]
theorem xcnt_empty (σ : ZSt) : ∀ n : Nat, xcnt (zup σ 21 1 0) n = zup (xcnt σ n) 21 1 0 := by
  intro n
  induction n with
  | zero => rfl
  | succ n ih =>
    show zif _ _ _ = zup (zif _ _ _) 21 1 0
    rw [ih, zup_row (by decide), (zAl_empty (xcnt σ n)).pin]
    by_cases hc : xcnt σ n 30 n = -1
    · rw [zif_pos hc, zif_pos hc, zup_comm (by decide)]
    · rw [zif_neg hc, zif_neg hc]
theorem xprep_empty (σ : ZSt) (a z : Int) : xprep (zup σ 21 1 0) a z = zup (xprep σ a z) 21 1 0 := by
  unfold xprep xmarkN
  rw [zup_comm (by decide)]
  by_cases hc : z = 0
  · rw [zif_pos hc, zif_pos hc, xmark_empty, xmarks_empty, xcnt_empty]
  · rw [zif_neg hc, zif_neg hc]
/-- what writeAll leaves behind -/
noncomputable def xall (σ : ZSt) (a z : Int) : ZSt := xputs (zup (xprep σ a z) 21 1 0) (xtext (zup (xprep σ a z) 21 1 0) 40 a 0 0)
theorem xall_eq (σ : ZSt) (a z : Int) : xall σ a z = xputs (xprep (zup σ 21 1 0) a z) (xtext (xprep (zup σ 21 1 0) a z) 40 a 0 0) := by
  rw [xprep_empty]
  rfl
theorem xall_IX {σ : ZSt} (h : IX σ) (a z : Int) : IX (xall σ a z) := by
  unfold xall
  exact IX.xputs _ (h.xprep.upTX (Or.inr (Or.inl rfl)) (by decide))
set_option maxRecDepth 20000 in
theorem C_X4_writeOperand (E : ZE) (σ : ZSt) (hR : zRs σ) (hI : IX σ) (N : Nat) (hK : K_wn E N) (o : Int) (ho : zRg o) (w : Int) (hw : zRg w) (m : Int) (hm : zRg m) (x : Int) (hx : zRg x) (d : Int) (hd : zRg d) (hd0 : 0 ≤ d) (hdN : (40 - d).toNat < N) : ZMv E (2 * N + 131) yX4_writeOperand cX4_writeOperand 7 [zrf E 29, ziv o, ziv w, ziv m, ziv x, ziv d] σ (fun σ' => σ' = xputs σ (xto σ (40 - d).toNat (xtext σ (40 - d).toNat) o w m x)) := by
  refine ZMv.intro (by decide) rfl (Nat.le_of_ble_eq_true rfl) (fun Γ C hN hret => ?_)
  show ZG E Γ 0 [some (zrf E 29), some (ziv o), some (ziv w), some (ziv m), some (ziv x), some (ziv d), none] [] σ
  refine z_iload_n (pc := 0) C dX4_writeOperand_0 rfl rfl ?_
  refine z_iconst (pc := 1) C dX4_writeOperand_1 ?_
  refine z_icmp_ne (pc := 2) C 6 hw (zRgL rfl) dX4_writeOperand_2 rfl (fun c_2 => ?_) (fun c_2 => ?_)
  · have L49 : ∀ (t : Int), t = zb (xnop σ 7 w ≠ -1 ∧ (σ 29 4 ≠ 0 ∨ xpb σ w < xpi σ (xpin σ (40 - d).toNat) o w m x)) → ZG E Γ 49 [some (zrf E 29), some (ziv o), some (ziv w), some (ziv m), some (ziv x), some (ziv d), none] [ziv t] σ := by
      intro t ht
      refine z_istore (pc := 49) (lv' := [some (zrf E 29), some (ziv o), some (ziv w), some (ziv m), some (ziv x), some (ziv d), some (ziv t)]) C hN dX4_writeOperand_49 (by decide) rfl ?_
      refine z_iload (pc := 51) C dX4_writeOperand_51 rfl ?_
      refine z_if_eq (pc := 53) C 88 (zRg01 (zb01 ht)) dX4_writeOperand_53 rfl (fun c_53 => ?_) (fun c_53 => ?_)
      · have c_53 := zb0 ht c_53
        refine z_aload_nZ (pc := 88) C dX4_writeOperand_88 rfl rfl ?_
        refine z_iload_n (pc := 89) C dX4_writeOperand_89 rfl rfl ?_
        refine z_iload_n (pc := 90) C dX4_writeOperand_90 rfl rfl ?_
        refine z_iload (pc := 91) C dX4_writeOperand_91 rfl ?_
        refine z_iload (pc := 93) C dX4_writeOperand_93 rfl ?_
        refine z_callVv (pc := 95) (rest := []) C (hK σ hR hI w hw m hm x hx d hd hd0 hdN) vX4_43 (by omega) sh29 rfl rfl rfl (Nat.le_of_ble_eq_true rfl) dX4_writeOperand_95 (fun σ_95 hR_95 hp_95 => ?_)
        refine hret 98 _ _ dX4_writeOperand_98 hR_95 ?_
        unfold xto
        rw [zif_neg (by assumption)]
        first
        | (have a1 : zAl σ σ_62 := (by rw [hp_62.2]; exact fun c hc => xput_row hc); rw [zif_pos (by assumption), xputs_app, xputs_app]; rw [a1.text] at hp_72; rw [hp_81.2, hp_72, hp_62.2]; rfl)
        | (rw [zif_neg (by assumption)]; assumption)
      · have c_53 := zb1 ht c_53
        refine z_aload_nZ (pc := 56) C dX4_writeOperand_56 rfl rfl ?_
        refine z_getR (pc := 57) C fX4_23 sh29 rfl dX4_writeOperand_57 ?_
        refine z_bipush (pc := 60) C dX4_writeOperand_60 (by decide) ?_
        refine z_callVi (pc := 62) (rest := []) C (C_X3_put E σ hR 21 (Or.inr (Or.inl rfl)) 40 (zRgL rfl) hI) vX4_107 (by omega) sh21 rfl rfl rfl (Nat.le_of_ble_eq_true rfl) dX4_writeOperand_62 (fun r_62 σ_62 g_62 hR_62 hp_62 => ?_)
        have hI_62 : IX σ_62 := by rw [hp_62.2]; exact hI.xput (Or.inr (Or.inl rfl))
        refine z_pop (pc := 65) C dX4_writeOperand_65 rfl ?_
        refine z_aload_nZ (pc := 66) C dX4_writeOperand_66 rfl rfl ?_
        refine z_iload_n (pc := 67) C dX4_writeOperand_67 rfl rfl ?_
        refine z_iconst (pc := 68) C dX4_writeOperand_68 ?_
        refine z_iconst (pc := 69) C dX4_writeOperand_69 ?_
        refine z_iload (pc := 70) C dX4_writeOperand_70 rfl ?_
        refine z_callVv (pc := 72) (rest := []) C (hK σ_62 hR_62 hI_62 w hw 0 (zRgL rfl) 0 (zRgL rfl) d hd hd0 hdN) vX4_43 (by omega) sh29 rfl rfl rfl (Nat.le_of_ble_eq_true rfl) dX4_writeOperand_72 (fun σ_72 hR_72 hp_72 => ?_)
        have hI_72 : IX σ_72 := by rw [hp_72]; exact IX.xputs _ hI_62
        refine z_aload_nZ (pc := 75) C dX4_writeOperand_75 rfl rfl ?_
        refine z_getR (pc := 76) C fX4_23 sh29 rfl dX4_writeOperand_76 ?_
        refine z_bipush (pc := 79) C dX4_writeOperand_79 (by decide) ?_
        refine z_callVi (pc := 81) (rest := []) C (C_X3_put E σ_72 hR_72 21 (Or.inr (Or.inl rfl)) 41 (zRgL rfl) hI_72) vX4_107 (by omega) sh21 rfl rfl rfl (Nat.le_of_ble_eq_true rfl) dX4_writeOperand_81 (fun r_81 σ_81 g_81 hR_81 hp_81 => ?_)
        refine z_pop (pc := 84) C dX4_writeOperand_84 rfl ?_
        refine z_goto (pc := 85) C 98 dX4_writeOperand_85 rfl ?_
        refine hret 98 _ _ dX4_writeOperand_98 hR_81 ?_
        unfold xto
        rw [zif_neg (by assumption)]
        first
        | (have a1 : zAl σ σ_62 := (by rw [hp_62.2]; exact fun c hc => xput_row hc); rw [zif_pos (by assumption), xputs_app, xputs_app]; rw [a1.text] at hp_72; rw [hp_81.2, hp_72, hp_62.2]; rfl)
        | (rw [zif_neg (by assumption)]; assumption)
    refine z_aload_nZ (pc := 6) C dX4_writeOperand_6 rfl rfl ?_
    refine z_getR (pc := 7) C fX4_19 sh29 rfl dX4_writeOperand_7 ?_
    refine z_iload_n (pc := 10) C dX4_writeOperand_10 rfl rfl ?_
    refine z_callVp (pc := 11) (rest := []) C (C_X0_operatorAt E σ hR 7 (Or.inl rfl) w hw hI) vX4_69 (by omega) sh7 rfl rfl rfl (Nat.le_of_ble_eq_true rfl) dX4_writeOperand_11 (fun r_11 g_11 hp_11 => ?_)
    refine z_iconst (pc := 14) C dX4_writeOperand_14 ?_
    refine z_icmp_eq (pc := 15) C 48 g_11 (zRgL rfl) dX4_writeOperand_15 rfl (fun c_15 => ?_) (fun c_15 => ?_)
    · refine z_iconst (pc := 48) C dX4_writeOperand_48 ?_
      exact L49 _ (by first | exact zb_one ⟨by rw [← hp_11]; assumption, by first | (left; assumption) | (right; rw [← hp_33, ← hp_38]; assumption)⟩ | exact zb_zero (fun q => by rw [← hp_11] at q; first | exact absurd (by assumption) q.1 | (rcases q.2 with q2 | q2 <;> first | exact absurd (by assumption) q2 | (rw [← hp_33, ← hp_38] at q2; omega))))
    · refine z_aload_nZ (pc := 18) C dX4_writeOperand_18 rfl rfl ?_
      refine z_getI (pc := 19) C fX4_27 sh29 rfl dX4_writeOperand_19 ?_
      refine z_if_ne (pc := 22) C 44 (hR 29 _) dX4_writeOperand_22 rfl (fun c_22 => ?_) (fun c_22 => ?_)
      · refine z_iconst (pc := 44) C dX4_writeOperand_44 ?_
        refine z_goto (pc := 45) C 49 dX4_writeOperand_45 rfl ?_
        exact L49 _ (by first | exact zb_one ⟨by rw [← hp_11]; assumption, by first | (left; assumption) | (right; rw [← hp_33, ← hp_38]; assumption)⟩ | exact zb_zero (fun q => by rw [← hp_11] at q; first | exact absurd (by assumption) q.1 | (rcases q.2 with q2 | q2 <;> first | exact absurd (by assumption) q2 | (rw [← hp_33, ← hp_38] at q2; omega))))
      · refine z_aload_nZ (pc := 25) C dX4_writeOperand_25 rfl rfl ?_
        refine z_iload_n (pc := 26) C dX4_writeOperand_26 rfl rfl ?_
        refine z_iload_n (pc := 27) C dX4_writeOperand_27 rfl rfl ?_
        refine z_iload_n (pc := 28) C dX4_writeOperand_28 rfl rfl ?_
        refine z_iload (pc := 29) C dX4_writeOperand_29 rfl ?_
        refine z_iload (pc := 31) C dX4_writeOperand_31 rfl ?_
        refine z_callVp (pc := 33) (rest := []) C (C_X4_pairsIfOpen E σ hR hI 41 (C_X4_pairsInside E σ hR hI 41) o ho w hw m hm x hx d hd (by omega)) vX4_91 (by omega) sh29 rfl rfl rfl (Nat.le_of_ble_eq_true rfl) dX4_writeOperand_33 (fun r_33 g_33 hp_33 => ?_)
        refine z_aload_nZ (pc := 36) C dX4_writeOperand_36 rfl rfl ?_
        refine z_iload_n (pc := 37) C dX4_writeOperand_37 rfl rfl ?_
        refine z_callVp (pc := 38) (rest := [ziv r_33]) C (C_X4_pairsIfBracketed E σ hR w hw hI) vX4_94 (by omega) sh29 rfl rfl rfl (Nat.le_of_ble_eq_true rfl) dX4_writeOperand_38 (fun r_38 g_38 hp_38 => ?_)
        refine z_icmp_le (pc := 41) C 48 g_33 g_38 dX4_writeOperand_41 rfl (fun c_41 => ?_) (fun c_41 => ?_)
        · refine z_iconst (pc := 48) C dX4_writeOperand_48 ?_
          exact L49 _ (by first | exact zb_one ⟨by rw [← hp_11]; assumption, by first | (left; assumption) | (right; rw [← hp_33, ← hp_38]; assumption)⟩ | exact zb_zero (fun q => by rw [← hp_11] at q; first | exact absurd (by assumption) q.1 | (rcases q.2 with q2 | q2 <;> first | exact absurd (by assumption) q2 | (rw [← hp_33, ← hp_38] at q2; omega))))
        · refine z_iconst (pc := 44) C dX4_writeOperand_44 ?_
          refine z_goto (pc := 45) C 49 dX4_writeOperand_45 rfl ?_
          exact L49 _ (by first | exact zb_one ⟨by rw [← hp_11]; assumption, by first | (left; assumption) | (right; rw [← hp_33, ← hp_38]; assumption)⟩ | exact zb_zero (fun q => by rw [← hp_11] at q; first | exact absurd (by assumption) q.1 | (rcases q.2 with q2 | q2 <;> first | exact absurd (by assumption) q2 | (rw [← hp_33, ← hp_38] at q2; omega))))
  · refine hret 5 _ _ dX4_writeOperand_5 hR ?_
    unfold xto; rw [zif_pos (by assumption)]; rfl
set_option maxRecDepth 20000 in
theorem C_X4_writeNode (E : ZE) : ∀ N : Nat, K_wn E N := by
  intro N
  induction N with
  | zero => intro σ hR hI v hv m hm x hx d hd hd0 hlt; exact absurd hlt (by omega)
  | succ N ih =>
  intro σ hR hI v hv m hm x hx d hd hd0 hlt
  refine ZMv.intro (by decide) rfl (Nat.le_of_ble_eq_true rfl) (fun Γ C hN hret => ?_)
  show ZG E Γ 0 [some (zrf E 29), some (ziv v), some (ziv m), some (ziv x), some (ziv d), none] [] σ
  refine z_iload (pc := 0) C dX4_writeNode_0 rfl ?_
  refine z_bipush (pc := 2) C dX4_writeNode_2 (by decide) ?_
  refine z_icmp_lt (pc := 4) C 8 hd (zRgL rfl) dX4_writeNode_4 rfl (fun c_4 => ?_) (fun c_4 => ?_)
  · refine z_aload_nZ (pc := 8) C dX4_writeNode_8 rfl rfl ?_
    refine z_getR (pc := 9) C fX4_19 sh29 rfl dX4_writeNode_9 ?_
    refine z_iload_n (pc := 12) C dX4_writeNode_12 rfl rfl ?_
    refine z_callVp (pc := 13) (rest := []) C (C_X0_operatorAt E σ hR 7 (Or.inl rfl) v hv hI) vX4_69 (by omega) sh7 rfl rfl rfl (Nat.le_of_ble_eq_true rfl) dX4_writeNode_13 (fun r_13 g_13 hp_13 => ?_)
    refine z_istore (pc := 16) (lv' := [some (zrf E 29), some (ziv v), some (ziv m), some (ziv x), some (ziv d), some (ziv r_13)]) C hN dX4_writeNode_16 (by decide) rfl ?_
    refine z_iload (pc := 18) C dX4_writeNode_18 rfl ?_
    refine z_iconst (pc := 20) C dX4_writeNode_20 ?_
    refine z_icmp_ne (pc := 21) C 41 g_13 (zRgL rfl) dX4_writeNode_21 rfl (fun c_21 => ?_) (fun c_21 => ?_)
    · refine z_aload_nZ (pc := 41) C dX4_writeNode_41 rfl rfl ?_
      refine z_iload (pc := 42) C dX4_writeNode_42 rfl ?_
      refine z_aload_nZ (pc := 44) C dX4_writeNode_44 rfl rfl ?_
      refine z_getR (pc := 45) C fX4_19 sh29 rfl dX4_writeNode_45 ?_
      refine z_iload_n (pc := 48) C dX4_writeNode_48 rfl rfl ?_
      refine z_callVp (pc := 49) (rest := [ziv r_13, zrf E 29]) C (C_X0_beforeAt E σ hR 7 (Or.inl rfl) v hv hI) vX4_56 (by omega) sh7 rfl rfl rfl (Nat.le_of_ble_eq_true rfl) dX4_writeNode_49 (fun r_49 g_49 hp_49 => ?_)
      refine z_iload_n (pc := 52) C dX4_writeNode_52 rfl rfl ?_
      refine z_aload_nZ (pc := 53) C dX4_writeNode_53 rfl rfl ?_
      refine z_getR (pc := 54) C fX4_15 sh29 rfl dX4_writeNode_54 ?_
      refine z_iload (pc := 57) C dX4_writeNode_57 rfl ?_
      refine z_callVp (pc := 59) (rest := [ziv m, ziv r_49, ziv r_13, zrf E 29]) C (C_X1_levelAt E σ hR r_13 g_13 hI) vX4_76 (by omega) sh1 rfl rfl rfl (Nat.le_of_ble_eq_true rfl) dX4_writeNode_59 (fun r_59 g_59 hp_59 => ?_)
      refine z_iload (pc := 62) C dX4_writeNode_62 rfl ?_
      refine z_iconst (pc := 64) C dX4_writeNode_64 ?_
      refine z_iadd (pc := 65) C dX4_writeNode_65 ?_
      refine z_callVv (pc := 66) (rest := []) C (C_X4_writeOperand E σ hR hI N ih r_13 g_13 r_49 g_49 m hm r_59 g_59 (d + 1) (by (try unfold zRg at *); (try simp only [IX] at *); omega) (by omega) (by omega)) vX4_111 (by omega) sh29 rfl rfl rfl (Nat.le_of_ble_eq_true rfl) dX4_writeNode_66 (fun σ_66 hR_66 hp_66 => ?_)
      have hI_66 : IX σ_66 := by rw [hp_66]; exact IX.xputs _ hI
      refine z_aload_nZ (pc := 69) C dX4_writeNode_69 rfl rfl ?_
      refine z_getR (pc := 70) C fX4_23 sh29 rfl dX4_writeNode_70 ?_
      refine z_aload_nZ (pc := 73) C dX4_writeNode_73 rfl rfl ?_
      refine z_getR (pc := 74) C fX4_15 sh29 rfl dX4_writeNode_74 ?_
      refine z_iload (pc := 77) C dX4_writeNode_77 rfl ?_
      refine z_callVp (pc := 79) (rest := [zrf E 21]) C (C_X1_symbolAt E σ_66 hR_66 r_13 g_13 hI_66) vX4_115 (by omega) sh1 rfl rfl rfl (Nat.le_of_ble_eq_true rfl) dX4_writeNode_79 (fun r_79 g_79 hp_79 => ?_)
      refine z_callVi (pc := 82) (rest := []) C (C_X3_put E σ_66 hR_66 21 (Or.inr (Or.inl rfl)) r_79 g_79 hI_66) vX4_107 (by omega) sh21 rfl rfl rfl (Nat.le_of_ble_eq_true rfl) dX4_writeNode_82 (fun r_82 σ_82 g_82 hR_82 hp_82 => ?_)
      have hI_82 : IX σ_82 := by rw [hp_82.2]; exact hI_66.xput (Or.inr (Or.inl rfl))
      refine z_pop (pc := 85) C dX4_writeNode_85 rfl ?_
      refine z_aload_nZ (pc := 86) C dX4_writeNode_86 rfl rfl ?_
      refine z_iload (pc := 87) C dX4_writeNode_87 rfl ?_
      refine z_aload_nZ (pc := 89) C dX4_writeNode_89 rfl rfl ?_
      refine z_getR (pc := 90) C fX4_19 sh29 rfl dX4_writeNode_90 ?_
      refine z_iload_n (pc := 93) C dX4_writeNode_93 rfl rfl ?_
      refine z_callVp (pc := 94) (rest := [ziv r_13, zrf E 29]) C (C_X0_afterAt E σ_82 hR_82 7 (Or.inl rfl) v hv hI_82) vX4_62 (by omega) sh7 rfl rfl rfl (Nat.le_of_ble_eq_true rfl) dX4_writeNode_94 (fun r_94 g_94 hp_94 => ?_)
      refine z_aload_nZ (pc := 97) C dX4_writeNode_97 rfl rfl ?_
      refine z_getR (pc := 98) C fX4_15 sh29 rfl dX4_writeNode_98 ?_
      refine z_iload (pc := 101) C dX4_writeNode_101 rfl ?_
      refine z_callVp (pc := 103) (rest := [ziv r_94, ziv r_13, zrf E 29]) C (C_X1_minAfter E σ_82 hR_82 r_13 g_13 hI_82) vX4_85 (by omega) sh1 rfl rfl rfl (Nat.le_of_ble_eq_true rfl) dX4_writeNode_103 (fun r_103 g_103 hp_103 => ?_)
      refine z_iload_n (pc := 106) C dX4_writeNode_106 rfl rfl ?_
      refine z_iload (pc := 107) C dX4_writeNode_107 rfl ?_
      refine z_iconst (pc := 109) C dX4_writeNode_109 ?_
      refine z_iadd (pc := 110) C dX4_writeNode_110 ?_
      refine z_callVv (pc := 111) (rest := []) C (C_X4_writeOperand E σ_82 hR_82 hI_82 N ih r_13 g_13 r_94 g_94 r_103 g_103 x hx (d + 1) (by (try unfold zRg at *); (try simp only [IX] at *); omega) (by omega) (by omega)) vX4_111 (by omega) sh29 rfl rfl rfl (Nat.le_of_ble_eq_true rfl) dX4_writeNode_111 (fun σ_111 hR_111 hp_111 => ?_)
      refine hret 114 _ _ dX4_writeNode_114 hR_111 ?_
      have e1 : (40 - (d + 1)).toNat = (40 - d).toNat - 1 := by omega
      rw [e1] at hp_66 hp_111
      have a1 : zAl σ σ_66 := by rw [hp_66]; exact zAl_puts σ _
      have a2 : zAl σ σ_82 := by rw [hp_82.2]; exact fun c hc => (xput_row hc).trans (a1 c hc)
      rw [xtext_go (by omega), zif_neg (by rw [← hp_13]; assumption), xputs_app, xputs_app, ← hp_13, ← hp_49, ← hp_59, ← hp_66]
      rw [a2.to, a2.text] at hp_111
      rw [hp_111, hp_82.2, hp_79, a1.sym, hp_94, hp_103, a2.naft, a2.min]
      rfl
    · refine z_aload_nZ (pc := 24) C dX4_writeNode_24 rfl rfl ?_
      refine z_getR (pc := 25) C fX4_23 sh29 rfl dX4_writeNode_25 ?_
      refine z_aload_nZ (pc := 28) C dX4_writeNode_28 rfl rfl ?_
      refine z_getR (pc := 29) C fX4_19 sh29 rfl dX4_writeNode_29 ?_
      refine z_iload_n (pc := 32) C dX4_writeNode_32 rfl rfl ?_
      refine z_callVp (pc := 33) (rest := [zrf E 21]) C (C_X0_letterAt E σ hR 7 (Or.inl rfl) v hv hI) vX4_104 (by omega) sh7 rfl rfl rfl (Nat.le_of_ble_eq_true rfl) dX4_writeNode_33 (fun r_33 g_33 hp_33 => ?_)
      refine z_callVi (pc := 36) (rest := []) C (C_X3_put E σ hR 21 (Or.inr (Or.inl rfl)) r_33 g_33 hI) vX4_107 (by omega) sh21 rfl rfl rfl (Nat.le_of_ble_eq_true rfl) dX4_writeNode_36 (fun r_36 σ_36 g_36 hR_36 hp_36 => ?_)
      refine z_pop (pc := 39) C dX4_writeNode_39 rfl ?_
      refine hret 40 _ _ dX4_writeNode_40 hR_36 ?_
      rw [xtext_go (by omega), zif_pos (by rw [← hp_13]; assumption), hp_36.2, hp_33]; rfl
  · refine hret 7 _ _ dX4_writeNode_7 hR ?_
    rw [show (40 - d).toNat = 0 by omega]; rfl
set_option maxRecDepth 20000 in
theorem C_X4_writeAll (E : ZE) (σ : ZSt) (hR : zRs σ) (a : Int) (ha : zRg a) (b : Int) (hb : b = 0 ∨ b = 1) (hI : IX σ) (ha0 : 0 ≤ a) : ZMv E 213 yX4_writeAll cX4_writeAll 3 [zrf E 29, ziv a, ziv b] σ (fun σ' => σ' = xall σ a b) := by
  refine ZMv.intro (by decide) rfl (Nat.le_of_ble_eq_true rfl) (fun Γ C hN hret => ?_)
  show ZG E Γ 0 [some (zrf E 29), some (ziv a), some (ziv b)] [] σ
  refine z_aload_nZ (pc := 0) C dX4_writeAll_0 rfl rfl ?_
  refine z_iload_n (pc := 1) C dX4_writeAll_1 rfl rfl ?_
  refine z_putZ (pc := 2) C hR fX4_27 sh29 rfl hb dX4_writeAll_2 (fun σ_2 e_2 hR_2 => ?_)
  have hI_2 : IX σ_2 := by rw [e_2]; exact hI.upA rfl
  refine z_aload_nZ (pc := 5) C dX4_writeAll_5 rfl rfl ?_
  refine z_getIe (pc := 6) (v := b) C fX4_27 sh29 rfl dX4_writeAll_6 (by rw [e_2, zup_same]) ?_
  refine z_if_ne (pc := 9) C 22 (zRg01 hb) dX4_writeAll_9 rfl (fun c_9 => ?_) (fun c_9 => ?_)
  · refine z_aload_nZ (pc := 22) C dX4_writeAll_22 rfl rfl ?_
    refine z_getR (pc := 23) C fX4_23 sh29 rfl dX4_writeAll_23 ?_
    refine z_callVv (pc := 26) (rest := []) C (C_X3_empty E σ_2 hR_2 21 (Or.inr (Or.inl rfl))) vX4_38 (by decide) sh21 rfl rfl rfl (Nat.le_of_ble_eq_true rfl) dX4_writeAll_26 (fun σ_26 hR_26 hp_26 => ?_)
    have hI_26 : IX σ_26 := by rw [hp_26]; first | exact hI_19.upTX (Or.inr (Or.inl rfl)) (by decide) | exact hI_2.upTX (Or.inr (Or.inl rfl)) (by decide)
    refine z_aload_nZ (pc := 29) C dX4_writeAll_29 rfl rfl ?_
    refine z_iload_n (pc := 30) C dX4_writeAll_30 rfl rfl ?_
    refine z_iconst (pc := 31) C dX4_writeAll_31 ?_
    refine z_iconst (pc := 32) C dX4_writeAll_32 ?_
    refine z_iconst (pc := 33) C dX4_writeAll_33 ?_
    refine z_callVv (pc := 34) (rest := []) C (C_X4_writeNode E 41 σ_26 hR_26 hI_26 a ha 0 (zRgL rfl) 0 (zRgL rfl) 0 (zRgL rfl) (by decide) (by decide)) vX4_43 (by decide) sh29 rfl rfl rfl (Nat.le_of_ble_eq_true rfl) dX4_writeAll_34 (fun σ_34 hR_34 hp_34 => ?_)
    refine hret 37 _ _ dX4_writeAll_37 hR_34 ?_
    have e9 : (40 - (0 : Int)).toNat = 40 := rfl
    rw [e9, hp_26] at hp_34
    rw [hp_34]
    unfold xall xprep
    first | (rw [zif_pos (by assumption), hp_19, hp_14, e_2]) | (rw [zif_neg (by assumption), e_2])
  · refine z_aload_nZ (pc := 12) C dX4_writeAll_12 rfl rfl ?_
    refine z_iload_n (pc := 13) C dX4_writeAll_13 rfl rfl ?_
    refine z_callVv (pc := 14) (rest := []) C (C_X4_markNeeded E σ_2 hR_2 a ha hI_2 (by (try unfold zRg at *); (try simp only [IX] at *); omega)) vX4_31 (by decide) sh29 rfl rfl rfl (Nat.le_of_ble_eq_true rfl) dX4_writeAll_14 (fun σ_14 hR_14 hp_14 => ?_)
    have hI_14 : IX σ_14 := by rw [hp_14]; exact IX.xmarks _ (IX.xmark hI_2)
    refine z_aload_nZ (pc := 17) C dX4_writeAll_17 rfl rfl ?_
    refine z_iload_n (pc := 18) C dX4_writeAll_18 rfl rfl ?_
    refine z_callVv (pc := 19) (rest := []) C (C_X4_countNeeded E σ_14 hR_14 a ha hI_14 (by (try unfold zRg at *); (try simp only [IX] at *); omega)) vX4_35 (by decide) sh29 rfl rfl rfl (Nat.le_of_ble_eq_true rfl) dX4_writeAll_19 (fun σ_19 hR_19 hp_19 => ?_)
    have hI_19 : IX σ_19 := by rw [hp_19]; exact IX.xcnt hI_14 _
    refine z_aload_nZ (pc := 22) C dX4_writeAll_22 rfl rfl ?_
    refine z_getR (pc := 23) C fX4_23 sh29 rfl dX4_writeAll_23 ?_
    refine z_callVv (pc := 26) (rest := []) C (C_X3_empty E σ_19 hR_19 21 (Or.inr (Or.inl rfl))) vX4_38 (by decide) sh21 rfl rfl rfl (Nat.le_of_ble_eq_true rfl) dX4_writeAll_26 (fun σ_26 hR_26 hp_26 => ?_)
    have hI_26 : IX σ_26 := by rw [hp_26]; first | exact hI_19.upTX (Or.inr (Or.inl rfl)) (by decide) | exact hI_2.upTX (Or.inr (Or.inl rfl)) (by decide)
    refine z_aload_nZ (pc := 29) C dX4_writeAll_29 rfl rfl ?_
    refine z_iload_n (pc := 30) C dX4_writeAll_30 rfl rfl ?_
    refine z_iconst (pc := 31) C dX4_writeAll_31 ?_
    refine z_iconst (pc := 32) C dX4_writeAll_32 ?_
    refine z_iconst (pc := 33) C dX4_writeAll_33 ?_
    refine z_callVv (pc := 34) (rest := []) C (C_X4_writeNode E 41 σ_26 hR_26 hI_26 a ha 0 (zRgL rfl) 0 (zRgL rfl) 0 (zRgL rfl) (by decide) (by decide)) vX4_43 (by decide) sh29 rfl rfl rfl (Nat.le_of_ble_eq_true rfl) dX4_writeAll_34 (fun σ_34 hR_34 hp_34 => ?_)
    refine hret 37 _ _ dX4_writeAll_37 hR_34 ?_
    have e9 : (40 - (0 : Int)).toNat = 40 := rfl
    rw [e9, hp_26] at hp_34
    rw [hp_34]
    unfold xall xprep
    first | (rw [zif_pos (by assumption), hp_19, hp_14, e_2]) | (rw [zif_neg (by assumption), e_2])
set_option maxRecDepth 20000 in
theorem C_X5_writeTree (E : ZE) (σ : ZSt) (hR : zRs σ) (a : Int) (ha : zRg a) (b : Int) (hb : b = 0 ∨ b = 1) (hI : IX σ) : ZMi E 214 yX5_writeTree cX5_writeTree 3 (some .int) [zrf E 0, ziv a, ziv b] σ (fun r σ' => r = (xprint σ a b).1 ∧ σ' = (xprint σ a b).2) := by
  refine ZMi.intro (by decide) rfl (Nat.le_of_ble_eq_true rfl) (fun Γ C hN hret => ?_)
  show ZG E Γ 0 [some (zrf E 0), some (ziv a), some (ziv b)] [] σ
  refine z_aload_nZ (pc := 0) C dX5_writeTree_0 rfl rfl ?_
  refine z_getR (pc := 1) C fX5_19 sh0 rfl dX5_writeTree_1 ?_
  refine z_iload_n (pc := 4) C dX5_writeTree_4 rfl rfl ?_
  refine z_callVp (pc := 5) (rest := []) C (C_X0_has E σ hR 7 (Or.inl rfl) a ha) vX5_115 (by decide) sh7 rfl rfl rfl (Nat.le_of_ble_eq_true rfl) dX5_writeTree_5 (fun r_5 g_5 hp_5 => ?_)
  refine z_if_ne (pc := 8) C 13 g_5 dX5_writeTree_8 rfl (fun c_8 => ?_) (fun c_8 => ?_)
  · have c_8 := zb1 hp_5 c_8
    refine z_aload_nZ (pc := 13) C dX5_writeTree_13 rfl rfl ?_
    refine z_getR (pc := 14) C fX5_51 sh0 rfl dX5_writeTree_14 ?_
    refine z_iload_n (pc := 17) C dX5_writeTree_17 rfl rfl ?_
    refine z_iload_n (pc := 18) C dX5_writeTree_18 rfl rfl ?_
    refine z_callVv (pc := 19) (rest := []) C (C_X4_writeAll E σ hR a ha b hb hI (by (try unfold zRg at *); (try simp only [IX] at *); omega)) vX5_144 (by decide) sh29 rfl rfl rfl (Nat.le_of_ble_eq_true rfl) dX5_writeTree_19 (fun σ_19 hR_19 hp_19 => ?_)
    have hI_19 : IX σ_19 := by rw [hp_19]; exact xall_IX hI _ _
    refine z_aload_nZ (pc := 22) C dX5_writeTree_22 rfl rfl ?_
    refine z_iload_n (pc := 23) C dX5_writeTree_23 rfl rfl ?_
    refine z_putI (pc := 24) C hR_19 fX5_55 sh0 rfl ha dX5_writeTree_24 (fun σ_24 e_24 hR_24 => ?_)
    have hI_24 : IX σ_24 := by rw [e_24]; exact hI_19.upA rfl
    refine z_aload_nZ (pc := 27) C dX5_writeTree_27 rfl rfl ?_
    refine z_getR (pc := 28) C fX5_33 sh0 rfl dX5_writeTree_28 ?_
    refine z_callVp (pc := 31) (rest := []) C (C_X3_length E σ_24 hR_24 21 (Or.inr (Or.inl rfl))) vX5_148 (by decide) sh21 rfl rfl rfl (Nat.le_of_ble_eq_true rfl) dX5_writeTree_31 (fun r_31 g_31 hp_31 => ?_)
    refine hret 34 _ _ _ dX5_writeTree_34 g_31 hR_24 ?_
    unfold xprint
    rw [zif_pos (by assumption)]
    rw [hp_19, xall_eq] at e_24
    exact ⟨by rw [hp_31, e_24], e_24⟩
  · have c_8 := zb0 hp_5 c_8
    refine z_iconst (pc := 11) C dX5_writeTree_11 ?_
    refine hret 12 _ _ _ dX5_writeTree_12 (zRgL rfl) hR ?_
    unfold xprint; rw [zif_neg (by assumption)]; exact ⟨rfl, rfl⟩
set_option maxRecDepth 20000 in
theorem C_X5_print (E : ZE) (σ : ZSt) (hR : zRs σ) (a : Int) (ha : zRg a) (hI : IX σ) : ZMi E 215 yX5_print cX5_print 2 (some .int) [zrf E 0, ziv a] σ (fun r σ' => r = (xprint σ a 0).1 ∧ σ' = (xprint σ a 0).2) := by
  refine ZMi.intro (by decide) rfl (Nat.le_of_ble_eq_true rfl) (fun Γ C hN hret => ?_)
  show ZG E Γ 0 [some (zrf E 0), some (ziv a)] [] σ
  refine z_aload_nZ (pc := 0) C dX5_print_0 rfl rfl ?_
  refine z_iload_n (pc := 1) C dX5_print_1 rfl rfl ?_
  refine z_iconst (pc := 2) C dX5_print_2 ?_
  refine z_callVi (pc := 3) (rest := []) C (C_X5_writeTree E σ hR a ha 0 (Or.inl rfl) hI) vX5_141 (by decide) sh0 rfl rfl rfl (Nat.le_of_ble_eq_true rfl) dX5_print_3 (fun r_3 σ_3 g_3 hR_3 hp_3 => ?_)
  refine hret 6 _ _ _ dX5_print_6 g_3 hR_3 ?_
  assumption
set_option maxRecDepth 20000 in
theorem C_X5_printFull (E : ZE) (σ : ZSt) (hR : zRs σ) (a : Int) (ha : zRg a) (hI : IX σ) : ZMi E 215 yX5_printFull cX5_printFull 2 (some .int) [zrf E 0, ziv a] σ (fun r σ' => r = (xprint σ a 1).1 ∧ σ' = (xprint σ a 1).2) := by
  refine ZMi.intro (by decide) rfl (Nat.le_of_ble_eq_true rfl) (fun Γ C hN hret => ?_)
  show ZG E Γ 0 [some (zrf E 0), some (ziv a)] [] σ
  refine z_aload_nZ (pc := 0) C dX5_printFull_0 rfl rfl ?_
  refine z_iload_n (pc := 1) C dX5_printFull_1 rfl rfl ?_
  refine z_iconst (pc := 2) C dX5_printFull_2 ?_
  refine z_callVi (pc := 3) (rest := []) C (C_X5_writeTree E σ hR a ha 1 (Or.inr rfl) hI) vX5_141 (by decide) sh0 rfl rfl rfl (Nat.le_of_ble_eq_true rfl) dX5_printFull_3 (fun r_3 σ_3 g_3 hR_3 hp_3 => ?_)
  refine hret 6 _ _ _ dX5_printFull_6 g_3 hR_3 ?_
  assumption
set_option maxRecDepth 20000 in
theorem C_X5_readWithout (E : ZE) (σ : ZSt) (hR : zRs σ) (a : Int) (ha : zRg a) (hI : IX σ) : ZMi E 44 yX5_readWithout cX5_readWithout 2 (some .int) [zrf E 0, ziv a] σ (fun r σ' => r = (xwithout σ a).1 ∧ σ' = (xwithout σ a).2) := by
  refine ZMi.intro (by decide) rfl (Nat.le_of_ble_eq_true rfl) (fun Γ C hN hret => ?_)
  show ZG E Γ 0 [some (zrf E 0), some (ziv a)] [] σ
  refine z_aload_nZ (pc := 0) C dX5_readWithout_0 rfl rfl ?_
  refine z_getI (pc := 1) C fX5_55 sh0 rfl dX5_readWithout_1 ?_
  refine z_iconst (pc := 4) C dX5_readWithout_4 ?_
  refine z_icmp_ne (pc := 5) C 11 (hR 0 _) (zRgL rfl) dX5_readWithout_5 rfl (fun c_5 => ?_) (fun c_5 => ?_)
  · refine z_iload_n (pc := 11) C dX5_readWithout_11 rfl rfl ?_
    refine z_if_lt (pc := 12) C 26 ha dX5_readWithout_12 rfl (fun c_12 => ?_) (fun c_12 => ?_)
    · refine z_bipush (pc := 26) C dX5_readWithout_26 (by decide) ?_
      refine hret 28 _ _ _ dX5_readWithout_28 (zRgL rfl) hR ?_
      unfold xwithout; rw [zif_neg (by assumption), zif_pos (by omega)]; exact ⟨rfl, rfl⟩
    · refine z_iload_n (pc := 15) C dX5_readWithout_15 rfl rfl ?_
      refine z_aload_nZ (pc := 16) C dX5_readWithout_16 rfl rfl ?_
      refine z_getR (pc := 17) C fX5_33 sh0 rfl dX5_readWithout_17 ?_
      refine z_callVp (pc := 20) (rest := [ziv a]) C (C_X3_countPairs E σ hR 21 (Or.inr (Or.inl rfl)) hI) vX5_154 (by decide) sh21 rfl rfl rfl (Nat.le_of_ble_eq_true rfl) dX5_readWithout_20 (fun r_20 g_20 hp_20 => ?_)
      replace hp_20 : r_20 = zcnt (σ 22) 40 (σ 21 1).toNat := hp_20
      refine z_icmp_lt (pc := 23) C 29 ha g_20 dX5_readWithout_23 rfl (fun c_23 => ?_) (fun c_23 => ?_)
      · refine z_aload_nZ (pc := 29) C dX5_readWithout_29 rfl rfl ?_
        refine z_getR (pc := 30) C fX5_36 sh0 rfl dX5_readWithout_30 ?_
        refine z_aload_nZ (pc := 33) C dX5_readWithout_33 rfl rfl ?_
        refine z_getR (pc := 34) C fX5_33 sh0 rfl dX5_readWithout_34 ?_
        refine z_iload_n (pc := 37) C dX5_readWithout_37 rfl rfl ?_
        refine z_callVv (pc := 38) (rest := []) C (C_X3_copyWithoutPair E σ hR a ha hI) vX5_157 (by decide) sh23 rfl rfl rfl (Nat.le_of_ble_eq_true rfl) dX5_readWithout_38 (fun σ_38 hR_38 hp_38 => ?_)
        have hI_38 : IX σ_38 := by rw [hp_38]; exact hI.zst (Or.inr (Or.inr rfl)) (Nat.le_trans (zskn_le _ _ _) (by have := hI.tx (k := 21) (Or.inr (Or.inl rfl)); omega))
        refine z_aload_nZ (pc := 41) C dX5_readWithout_41 rfl rfl ?_
        refine z_getR (pc := 42) C fX5_44 sh0 rfl dX5_readWithout_42 ?_
        refine z_callVi (pc := 45) (rest := []) C (C_X2_reads E σ_38 hR_38 hI_38) vX5_161 (by decide) sh25 rfl rfl rfl (Nat.le_of_ble_eq_true rfl) dX5_readWithout_45 (fun r_45 σ_45 g_45 hR_45 hp_45 => ?_)
        have hI_45 : IX σ_45 := by rw [hp_45.2]; exact hI_38.xreads
        refine z_if_ne (pc := 48) C 53 g_45 dX5_readWithout_48 rfl (fun c_48 => ?_) (fun c_48 => ?_)
        · have c_48 := zb1 hp_45.1 c_48
          refine z_aload_nZ (pc := 53) C dX5_readWithout_53 rfl rfl ?_
          refine z_getR (pc := 54) C fX5_23 sh0 rfl dX5_readWithout_54 ?_
          refine z_aload_nZ (pc := 57) C dX5_readWithout_57 rfl rfl ?_
          refine z_getR (pc := 58) C fX5_23 sh0 rfl dX5_readWithout_58 ?_
          refine z_callVp (pc := 61) (rest := [zrf E 13]) C (C_X0_last E σ_45 hR_45 13 (Or.inr rfl) hI_45) vX5_165 (by decide) sh13 rfl rfl rfl (Nat.le_of_ble_eq_true rfl) dX5_readWithout_61 (fun r_61 g_61 hp_61 => ?_)
          refine z_aload_nZ (pc := 64) C dX5_readWithout_64 rfl rfl ?_
          refine z_getR (pc := 65) C fX5_19 sh0 rfl dX5_readWithout_65 ?_
          refine z_aload_nZ (pc := 68) C dX5_readWithout_68 rfl rfl ?_
          refine z_getI (pc := 69) C fX5_55 sh0 rfl dX5_readWithout_69 ?_
          refine z_iconst (pc := 72) C dX5_readWithout_72 ?_
          refine z_callSp (pc := 73) (rest := []) C (C_X5_sameTree E σ_45 hR_45 hI_45 13 (Or.inr rfl) 7 (Or.inl rfl) 41 r_61 g_61 (σ_45 0 8) (hR_45 0 _) 0 (zRgL rfl) (by decide)) vX5_131 (by decide) rfl rfl (Nat.le_of_ble_eq_true rfl) dX5_readWithout_73 (fun r_73 g_73 hp_73 => ?_)
          refine z_if_eq (pc := 76) C 83 g_73 dX5_readWithout_76 rfl (fun c_76 => ?_) (fun c_76 => ?_)
          · have c_76 := zb0 hp_73 c_76
            refine z_iconst (pc := 83) C dX5_readWithout_83 ?_
            refine hret 84 _ _ _ dX5_readWithout_84 (zRgL rfl) hR_45 ?_
            unfold xwithout
            rw [zif_neg (by assumption), zif_neg (by omega), ← hp_38, zif_pos (by assumption)]
            rw [hp_45.2, hp_61, hp_45.2, show (40 - (0 : Int)).toNat = 40 from rfl] at c_76
            refine ⟨?_, hp_45.2⟩
            first | (show _ = zif _ _ _; rw [zif_pos c_76]) | (show _ = zif _ _ _; rw [zif_neg c_76])
          · have c_76 := zb1 hp_73 c_76
            refine z_iconst (pc := 79) C dX5_readWithout_79 ?_
            refine z_goto (pc := 80) C 84 dX5_readWithout_80 rfl ?_
            refine hret 84 _ _ _ dX5_readWithout_84 (zRgL rfl) hR_45 ?_
            unfold xwithout
            rw [zif_neg (by assumption), zif_neg (by omega), ← hp_38, zif_pos (by assumption)]
            rw [hp_45.2, hp_61, hp_45.2, show (40 - (0 : Int)).toNat = 40 from rfl] at c_76
            refine ⟨?_, hp_45.2⟩
            first | (show _ = zif _ _ _; rw [zif_pos c_76]) | (show _ = zif _ _ _; rw [zif_neg c_76])
        · have c_48 := zb0 hp_45.1 c_48
          refine z_iconst (pc := 51) C dX5_readWithout_51 ?_
          refine hret 52 _ _ _ dX5_readWithout_52 (zRgL rfl) hR_45 ?_
          unfold xwithout; rw [zif_neg (by assumption), zif_neg (by omega), ← hp_38, zif_neg (by assumption)]; exact ⟨rfl, hp_45.2⟩
      · refine z_bipush (pc := 26) C dX5_readWithout_26 (by decide) ?_
        refine hret 28 _ _ _ dX5_readWithout_28 (zRgL rfl) hR ?_
        unfold xwithout; rw [zif_neg (by assumption), zif_pos (by omega)]; exact ⟨rfl, rfl⟩
  · refine z_bipush (pc := 8) C dX5_readWithout_8 (by decide) ?_
    refine hret 10 _ _ _ dX5_readWithout_10 (zRgL rfl) hR ?_
    unfold xwithout; rw [zif_pos (by assumption)]; exact ⟨rfl, rfl⟩
set_option maxRecDepth 20000 in
theorem C_X5_parse (E : ZE) (σ : ZSt) (hR : zRs σ) (hI : IX σ) : ZMi E 7 yX5_parse cX5_parse 1 (some .int) [zrf E 0] σ (fun r σ' => r = (xparse σ).1 ∧ σ' = (xparse σ).2) := by
  refine ZMi.intro (by decide) rfl (Nat.le_of_ble_eq_true rfl) (fun Γ C hN hret => ?_)
  show ZG E Γ 0 [some (zrf E 0)] [] σ
  refine z_aload_nZ (pc := 0) C dX5_parse_0 rfl rfl ?_
  refine z_getR (pc := 1) C fX5_36 sh0 rfl dX5_parse_1 ?_
  refine z_aload_nZ (pc := 4) C dX5_parse_4 rfl rfl ?_
  refine z_getR (pc := 5) C fX5_29 sh0 rfl dX5_parse_5 ?_
  refine z_callVv (pc := 8) (rest := []) C (C_X3_copyFrom E σ hR 23 (Or.inr (Or.inr rfl)) 19 (Or.inl rfl) hI (by decide)) vX5_171 (by decide) sh23 rfl rfl rfl (Nat.le_of_ble_eq_true rfl) dX5_parse_8 (fun σ_8 hR_8 hp_8 => ?_)
  have hI_8 : IX σ_8 := by rw [hp_8]; exact hI.zst (Or.inr (Or.inr rfl)) (by have := hI.tx (k := 19) (Or.inl rfl); omega)
  refine z_aload_nZ (pc := 11) C dX5_parse_11 rfl rfl ?_
  refine z_getR (pc := 12) C fX5_44 sh0 rfl dX5_parse_12 ?_
  refine z_callVi (pc := 15) (rest := []) C (C_X2_reads E σ_8 hR_8 hI_8) vX5_161 (by decide) sh25 rfl rfl rfl (Nat.le_of_ble_eq_true rfl) dX5_parse_15 (fun r_15 σ_15 g_15 hR_15 hp_15 => ?_)
  have hI_15 : IX σ_15 := by rw [hp_15.2]; exact hI_8.xreads
  have hn7 := hI_15.nt (k := 7) (Or.inl rfl)
  have hn13 := hI_15.nt (k := 13) (Or.inr rfl)
  refine z_if_ne (pc := 18) C 46 g_15 dX5_parse_18 rfl (fun c_18 => ?_) (fun c_18 => ?_)
  · have c_18 := zb1 hp_15.1 c_18
    refine z_aload_nZ (pc := 46) C dX5_parse_46 rfl rfl ?_
    refine z_getR (pc := 47) C fX5_23 sh0 rfl dX5_parse_47 ?_
    refine z_callVp (pc := 50) (rest := []) C (C_X0_count E σ_15 hR_15 13 (Or.inr rfl)) vX5_111 (by decide) sh13 rfl rfl rfl (Nat.le_of_ble_eq_true rfl) dX5_parse_50 (fun r_50 g_50 hp_50 => ?_)
    refine z_bipush (pc := 53) C dX5_parse_53 (by decide) ?_
    refine z_icmp_le (pc := 55) C 61 g_50 (zRgL rfl) dX5_parse_55 rfl (fun c_55 => ?_) (fun c_55 => ?_)
    · refine z_aload_nZ (pc := 61) C dX5_parse_61 rfl rfl ?_
      refine z_getR (pc := 62) C fX5_19 sh0 rfl dX5_parse_62 ?_
      refine z_callVp (pc := 65) (rest := []) C (C_X0_count E σ_15 hR_15 7 (Or.inl rfl)) vX5_111 (by decide) sh7 rfl rfl rfl (Nat.le_of_ble_eq_true rfl) dX5_parse_65 (fun r_65 g_65 hp_65 => ?_)
      refine z_aload_nZ (pc := 68) C dX5_parse_68 rfl rfl ?_
      refine z_getR (pc := 69) C fX5_23 sh0 rfl dX5_parse_69 ?_
      refine z_callVp (pc := 72) (rest := [ziv r_65]) C (C_X0_count E σ_15 hR_15 13 (Or.inr rfl)) vX5_111 (by decide) sh13 rfl rfl rfl (Nat.le_of_ble_eq_true rfl) dX5_parse_72 (fun r_72 g_72 hp_72 => ?_)
      refine z_iadd (pc := 75) C dX5_parse_75 ?_
      refine z_bipush (pc := 76) C dX5_parse_76 (by decide) ?_
      refine z_icmp_le (pc := 78) C 84 (by (try unfold zRg at *); (try simp only [IX] at *); omega) (zRgL rfl) dX5_parse_78 rfl (fun c_78 => ?_) (fun c_78 => ?_)
      · refine z_aload_nZ (pc := 84) C dX5_parse_84 rfl rfl ?_
        refine z_getR (pc := 85) C fX5_19 sh0 rfl dX5_parse_85 ?_
        refine z_aload_nZ (pc := 88) C dX5_parse_88 rfl rfl ?_
        refine z_getR (pc := 89) C fX5_23 sh0 rfl dX5_parse_89 ?_
        refine z_callVv (pc := 92) (rest := []) C (C_X0_addAllOf E σ_15 hR_15 hI_15) vX5_184 (by decide) sh7 rfl rfl rfl (Nat.le_of_ble_eq_true rfl) dX5_parse_92 (fun σ_92 hR_92 hp_92 => ?_)
        have hI_92 : IX σ_92 := by rw [hp_92]; exact hI_15.xadds _
        refine z_aload_nZ (pc := 95) C dX5_parse_95 rfl rfl ?_
        refine z_getR (pc := 96) C fX5_19 sh0 rfl dX5_parse_96 ?_
        refine z_callVp (pc := 99) (rest := []) C (C_X0_last E σ_92 hR_92 7 (Or.inl rfl) hI_92) vX5_165 (by decide) sh7 rfl rfl rfl (Nat.le_of_ble_eq_true rfl) dX5_parse_99 (fun r_99 g_99 hp_99 => ?_)
        refine hret 102 _ _ _ dX5_parse_102 g_99 hR_92 ?_
        have e8 : xreads (xcopy σ 23 19) = σ_15 := by rw [hp_15.2, hp_8]
        rw [hp_8, e8] at c_18
        unfold xparse
        rw [e8]
        first
        | (rw [zif_neg c_18]; exact ⟨rfl, by rw [e_40, e_29, hp_37, hp_26, e_29]; rfl⟩)
        | (rw [zif_pos c_18, zif_pos (by omega)]; exact ⟨rfl, rfl⟩)
        | (rw [zif_pos c_18, zif_neg (by omega), zif_pos (by omega)]; exact ⟨rfl, rfl⟩)
        | (rw [zif_pos c_18, zif_neg (by omega), zif_neg (by omega)]; exact ⟨by rw [hp_99, hp_92], hp_92⟩)
      · refine z_bipush (pc := 81) C dX5_parse_81 (by decide) ?_
        refine hret 83 _ _ _ dX5_parse_83 (zRgL rfl) hR_15 ?_
        have e8 : xreads (xcopy σ 23 19) = σ_15 := by rw [hp_15.2, hp_8]
        rw [hp_8, e8] at c_18
        unfold xparse
        rw [e8]
        first
        | (rw [zif_neg c_18]; exact ⟨rfl, by rw [e_40, e_29, hp_37, hp_26, e_29]; rfl⟩)
        | (rw [zif_pos c_18, zif_pos (by omega)]; exact ⟨rfl, rfl⟩)
        | (rw [zif_pos c_18, zif_neg (by omega), zif_pos (by omega)]; exact ⟨rfl, rfl⟩)
        | (rw [zif_pos c_18, zif_neg (by omega), zif_neg (by omega)]; exact ⟨by rw [hp_99, hp_92], hp_92⟩)
    · refine z_bipush (pc := 58) C dX5_parse_58 (by decide) ?_
      refine hret 60 _ _ _ dX5_parse_60 (zRgL rfl) hR_15 ?_
      have e8 : xreads (xcopy σ 23 19) = σ_15 := by rw [hp_15.2, hp_8]
      rw [hp_8, e8] at c_18
      unfold xparse
      rw [e8]
      first
      | (rw [zif_neg c_18]; exact ⟨rfl, by rw [e_40, e_29, hp_37, hp_26, e_29]; rfl⟩)
      | (rw [zif_pos c_18, zif_pos (by omega)]; exact ⟨rfl, rfl⟩)
      | (rw [zif_pos c_18, zif_neg (by omega), zif_pos (by omega)]; exact ⟨rfl, rfl⟩)
      | (rw [zif_pos c_18, zif_neg (by omega), zif_neg (by omega)]; exact ⟨by rw [hp_99, hp_92], hp_92⟩)
  · have c_18 := zb0 hp_15.1 c_18
    refine z_aload_nZ (pc := 21) C dX5_parse_21 rfl rfl ?_
    refine z_aload_nZ (pc := 22) C dX5_parse_22 rfl rfl ?_
    refine z_getR (pc := 23) C fX5_44 sh0 rfl dX5_parse_23 ?_
    refine z_callVp (pc := 26) (rest := [zrf E 0]) C (C_X2_faultKind E σ_15 hR_15) vX5_178 (by decide) sh25 rfl rfl rfl (Nat.le_of_ble_eq_true rfl) dX5_parse_26 (fun r_26 g_26 hp_26 => ?_)
    refine z_putI (pc := 29) C hR_15 fX5_59 sh0 rfl g_26 dX5_parse_29 (fun σ_29 e_29 hR_29 => ?_)
    have hI_29 : IX σ_29 := by rw [e_29]; exact hI_15.upA rfl
    refine z_aload_nZ (pc := 32) C dX5_parse_32 rfl rfl ?_
    refine z_aload_nZ (pc := 33) C dX5_parse_33 rfl rfl ?_
    refine z_getR (pc := 34) C fX5_44 sh0 rfl dX5_parse_34 ?_
    refine z_callVp (pc := 37) (rest := [zrf E 0]) C (C_X2_faultPosition E σ_29 hR_29) vX5_181 (by decide) sh25 rfl rfl rfl (Nat.le_of_ble_eq_true rfl) dX5_parse_37 (fun r_37 g_37 hp_37 => ?_)
    refine z_putI (pc := 40) C hR_29 fX5_62 sh0 rfl g_37 dX5_parse_40 (fun σ_40 e_40 hR_40 => ?_)
    have hI_40 : IX σ_40 := by rw [e_40]; exact hI_29.upA rfl
    refine z_bipush (pc := 43) C dX5_parse_43 (by decide) ?_
    refine hret 45 _ _ _ dX5_parse_45 (zRgL rfl) hR_40 ?_
    have e8 : xreads (xcopy σ 23 19) = σ_15 := by rw [hp_15.2, hp_8]
    rw [hp_8, e8] at c_18
    unfold xparse
    rw [e8]
    first
    | (rw [zif_neg c_18]; exact ⟨rfl, by rw [e_40, e_29, hp_37, hp_26, e_29]; rfl⟩)
    | (rw [zif_pos c_18, zif_pos (by omega)]; exact ⟨rfl, rfl⟩)
    | (rw [zif_pos c_18, zif_neg (by omega), zif_pos (by omega)]; exact ⟨rfl, rfl⟩)
    | (rw [zif_pos c_18, zif_neg (by omega), zif_neg (by omega)]; exact ⟨by rw [hp_99, hp_92], hp_92⟩)
