set_option maxRecDepth 20000 in
theorem C_X6_goOn (E : ZE) (σ : ZSt) (hR : zRs σ) (hI : IM σ) (hM : RM σ) (hL : RL1 σ) (hfo : 0 < σ 31 32 → σ 53 (5 * (σ 31 32 - 1)).toNat ≠ 40 → 0 ≤ σ 53 (5 * (σ 31 32 - 1) + 1).toNat ∧ σ 53 (5 * (σ 31 32 - 1) + 1).toNat < 16) : ZMi E 3 yX6_goOn cX6_goOn 3 (some .boolean) [zrf E 31] σ (fun r σ' => r = (mgo σ).1 ∧ σ' = (mgo σ).2) := by
  refine ZMi.introZ (by decide) rfl (Nat.le_of_ble_eq_true rfl) (fun Γ C hN hret => ?_)
  show ZG E Γ 0 [some (zrf E 31), none, none] [] σ
  have hM9 := hM
  obtain ⟨hM1, hM2, hM3⟩ := hM
  have hlen := hI.len
  have L30 : ∀ (t : Int), t = zb (mover σ) → σ 31 35 = σ 31 25 ∨ σ 31 35 < σ 31 25 → ZG E Γ 30 [some (zrf E 31), none, none] [ziv t] σ := by
    intro t ht hpl
    refine z_istore_n (pc := 30) (lv' := [some (zrf E 31), some (ziv t), none]) C hN dX6_goOn_30 rfl (by decide) rfl ?_
    refine z_iload_n (pc := 31) C dX6_goOn_31 rfl rfl ?_
    refine z_if_eq (pc := 32) C 40 (zRg01 (zb01 ht)) dX6_goOn_32 rfl (fun c_32 => ?_) (fun c_32 => ?_)
    · have c_32 := zb0 ht c_32
      have hplt : σ 31 35 < σ 31 25 := hpl.elim (fun w => absurd (Or.inl w) c_32) id
      refine z_aload_nZ (pc := 40) C dX6_goOn_40 rfl rfl ?_
      refine z_aload_nZ (pc := 41) C dX6_goOn_41 rfl rfl ?_
      refine z_getR (pc := 42) C fX6_69 sh31 rfl dX6_goOn_42 ?_
      refine z_aload_nZ (pc := 45) C dX6_goOn_45 rfl rfl ?_
      refine z_getI (pc := 46) C fX6_187 sh31 rfl dX6_goOn_46 ?_
      refine z_iald (pc := 49) C sh48 (by (try unfold zRg at *); (try simp only [IX, IM] at *); omega) (by (try unfold zRg at *); (try simp only [IX, IM] at *); omega) dX6_goOn_49 ?_
      refine z_iconst (pc := 50) C dX6_goOn_50 ?_
      refine z_callVp (pc := 51) (rest := []) C (C_X6_operatorFor E σ hR (σ 48 (σ 31 35).toNat) (hR 48 _) 0 (Or.inl rfl) hI) vX6_101 (by decide) sh31 rfl rfl rfl (Nat.le_of_ble_eq_true rfl) dX6_goOn_51 (fun r_51 g_51 hp_51 => ?_)
      have hmb := mfind_b hI (σ 48 (σ 31 35).toNat) 0
      have hops := hI.ops
      have hzd : (r_51 = -10 ∧ mfind σ (σ 48 (σ 31 35).toNat) 0 = -1) ∨ (r_51 = mfind σ (σ 48 (σ 31 35).toNat) 0 ∧ 0 ≤ r_51 ∧ r_51 < 16) := by rw [hp_51]; unfold zd; split <;> omega
      refine z_istore_n (pc := 54) (lv' := [some (zrf E 31), some (ziv t), some (ziv r_51)]) C hN dX6_goOn_54 rfl (by decide) rfl ?_
      refine z_iload_n (pc := 55) C dX6_goOn_55 rfl rfl ?_
      refine z_if_ne (pc := 56) C 75 (zRg01 (zb01 ht)) dX6_goOn_56 rfl (fun c_56 => ?_) (fun c_56 => ?_)
      · have c_56 := zb1 ht c_56
        exact absurd c_56 c_32
      · have c_56 := zb0 ht c_56
        refine z_iload_n (pc := 59) C dX6_goOn_59 rfl rfl ?_
        refine z_if_ge (pc := 60) C 75 g_51 dX6_goOn_60 rfl (fun c_60 => ?_) (fun c_60 => ?_)
        · refine z_iload_n (pc := 75) C dX6_goOn_75 rfl rfl ?_
          refine z_if_ne (pc := 76) C 118 (zRg01 (zb01 ht)) dX6_goOn_76 rfl (fun c_76 => ?_) (fun c_76 => ?_)
          · have c_76 := zb1 ht c_76
            exact absurd c_76 c_32
          · have c_76 := zb0 ht c_76
            refine z_aload_nZ (pc := 79) C dX6_goOn_79 rfl rfl ?_
            refine z_getR (pc := 80) C fX6_16 sh31 rfl dX6_goOn_80 ?_
            refine z_iload_n (pc := 83) C dX6_goOn_83 rfl rfl ?_
            refine z_iald (pc := 84) C sh34 (by (try unfold zRg at *); (try simp only [IX, IM] at *); omega) (by (try unfold zRg at *); (try simp only [IX, IM] at *); omega) dX6_goOn_84 ?_
            refine z_aload_nZ (pc := 85) C dX6_goOn_85 rfl rfl ?_
            refine z_getI (pc := 86) C fX6_190 sh31 rfl dX6_goOn_86 ?_
            refine z_icmp_lt (pc := 89) C 118 (hR 34 _) (hR 31 _) dX6_goOn_89 rfl (fun c_89 => ?_) (fun c_89 => ?_)
            · refine z_aload_nZ (pc := 118) C dX6_goOn_118 rfl rfl ?_
              refine z_getI (pc := 119) C fX6_184 sh31 rfl dX6_goOn_119 ?_
              refine z_if_le (pc := 122) C 132 (hR 31 _) dX6_goOn_122 rfl (fun c_122 => ?_) (fun c_122 => ?_)
              · refine z_aload_nZ (pc := 132) C dX6_goOn_132 rfl rfl ?_
                refine z_getI (pc := 133) C fX6_187 sh31 rfl dX6_goOn_133 ?_
                refine z_aload_nZ (pc := 136) C dX6_goOn_136 rfl rfl ?_
                refine z_getI (pc := 137) C fX6_197 sh31 rfl dX6_goOn_137 ?_
                refine z_icmp_ge (pc := 140) C 155 (hR 31 _) (hR 31 _) dX6_goOn_140 rfl (fun c_140 => ?_) (fun c_140 => ?_)
                · refine z_iconst (pc := 155) C dX6_goOn_155 ?_
                  refine hret 156 _ _ _ dX6_goOn_156 (Or.inr rfl) hR ?_
                  unfold mgo mgoE
                  first
                  | (rw [zif_pos (by assumption), zif_neg (by omega), zif_neg (by omega)]; exact ⟨rfl, rfl⟩)
                  | (obtain ⟨w1, w2, w3⟩ := hzd.resolve_left (fun w => by omega); rw [zif_neg (by assumption), zif_neg (by omega), ← w1, zif_pos (by assumption), zif_neg (by omega), zif_neg (by omega)]; exact ⟨rfl, rfl⟩)
                · refine z_aload_nZ (pc := 143) C dX6_goOn_143 rfl rfl ?_
                  refine z_iconst (pc := 144) C dX6_goOn_144 ?_
                  refine z_aload_nZ (pc := 145) C dX6_goOn_145 rfl rfl ?_
                  refine z_getI (pc := 146) C fX6_187 sh31 rfl dX6_goOn_146 ?_
                  refine z_callVv (pc := 149) (rest := []) C (C_X6_fail E σ hR 4 (zRgL rfl) (σ 31 35) (hR 31 _)) vX6_212 (by decide) sh31 rfl rfl rfl (Nat.le_of_ble_eq_true rfl) dX6_goOn_149 (fun σ_149 hR_149 hp_149 => ?_)
                  refine z_goto (pc := 152) C 157 dX6_goOn_152 rfl ?_
                  refine z_iconst (pc := 157) C dX6_goOn_157 ?_
                  refine hret 158 _ _ _ dX6_goOn_158 (Or.inl rfl) hR_149 ?_
                  unfold mgo mgoE
                  first
                  | (rw [zif_pos (by assumption), zif_pos (by assumption)]; exact ⟨rfl, by assumption⟩)
                  | (rw [zif_pos (by assumption), zif_neg (by omega), zif_pos (by assumption)]; exact ⟨rfl, by assumption⟩)
                  | (rw [zif_neg (by assumption), zif_pos (by omega)]; exact ⟨rfl, by assumption⟩)
                  | (obtain ⟨w1, w2, w3⟩ := hzd.resolve_left (fun w => by omega); rw [zif_neg (by assumption), zif_neg (by omega), ← w1]; first | (rw [zif_pos (by assumption), zif_pos (by assumption)]; exact ⟨rfl, by assumption⟩) | (rw [zif_pos (by assumption), zif_neg (by omega), zif_pos (by assumption)]; exact ⟨rfl, by assumption⟩) | (rw [zif_neg (by omega), zif_pos (by assumption)]; exact ⟨rfl, by assumption⟩) | (rw [zif_neg (by omega), zif_neg (by assumption)]; exact ⟨rfl, by assumption⟩))
              · refine z_aload_nZ (pc := 125) C dX6_goOn_125 rfl rfl ?_
                refine z_callVv (pc := 126) (rest := []) C (C_X6_endCall E σ hR hI hM9 hL (by assumption) (hfo (by assumption))) vX6_225 (by decide) sh31 rfl rfl rfl (Nat.le_of_ble_eq_true rfl) dX6_goOn_126 (fun σ_126 hR_126 hp_126 => ?_)
                refine z_goto (pc := 129) C 157 dX6_goOn_129 rfl ?_
                refine z_iconst (pc := 157) C dX6_goOn_157 ?_
                refine hret 158 _ _ _ dX6_goOn_158 (Or.inl rfl) hR_126 ?_
                unfold mgo mgoE
                first
                | (rw [zif_pos (by assumption), zif_pos (by assumption)]; exact ⟨rfl, by assumption⟩)
                | (rw [zif_pos (by assumption), zif_neg (by omega), zif_pos (by assumption)]; exact ⟨rfl, by assumption⟩)
                | (rw [zif_neg (by assumption), zif_pos (by omega)]; exact ⟨rfl, by assumption⟩)
                | (obtain ⟨w1, w2, w3⟩ := hzd.resolve_left (fun w => by omega); rw [zif_neg (by assumption), zif_neg (by omega), ← w1]; first | (rw [zif_pos (by assumption), zif_pos (by assumption)]; exact ⟨rfl, by assumption⟩) | (rw [zif_pos (by assumption), zif_neg (by omega), zif_pos (by assumption)]; exact ⟨rfl, by assumption⟩) | (rw [zif_neg (by omega), zif_pos (by assumption)]; exact ⟨rfl, by assumption⟩) | (rw [zif_neg (by omega), zif_neg (by assumption)]; exact ⟨rfl, by assumption⟩))
            · refine z_aload_nZ (pc := 92) C dX6_goOn_92 rfl rfl ?_
              refine z_getR (pc := 93) C fX6_13 sh31 rfl dX6_goOn_93 ?_
              refine z_iload_n (pc := 96) C dX6_goOn_96 rfl rfl ?_
              refine z_iald (pc := 97) C sh33 (by (try unfold zRg at *); (try simp only [IX, IM] at *); omega) (by (try unfold zRg at *); (try simp only [IX, IM] at *); omega) dX6_goOn_97 ?_
              refine z_iconst (pc := 98) C dX6_goOn_98 ?_
              refine z_icmp_ne (pc := 99) C 110 (hR 33 _) (zRgL rfl) dX6_goOn_99 rfl (fun c_99 => ?_) (fun c_99 => ?_)
              · refine z_aload_nZ (pc := 110) C dX6_goOn_110 rfl rfl ?_
                refine z_iload_n (pc := 111) C dX6_goOn_111 rfl rfl ?_
                refine z_callVv (pc := 112) (rest := []) C (C_X6_readInfix E σ hR r_51 g_51 hI (by omega) hM9 hL) vX6_222 (by decide) sh31 rfl rfl rfl (Nat.le_of_ble_eq_true rfl) dX6_goOn_112 (fun σ_112 hR_112 hp_112 => ?_)
                refine z_goto (pc := 115) C 157 dX6_goOn_115 rfl ?_
                refine z_iconst (pc := 157) C dX6_goOn_157 ?_
                refine hret 158 _ _ _ dX6_goOn_158 (Or.inl rfl) hR_112 ?_
                unfold mgo mgoE
                first
                | (rw [zif_pos (by assumption), zif_pos (by assumption)]; exact ⟨rfl, by assumption⟩)
                | (rw [zif_pos (by assumption), zif_neg (by omega), zif_pos (by assumption)]; exact ⟨rfl, by assumption⟩)
                | (rw [zif_neg (by assumption), zif_pos (by omega)]; exact ⟨rfl, by assumption⟩)
                | (obtain ⟨w1, w2, w3⟩ := hzd.resolve_left (fun w => by omega); rw [zif_neg (by assumption), zif_neg (by omega), ← w1]; first | (rw [zif_pos (by assumption), zif_pos (by assumption)]; exact ⟨rfl, by assumption⟩) | (rw [zif_pos (by assumption), zif_neg (by omega), zif_pos (by assumption)]; exact ⟨rfl, by assumption⟩) | (rw [zif_neg (by omega), zif_pos (by assumption)]; exact ⟨rfl, by assumption⟩) | (rw [zif_neg (by omega), zif_neg (by assumption)]; exact ⟨rfl, by assumption⟩))
              · refine z_aload_nZ (pc := 102) C dX6_goOn_102 rfl rfl ?_
                refine z_iload_n (pc := 103) C dX6_goOn_103 rfl rfl ?_
                refine z_callVv (pc := 104) (rest := []) C (C_X6_readPostfix E σ hR r_51 g_51 hI (by omega) hM9 hL) vX6_219 (by decide) sh31 rfl rfl rfl (Nat.le_of_ble_eq_true rfl) dX6_goOn_104 (fun σ_104 hR_104 hp_104 => ?_)
                refine z_goto (pc := 107) C 157 dX6_goOn_107 rfl ?_
                refine z_iconst (pc := 157) C dX6_goOn_157 ?_
                refine hret 158 _ _ _ dX6_goOn_158 (Or.inl rfl) hR_104 ?_
                unfold mgo mgoE
                first
                | (rw [zif_pos (by assumption), zif_pos (by assumption)]; exact ⟨rfl, by assumption⟩)
                | (rw [zif_pos (by assumption), zif_neg (by omega), zif_pos (by assumption)]; exact ⟨rfl, by assumption⟩)
                | (rw [zif_neg (by assumption), zif_pos (by omega)]; exact ⟨rfl, by assumption⟩)
                | (obtain ⟨w1, w2, w3⟩ := hzd.resolve_left (fun w => by omega); rw [zif_neg (by assumption), zif_neg (by omega), ← w1]; first | (rw [zif_pos (by assumption), zif_pos (by assumption)]; exact ⟨rfl, by assumption⟩) | (rw [zif_pos (by assumption), zif_neg (by omega), zif_pos (by assumption)]; exact ⟨rfl, by assumption⟩) | (rw [zif_neg (by omega), zif_pos (by assumption)]; exact ⟨rfl, by assumption⟩) | (rw [zif_neg (by omega), zif_neg (by assumption)]; exact ⟨rfl, by assumption⟩))
        · refine z_aload_nZ (pc := 63) C dX6_goOn_63 rfl rfl ?_
          refine z_iconst (pc := 64) C dX6_goOn_64 ?_
          refine z_aload_nZ (pc := 65) C dX6_goOn_65 rfl rfl ?_
          refine z_getI (pc := 66) C fX6_187 sh31 rfl dX6_goOn_66 ?_
          refine z_callVv (pc := 69) (rest := []) C (C_X6_fail E σ hR 2 (zRgL rfl) (σ 31 35) (hR 31 _)) vX6_212 (by decide) sh31 rfl rfl rfl (Nat.le_of_ble_eq_true rfl) dX6_goOn_69 (fun σ_69 hR_69 hp_69 => ?_)
          refine z_goto (pc := 72) C 157 dX6_goOn_72 rfl ?_
          refine z_iconst (pc := 157) C dX6_goOn_157 ?_
          refine hret 158 _ _ _ dX6_goOn_158 (Or.inl rfl) hR_69 ?_
          unfold mgo mgoE
          first
          | (rw [zif_pos (by assumption), zif_pos (by assumption)]; exact ⟨rfl, by assumption⟩)
          | (rw [zif_pos (by assumption), zif_neg (by omega), zif_pos (by assumption)]; exact ⟨rfl, by assumption⟩)
          | (rw [zif_neg (by assumption), zif_pos (by omega)]; exact ⟨rfl, by assumption⟩)
          | (obtain ⟨w1, w2, w3⟩ := hzd.resolve_left (fun w => by omega); rw [zif_neg (by assumption), zif_neg (by omega), ← w1]; first | (rw [zif_pos (by assumption), zif_pos (by assumption)]; exact ⟨rfl, by assumption⟩) | (rw [zif_pos (by assumption), zif_neg (by omega), zif_pos (by assumption)]; exact ⟨rfl, by assumption⟩) | (rw [zif_neg (by omega), zif_pos (by assumption)]; exact ⟨rfl, by assumption⟩) | (rw [zif_neg (by omega), zif_neg (by assumption)]; exact ⟨rfl, by assumption⟩))
    · have c_32 := zb1 ht c_32
      refine z_bipush (pc := 35) C dX6_goOn_35 (by decide) ?_
      refine z_goto (pc := 37) C 54 dX6_goOn_37 rfl ?_
      refine z_istore_n (pc := 54) (lv' := [some (zrf E 31), some (ziv t), some (ziv ((-10)))]) C hN dX6_goOn_54 rfl (by decide) rfl ?_
      refine z_iload_n (pc := 55) C dX6_goOn_55 rfl rfl ?_
      refine z_if_ne (pc := 56) C 75 (zRg01 (zb01 ht)) dX6_goOn_56 rfl (fun c_56 => ?_) (fun c_56 => ?_)
      · have c_56 := zb1 ht c_56
        refine z_iload_n (pc := 75) C dX6_goOn_75 rfl rfl ?_
        refine z_if_ne (pc := 76) C 118 (zRg01 (zb01 ht)) dX6_goOn_76 rfl (fun c_76 => ?_) (fun c_76 => ?_)
        · have c_76 := zb1 ht c_76
          refine z_aload_nZ (pc := 118) C dX6_goOn_118 rfl rfl ?_
          refine z_getI (pc := 119) C fX6_184 sh31 rfl dX6_goOn_119 ?_
          refine z_if_le (pc := 122) C 132 (hR 31 _) dX6_goOn_122 rfl (fun c_122 => ?_) (fun c_122 => ?_)
          · refine z_aload_nZ (pc := 132) C dX6_goOn_132 rfl rfl ?_
            refine z_getI (pc := 133) C fX6_187 sh31 rfl dX6_goOn_133 ?_
            refine z_aload_nZ (pc := 136) C dX6_goOn_136 rfl rfl ?_
            refine z_getI (pc := 137) C fX6_197 sh31 rfl dX6_goOn_137 ?_
            refine z_icmp_ge (pc := 140) C 155 (hR 31 _) (hR 31 _) dX6_goOn_140 rfl (fun c_140 => ?_) (fun c_140 => ?_)
            · refine z_iconst (pc := 155) C dX6_goOn_155 ?_
              refine hret 156 _ _ _ dX6_goOn_156 (Or.inr rfl) hR ?_
              unfold mgo mgoE
              first
              | (rw [zif_pos (by assumption), zif_neg (by omega), zif_neg (by omega)]; exact ⟨rfl, rfl⟩)
              | (obtain ⟨w1, w2, w3⟩ := hzd.resolve_left (fun w => by omega); rw [zif_neg (by assumption), zif_neg (by omega), ← w1, zif_pos (by assumption), zif_neg (by omega), zif_neg (by omega)]; exact ⟨rfl, rfl⟩)
            · refine z_aload_nZ (pc := 143) C dX6_goOn_143 rfl rfl ?_
              refine z_iconst (pc := 144) C dX6_goOn_144 ?_
              refine z_aload_nZ (pc := 145) C dX6_goOn_145 rfl rfl ?_
              refine z_getI (pc := 146) C fX6_187 sh31 rfl dX6_goOn_146 ?_
              refine z_callVv (pc := 149) (rest := []) C (C_X6_fail E σ hR 4 (zRgL rfl) (σ 31 35) (hR 31 _)) vX6_212 (by decide) sh31 rfl rfl rfl (Nat.le_of_ble_eq_true rfl) dX6_goOn_149 (fun σ_149 hR_149 hp_149 => ?_)
              refine z_goto (pc := 152) C 157 dX6_goOn_152 rfl ?_
              refine z_iconst (pc := 157) C dX6_goOn_157 ?_
              refine hret 158 _ _ _ dX6_goOn_158 (Or.inl rfl) hR_149 ?_
              unfold mgo mgoE
              first
              | (rw [zif_pos (by assumption), zif_pos (by assumption)]; exact ⟨rfl, by assumption⟩)
              | (rw [zif_pos (by assumption), zif_neg (by omega), zif_pos (by assumption)]; exact ⟨rfl, by assumption⟩)
              | (rw [zif_neg (by assumption), zif_pos (by omega)]; exact ⟨rfl, by assumption⟩)
              | (obtain ⟨w1, w2, w3⟩ := hzd.resolve_left (fun w => by omega); rw [zif_neg (by assumption), zif_neg (by omega), ← w1]; first | (rw [zif_pos (by assumption), zif_pos (by assumption)]; exact ⟨rfl, by assumption⟩) | (rw [zif_pos (by assumption), zif_neg (by omega), zif_pos (by assumption)]; exact ⟨rfl, by assumption⟩) | (rw [zif_neg (by omega), zif_pos (by assumption)]; exact ⟨rfl, by assumption⟩) | (rw [zif_neg (by omega), zif_neg (by assumption)]; exact ⟨rfl, by assumption⟩))
          · refine z_aload_nZ (pc := 125) C dX6_goOn_125 rfl rfl ?_
            refine z_callVv (pc := 126) (rest := []) C (C_X6_endCall E σ hR hI hM9 hL (by assumption) (hfo (by assumption))) vX6_225 (by decide) sh31 rfl rfl rfl (Nat.le_of_ble_eq_true rfl) dX6_goOn_126 (fun σ_126 hR_126 hp_126 => ?_)
            refine z_goto (pc := 129) C 157 dX6_goOn_129 rfl ?_
            refine z_iconst (pc := 157) C dX6_goOn_157 ?_
            refine hret 158 _ _ _ dX6_goOn_158 (Or.inl rfl) hR_126 ?_
            unfold mgo mgoE
            first
            | (rw [zif_pos (by assumption), zif_pos (by assumption)]; exact ⟨rfl, by assumption⟩)
            | (rw [zif_pos (by assumption), zif_neg (by omega), zif_pos (by assumption)]; exact ⟨rfl, by assumption⟩)
            | (rw [zif_neg (by assumption), zif_pos (by omega)]; exact ⟨rfl, by assumption⟩)
            | (obtain ⟨w1, w2, w3⟩ := hzd.resolve_left (fun w => by omega); rw [zif_neg (by assumption), zif_neg (by omega), ← w1]; first | (rw [zif_pos (by assumption), zif_pos (by assumption)]; exact ⟨rfl, by assumption⟩) | (rw [zif_pos (by assumption), zif_neg (by omega), zif_pos (by assumption)]; exact ⟨rfl, by assumption⟩) | (rw [zif_neg (by omega), zif_pos (by assumption)]; exact ⟨rfl, by assumption⟩) | (rw [zif_neg (by omega), zif_neg (by assumption)]; exact ⟨rfl, by assumption⟩))
        · have c_76 := zb0 ht c_76
          exact absurd c_32 c_76
      · have c_56 := zb0 ht c_56
        exact absurd c_32 c_56
  refine z_aload_nZ (pc := 0) C dX6_goOn_0 rfl rfl ?_
  refine z_getI (pc := 1) C fX6_187 sh31 rfl dX6_goOn_1 ?_
  refine z_aload_nZ (pc := 4) C dX6_goOn_4 rfl rfl ?_
  refine z_getI (pc := 5) C fX6_197 sh31 rfl dX6_goOn_5 ?_
  refine z_icmp_eq (pc := 8) C 25 (hR 31 _) (hR 31 _) dX6_goOn_8 rfl (fun c_8 => ?_) (fun c_8 => ?_)
  · refine z_iconst (pc := 25) C dX6_goOn_25 ?_
    refine z_goto (pc := 26) C 30 dX6_goOn_26 rfl ?_
    exact L30 _ (by first | exact zb_one (Or.inl (by assumption)) | exact zb_one (Or.inr (by assumption)) | exact zb_zero (fun w => by rcases w with w | w <;> contradiction)) (by omega)
  · refine z_aload_nZ (pc := 11) C dX6_goOn_11 rfl rfl ?_
    refine z_getR (pc := 12) C fX6_69 sh31 rfl dX6_goOn_12 ?_
    refine z_aload_nZ (pc := 15) C dX6_goOn_15 rfl rfl ?_
    refine z_getI (pc := 16) C fX6_187 sh31 rfl dX6_goOn_16 ?_
    refine z_iald (pc := 19) C sh48 (by (try unfold zRg at *); (try simp only [IX, IM] at *); omega) (by (try unfold zRg at *); (try simp only [IX, IM] at *); omega) dX6_goOn_19 ?_
    refine z_bipush (pc := 20) C dX6_goOn_20 (by decide) ?_
    refine z_icmp_ne (pc := 22) C 29 (hR 48 _) (zRgL rfl) dX6_goOn_22 rfl (fun c_22 => ?_) (fun c_22 => ?_)
    · refine z_iconst (pc := 29) C dX6_goOn_29 ?_
      exact L30 _ (by first | exact zb_one (Or.inl (by assumption)) | exact zb_one (Or.inr (by assumption)) | exact zb_zero (fun w => by rcases w with w | w <;> contradiction)) (by omega)
    · refine z_iconst (pc := 25) C dX6_goOn_25 ?_
      refine z_goto (pc := 26) C 30 dX6_goOn_26 rfl ?_
      exact L30 _ (by first | exact zb_one (Or.inl (by assumption)) | exact zb_one (Or.inr (by assumption)) | exact zb_zero (fun w => by rcases w with w | w <;> contradiction)) (by omega)
