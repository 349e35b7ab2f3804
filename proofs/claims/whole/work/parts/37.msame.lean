set_option maxRecDepth 20000 in
theorem C_X6_areEqual (E : ZE) (σ : ZSt) (hR : zRs σ) (a : Int) (ha : zRg a) (b : Int) (hb : zRg b) (τ : ZSt) (hI : IM σ) (w7 : W7 τ) (wq : WN τ 7) (s7 : SNd τ σ 7 37) (sq : SNd τ σ 7 37) (hn7 : τ 7 5 = σ 31 11) (h100 : τ 7 5 ≤ 100) : ZMi E 2 yX6_areEqual cX6_areEqual 6 (some .int) [zrf E 31, ziv a, ziv b] σ (fun r σ' => (r = if (0 ≤ a ∧ a < σ 31 11) ∧ (0 ≤ b ∧ b < σ 31 11) then zb (SM τ 7 a b) else -1) ∧ Only45 σ σ') := by
  refine ZMi.intro (by decide) rfl (Nat.le_of_ble_eq_true rfl) (fun Γ C hN hret => ?_)
  show ZG E Γ 0 [some (zrf E 31), some (ziv a), some (ziv b), none, none, none] [] σ
  refine z_aload_nZ (pc := 0) C dX6_areEqual_0 rfl rfl ?_
  refine z_iload_n (pc := 1) C dX6_areEqual_1 rfl rfl ?_
  refine z_callVp (pc := 2) (rest := []) C (C_X6_isNode E σ hR a ha hI) vX6_116 (by decide) sh31 rfl rfl rfl (Nat.le_of_ble_eq_true rfl) dX6_areEqual_2 (fun r_2 g_2 hp_2 => ?_)
  refine z_if_eq (pc := 5) C 16 g_2 dX6_areEqual_5 rfl (fun c_5 => ?_) (fun c_5 => ?_)
  · have c_5 := zb0 hp_2 c_5
    refine z_iconst (pc := 16) C dX6_areEqual_16 ?_
    refine hret 17 _ _ _ dX6_areEqual_17 (zRgL rfl) hR ?_
    exact ⟨by rw [if_neg (by omega)], fun c hc => rfl⟩
  · have c_5 := zb1 hp_2 c_5
    refine z_aload_nZ (pc := 8) C dX6_areEqual_8 rfl rfl ?_
    refine z_iload_n (pc := 9) C dX6_areEqual_9 rfl rfl ?_
    refine z_callVp (pc := 10) (rest := []) C (C_X6_isNode E σ hR b hb hI) vX6_116 (by decide) sh31 rfl rfl rfl (Nat.le_of_ble_eq_true rfl) dX6_areEqual_10 (fun r_10 g_10 hp_10 => ?_)
    refine z_if_ne (pc := 13) C 18 g_10 dX6_areEqual_13 rfl (fun c_13 => ?_) (fun c_13 => ?_)
    · have c_13 := zb1 hp_10 c_13
      refine z_iconst (pc := 18) C dX6_areEqual_18 ?_
      refine z_istore_n (pc := 19) (lv' := [some (zrf E 31), some (ziv a), some (ziv b), some (ziv 1), none, none]) C hN dX6_areEqual_19 rfl (by decide) rfl ?_
      refine z_aload_nZ (pc := 20) C dX6_areEqual_20 rfl rfl ?_
      refine z_getR (pc := 21) C fX6_57 sh31 rfl dX6_areEqual_21 ?_
      refine z_iconst (pc := 24) C dX6_areEqual_24 ?_
      refine z_iload_n (pc := 25) C dX6_areEqual_25 rfl rfl ?_
      refine z_iast (pc := 26) C hR sh44 (by (try unfold zRg at *); (try simp only [IX, IM] at *); omega) (by (try unfold zRg at *); (try simp only [IX, IM] at *); omega) ha dX6_areEqual_26 (fun σ_26 e_26 hR_26 => ?_)
      have hI_26 : IM σ_26 := by rw [e_26]; exact hI.upA rfl
      refine z_aload_nZ (pc := 27) C dX6_areEqual_27 rfl rfl ?_
      refine z_getR (pc := 28) C fX6_60 sh31 rfl dX6_areEqual_28 ?_
      refine z_iconst (pc := 31) C dX6_areEqual_31 ?_
      refine z_iload_n (pc := 32) C dX6_areEqual_32 rfl rfl ?_
      refine z_iast (pc := 33) C hR_26 sh45 (by (try unfold zRg at *); (try simp only [IX, IM] at *); omega) (by (try unfold zRg at *); (try simp only [IX, IM] at *); omega) hb dX6_areEqual_33 (fun σ_33 e_33 hR_33 => ?_)
      have hI_33 : IM σ_33 := by rw [e_33]; exact hI_26.upA rfl
      have L34 : ∀ (n : Nat) (u : Int) (ρ : ZSt), zRg u → zRs ρ → Only45 σ ρ → EJ τ 7 (ρ 44) (ρ 45) u (SM τ 7 a b) → (zwt τ (ρ 44) u.toNat).toNat < n → ZG E Γ 34 [some (zrf E 31), some (ziv a), some (ziv b), some (ziv u), none, none] [] ρ := by
        intro n
        induction n with
        | zero => intro u ρ hnr hRr ho hj hm; exact absurd hm (by omega)
        | succ n ih =>
          intro u ρ hnr hRr ho hj hm
          have hsm := hj.small w7
          have hIr : IM ρ := hI.only ho
          have hnn := hj.1
          refine z_iload_n (pc := 34) C dX6_areEqual_34 rfl rfl ?_
          refine z_if_le (pc := 35) C 174 hnr dX6_areEqual_35 rfl (fun c_35 => ?_) (fun c_35 => ?_)
          · refine z_iconst (pc := 174) C dX6_areEqual_174 ?_
            refine hret 175 _ _ _ dX6_areEqual_175 (zRgL rfl) hRr ?_
            refine ⟨?_, ho⟩
            rw [if_pos ⟨by assumption, by assumption⟩]
            exact zb_one (hj.done (by assumption))
          · have hn1 : u + -1 = u - 1 := by omega
            obtain ⟨ht1, ht2⟩ := hj.top c_35
            have hpc := pop_cases w7 wq s7 sq ht1 ht2
            simp only [Nat.reduceAdd] at hpc
            refine z_iinc (pc := 38) (lv' := [some (zrf E 31), some (ziv a), some (ziv b), some (ziv (u + (-1))), none, none]) C hN dX6_areEqual_38 (by decide) rfl rfl ?_
            refine z_aload_nZ (pc := 41) C dX6_areEqual_41 rfl rfl ?_
            refine z_getR (pc := 42) C fX6_57 sh31 rfl dX6_areEqual_42 ?_
            refine z_iload_n (pc := 45) C dX6_areEqual_45 rfl rfl ?_
            refine z_ialde (pc := 46) (v := ρ 44 (u - 1).toNat) C sh44 (by omega) (by omega) dX6_areEqual_46 (by rw [hn1]) ?_
            refine z_istore (pc := 47) (lv' := [some (zrf E 31), some (ziv a), some (ziv b), some (ziv (u + (-1))), some (ziv (ρ 44 (u - 1).toNat)), none]) C hN dX6_areEqual_47 (by decide) rfl ?_
            refine z_aload_nZ (pc := 49) C dX6_areEqual_49 rfl rfl ?_
            refine z_getR (pc := 50) C fX6_60 sh31 rfl dX6_areEqual_50 ?_
            refine z_iload_n (pc := 53) C dX6_areEqual_53 rfl rfl ?_
            refine z_ialde (pc := 54) (v := ρ 45 (u - 1).toNat) C sh45 (by omega) (by omega) dX6_areEqual_54 (by rw [hn1]) ?_
            refine z_istore (pc := 55) (lv' := [some (zrf E 31), some (ziv a), some (ziv b), some (ziv (u + (-1))), some (ziv (ρ 44 (u - 1).toNat)), some (ziv (ρ 45 (u - 1).toNat))]) C hN dX6_areEqual_55 (by decide) rfl ?_
            refine z_aload_nZ (pc := 57) C dX6_areEqual_57 rfl rfl ?_
            refine z_getR (pc := 58) C fX6_26 sh31 rfl dX6_areEqual_58 ?_
            refine z_iload (pc := 61) C dX6_areEqual_61 rfl ?_
            refine z_ialde (pc := 63) (v := σ 37 (ρ 44 (u - 1).toNat).toNat) C sh37 (by omega) (by omega) dX6_areEqual_63 (by first | (rw [ho 37 (by decide)]) | (rw [e_115, zup_row (by decide), ho 37 (by decide)]) | (rw [e_128, zup_row (by decide), e_115, zup_row (by decide), ho 37 (by decide)]) | (rw [e_154, zup_row (by decide), e_128, zup_row (by decide), e_115, zup_row (by decide), ho 37 (by decide)]) | (rw [e_154, zup_row (by decide), ho 37 (by decide)])) ?_
            refine z_aload_nZ (pc := 64) C dX6_areEqual_64 rfl rfl ?_
            refine z_getR (pc := 65) C fX6_26 sh31 rfl dX6_areEqual_65 ?_
            refine z_iload (pc := 68) C dX6_areEqual_68 rfl ?_
            refine z_ialde (pc := 70) (v := σ 37 (ρ 45 (u - 1).toNat).toNat) C sh37 (by omega) (by omega) dX6_areEqual_70 (by first | (rw [ho 37 (by decide)]) | (rw [e_115, zup_row (by decide), ho 37 (by decide)]) | (rw [e_128, zup_row (by decide), e_115, zup_row (by decide), ho 37 (by decide)]) | (rw [e_154, zup_row (by decide), e_128, zup_row (by decide), e_115, zup_row (by decide), ho 37 (by decide)]) | (rw [e_154, zup_row (by decide), ho 37 (by decide)])) ?_
            refine z_icmp_ne (pc := 71) C 91 (hR 37 _) (hR 37 _) dX6_areEqual_71 rfl (fun c_71 => ?_) (fun c_71 => ?_)
            · refine z_iconst (pc := 91) C dX6_areEqual_91 ?_
              refine hret 92 _ _ _ dX6_areEqual_92 (zRgL rfl) hRr ?_
              refine ⟨?_, ho⟩
              rw [if_pos ⟨by assumption, by assumption⟩]
              exact zb_zero (hj.no (by assumption) (hpc.1 (by first | (left; assumption) | (right; assumption))))
            · refine z_aload_nZ (pc := 74) C dX6_areEqual_74 rfl rfl ?_
              refine z_getR (pc := 75) C fX6_29 sh31 rfl dX6_areEqual_75 ?_
              refine z_iload (pc := 78) C dX6_areEqual_78 rfl ?_
              refine z_ialde (pc := 80) (v := σ 38 (ρ 44 (u - 1).toNat).toNat) C sh38 (by omega) (by omega) dX6_areEqual_80 (by first | (rw [ho 38 (by decide)]) | (rw [e_115, zup_row (by decide), ho 38 (by decide)]) | (rw [e_128, zup_row (by decide), e_115, zup_row (by decide), ho 38 (by decide)]) | (rw [e_154, zup_row (by decide), e_128, zup_row (by decide), e_115, zup_row (by decide), ho 38 (by decide)]) | (rw [e_154, zup_row (by decide), ho 38 (by decide)])) ?_
              refine z_aload_nZ (pc := 81) C dX6_areEqual_81 rfl rfl ?_
              refine z_getR (pc := 82) C fX6_29 sh31 rfl dX6_areEqual_82 ?_
              refine z_iload (pc := 85) C dX6_areEqual_85 rfl ?_
              refine z_ialde (pc := 87) (v := σ 38 (ρ 45 (u - 1).toNat).toNat) C sh38 (by omega) (by omega) dX6_areEqual_87 (by first | (rw [ho 38 (by decide)]) | (rw [e_115, zup_row (by decide), ho 38 (by decide)]) | (rw [e_128, zup_row (by decide), e_115, zup_row (by decide), ho 38 (by decide)]) | (rw [e_154, zup_row (by decide), e_128, zup_row (by decide), e_115, zup_row (by decide), ho 38 (by decide)]) | (rw [e_154, zup_row (by decide), ho 38 (by decide)])) ?_
              refine z_icmp_eq (pc := 88) C 93 (hR 38 _) (hR 38 _) dX6_areEqual_88 rfl (fun c_88 => ?_) (fun c_88 => ?_)
              · refine z_aload_nZ (pc := 93) C dX6_areEqual_93 rfl rfl ?_
                refine z_getR (pc := 94) C fX6_32 sh31 rfl dX6_areEqual_94 ?_
                refine z_iload (pc := 97) C dX6_areEqual_97 rfl ?_
                refine z_ialde (pc := 99) (v := σ 39 (ρ 44 (u - 1).toNat).toNat) C sh39 (by omega) (by omega) dX6_areEqual_99 (by first | (rw [ho 39 (by decide)]) | (rw [e_115, zup_row (by decide), ho 39 (by decide)]) | (rw [e_128, zup_row (by decide), e_115, zup_row (by decide), ho 39 (by decide)]) | (rw [e_154, zup_row (by decide), e_128, zup_row (by decide), e_115, zup_row (by decide), ho 39 (by decide)]) | (rw [e_154, zup_row (by decide), ho 39 (by decide)])) ?_
                refine z_if_lt (pc := 100) C 132 (hR 39 _) dX6_areEqual_100 rfl (fun c_100 => ?_) (fun c_100 => ?_)
                · refine z_aload_nZ (pc := 132) C dX6_areEqual_132 rfl rfl ?_
                  refine z_getR (pc := 133) C fX6_35 sh31 rfl dX6_areEqual_133 ?_
                  refine z_iload (pc := 136) C dX6_areEqual_136 rfl ?_
                  refine z_ialde (pc := 138) (v := σ 40 (ρ 44 (u - 1).toNat).toNat) C sh40 (by omega) (by omega) dX6_areEqual_138 (by first | (rw [ho 40 (by decide)]) | (rw [e_115, zup_row (by decide), ho 40 (by decide)]) | (rw [e_128, zup_row (by decide), e_115, zup_row (by decide), ho 40 (by decide)]) | (rw [e_154, zup_row (by decide), e_128, zup_row (by decide), e_115, zup_row (by decide), ho 40 (by decide)]) | (rw [e_154, zup_row (by decide), ho 40 (by decide)])) ?_
                  refine z_if_lt (pc := 139) C 171 (hR 40 _) dX6_areEqual_139 rfl (fun c_139 => ?_) (fun c_139 => ?_)
                  · refine z_goto (pc := 171) C 34 dX6_areEqual_171 rfl ?_
                    refine z_weak (lv' := [some (zrf E 31), some (ziv a), some (ziv b), some (ziv (u + (-1))), none, none]) ⟨rfl, rfl, rfl, rfl, trivial⟩ ?_
                    have hwn : u ≤ zwt τ (ρ 44) u.toNat := by have := zwt_ge w7 (F := ρ 44) u.toNat (fun i hi => (hj.2.1 i (by omega)).1); omega
                    have hrow : ∀ c, c ≠ 44 ∧ c ≠ 45 → ρ c = σ c := ho
                    have hpc2 := hpc.2 ⟨by assumption, by assumption⟩
                    rcases hpc2 with ⟨p1, p2, p3⟩ | ⟨p2, p3, p4, p5, p6⟩ | ⟨p1, p2, p3, p4, p5, p6⟩
                    · first
                      | (exfalso; omega)
                      | (obtain ⟨j1, j2⟩ := hj.leaf w7 (by assumption) p3; exact ih (u + (-1)) ρ (by unfold zRg; omega) hRr ho (by rw [hn1]; exact j1) (by rw [hn1]; omega))
                    · first
                      | (exfalso; omega)
                      | (obtain ⟨j1, j2⟩ := hj.one (by assumption) p3 p4 p5 p6; exact ih (u + (-1)) ρ (by unfold zRg; omega) hRr (by rw [e_128, e_115]; exact (ho.up (Or.inl rfl)).up (Or.inr rfl)) (by rw [show u + -1 + 1 = u by omega, show σ_128 44 = fup (ρ 44) (u - 1).toNat (σ 39 (ρ 44 (u - 1).toNat).toNat) by rw [e_128, zup_row (by decide), e_115, zup_fup, hn1], show σ_128 45 = fup (ρ 45) (u - 1).toNat (σ 39 (ρ 45 (u - 1).toNat).toNat) by rw [e_128, zup_fup, e_115, zup_row (by decide), hn1]]; exact j1) (by rw [show u + -1 + 1 = u by omega, show σ_128 44 = fup (ρ 44) (u - 1).toNat (σ 39 (ρ 44 (u - 1).toNat).toNat) by rw [e_128, zup_row (by decide), e_115, zup_fup, hn1]]; omega))
                    · first
                      | (exfalso; omega)
                      | (obtain ⟨j1, j2⟩ := hj.two (by assumption) p1 p3 p2 p4 p5 p6; exact ih (u + (-1)) ρ (by unfold zRg; omega) hRr (by rw [e_167, e_154, e_128, e_115]; exact (((ho.up (Or.inl rfl)).up (Or.inr rfl)).up (Or.inl rfl)).up (Or.inr rfl)) (by rw [show u + -1 + 1 + 1 = u + 1 by omega, show σ_167 44 = fup (fup (ρ 44) (u - 1).toNat (σ 39 (ρ 44 (u - 1).toNat).toNat)) u.toNat (σ 40 (ρ 44 (u - 1).toNat).toNat) by rw [e_167, zup_row (by decide), e_154, zup_fup, e_128, zup_row (by decide), e_115, zup_fup, show u + -1 + 1 = u by omega, hn1], show σ_167 45 = fup (fup (ρ 45) (u - 1).toNat (σ 39 (ρ 45 (u - 1).toNat).toNat)) u.toNat (σ 40 (ρ 45 (u - 1).toNat).toNat) by rw [e_167, zup_fup, e_154, zup_row (by decide), e_128, zup_fup, e_115, zup_row (by decide), show u + -1 + 1 = u by omega, hn1]]; exact j1) (by rw [show u + -1 + 1 + 1 = u + 1 by omega, show σ_167 44 = fup (fup (ρ 44) (u - 1).toNat (σ 39 (ρ 44 (u - 1).toNat).toNat)) u.toNat (σ 40 (ρ 44 (u - 1).toNat).toNat) by rw [e_167, zup_row (by decide), e_154, zup_fup, e_128, zup_row (by decide), e_115, zup_fup, show u + -1 + 1 = u by omega, hn1]]; omega))
                  · refine z_aload_nZ (pc := 142) C dX6_areEqual_142 rfl rfl ?_
                    refine z_getR (pc := 143) C fX6_57 sh31 rfl dX6_areEqual_143 ?_
                    refine z_iload_n (pc := 146) C dX6_areEqual_146 rfl rfl ?_
                    refine z_aload_nZ (pc := 147) C dX6_areEqual_147 rfl rfl ?_
                    refine z_getR (pc := 148) C fX6_35 sh31 rfl dX6_areEqual_148 ?_
                    refine z_iload (pc := 151) C dX6_areEqual_151 rfl ?_
                    refine z_ialde (pc := 153) (v := σ 40 (ρ 44 (u - 1).toNat).toNat) C sh40 (by omega) (by omega) dX6_areEqual_153 (by first | (rw [ho 40 (by decide)]) | (rw [e_115, zup_row (by decide), ho 40 (by decide)]) | (rw [e_128, zup_row (by decide), e_115, zup_row (by decide), ho 40 (by decide)]) | (rw [e_154, zup_row (by decide), e_128, zup_row (by decide), e_115, zup_row (by decide), ho 40 (by decide)]) | (rw [e_154, zup_row (by decide), ho 40 (by decide)])) ?_
                    refine z_iast (pc := 154) C hRr sh44 (by omega) (by omega) (hR 40 _) dX6_areEqual_154 (fun σ_154 e_154 hR_154 => ?_)
                    have hI_154 : IM σ_154 := by rw [e_154]; exact hIr.upA rfl
                    refine z_aload_nZ (pc := 155) C dX6_areEqual_155 rfl rfl ?_
                    refine z_getR (pc := 156) C fX6_60 sh31 rfl dX6_areEqual_156 ?_
                    refine z_iload_n (pc := 159) C dX6_areEqual_159 rfl rfl ?_
                    refine z_aload_nZ (pc := 160) C dX6_areEqual_160 rfl rfl ?_
                    refine z_getR (pc := 161) C fX6_35 sh31 rfl dX6_areEqual_161 ?_
                    refine z_iload (pc := 164) C dX6_areEqual_164 rfl ?_
                    refine z_ialde (pc := 166) (v := σ 40 (ρ 45 (u - 1).toNat).toNat) C sh40 (by omega) (by omega) dX6_areEqual_166 (by first | (rw [ho 40 (by decide)]) | (rw [e_115, zup_row (by decide), ho 40 (by decide)]) | (rw [e_128, zup_row (by decide), e_115, zup_row (by decide), ho 40 (by decide)]) | (rw [e_154, zup_row (by decide), e_128, zup_row (by decide), e_115, zup_row (by decide), ho 40 (by decide)]) | (rw [e_154, zup_row (by decide), ho 40 (by decide)])) ?_
                    refine z_iast (pc := 167) C hR_154 sh45 (by omega) (by omega) (hR 40 _) dX6_areEqual_167 (fun σ_167 e_167 hR_167 => ?_)
                    have hI_167 : IM σ_167 := by rw [e_167]; exact hI_154.upA rfl
                    refine z_iinc (pc := 168) (lv' := [some (zrf E 31), some (ziv a), some (ziv b), some (ziv (u + (-1) + 1)), some (ziv (ρ 44 (u - 1).toNat)), some (ziv (ρ 45 (u - 1).toNat))]) C hN dX6_areEqual_168 (by decide) rfl rfl ?_
                    refine z_goto (pc := 171) C 34 dX6_areEqual_171 rfl ?_
                    refine z_weak (lv' := [some (zrf E 31), some (ziv a), some (ziv b), some (ziv (u + (-1) + 1)), none, none]) ⟨rfl, rfl, rfl, rfl, trivial⟩ ?_
                    have hwn : u ≤ zwt τ (ρ 44) u.toNat := by have := zwt_ge w7 (F := ρ 44) u.toNat (fun i hi => (hj.2.1 i (by omega)).1); omega
                    have hrow : ∀ c, c ≠ 44 ∧ c ≠ 45 → ρ c = σ c := ho
                    have hpc2 := hpc.2 ⟨by assumption, by assumption⟩
                    rcases hpc2 with ⟨p1, p2, p3⟩ | ⟨p2, p3, p4, p5, p6⟩ | ⟨p1, p2, p3, p4, p5, p6⟩
                    · first
                      | (exfalso; omega)
                      | (obtain ⟨j1, j2⟩ := hj.leaf w7 (by assumption) p3; exact ih (u + (-1) + 1) σ_167 (by unfold zRg; omega) hR_167 ho (by rw [hn1]; exact j1) (by rw [hn1]; omega))
                    · first
                      | (exfalso; omega)
                      | (obtain ⟨j1, j2⟩ := hj.one (by assumption) p3 p4 p5 p6; exact ih (u + (-1) + 1) σ_167 (by unfold zRg; omega) hR_167 (by rw [e_128, e_115]; exact (ho.up (Or.inl rfl)).up (Or.inr rfl)) (by rw [show u + -1 + 1 = u by omega, show σ_128 44 = fup (ρ 44) (u - 1).toNat (σ 39 (ρ 44 (u - 1).toNat).toNat) by rw [e_128, zup_row (by decide), e_115, zup_fup, hn1], show σ_128 45 = fup (ρ 45) (u - 1).toNat (σ 39 (ρ 45 (u - 1).toNat).toNat) by rw [e_128, zup_fup, e_115, zup_row (by decide), hn1]]; exact j1) (by rw [show u + -1 + 1 = u by omega, show σ_128 44 = fup (ρ 44) (u - 1).toNat (σ 39 (ρ 44 (u - 1).toNat).toNat) by rw [e_128, zup_row (by decide), e_115, zup_fup, hn1]]; omega))
                    · first
                      | (exfalso; omega)
                      | (obtain ⟨j1, j2⟩ := hj.two (by assumption) p1 p3 p2 p4 p5 p6; exact ih (u + (-1) + 1) σ_167 (by unfold zRg; omega) hR_167 (by rw [e_167, e_154, e_128, e_115]; exact (((ho.up (Or.inl rfl)).up (Or.inr rfl)).up (Or.inl rfl)).up (Or.inr rfl)) (by rw [show u + -1 + 1 + 1 = u + 1 by omega, show σ_167 44 = fup (fup (ρ 44) (u - 1).toNat (σ 39 (ρ 44 (u - 1).toNat).toNat)) u.toNat (σ 40 (ρ 44 (u - 1).toNat).toNat) by rw [e_167, zup_row (by decide), e_154, zup_fup, e_128, zup_row (by decide), e_115, zup_fup, show u + -1 + 1 = u by omega, hn1], show σ_167 45 = fup (fup (ρ 45) (u - 1).toNat (σ 39 (ρ 45 (u - 1).toNat).toNat)) u.toNat (σ 40 (ρ 45 (u - 1).toNat).toNat) by rw [e_167, zup_fup, e_154, zup_row (by decide), e_128, zup_fup, e_115, zup_row (by decide), show u + -1 + 1 = u by omega, hn1]]; exact j1) (by rw [show u + -1 + 1 + 1 = u + 1 by omega, show σ_167 44 = fup (fup (ρ 44) (u - 1).toNat (σ 39 (ρ 44 (u - 1).toNat).toNat)) u.toNat (σ 40 (ρ 44 (u - 1).toNat).toNat) by rw [e_167, zup_row (by decide), e_154, zup_fup, e_128, zup_row (by decide), e_115, zup_fup, show u + -1 + 1 = u by omega, hn1]]; omega))
                · refine z_aload_nZ (pc := 103) C dX6_areEqual_103 rfl rfl ?_
                  refine z_getR (pc := 104) C fX6_57 sh31 rfl dX6_areEqual_104 ?_
                  refine z_iload_n (pc := 107) C dX6_areEqual_107 rfl rfl ?_
                  refine z_aload_nZ (pc := 108) C dX6_areEqual_108 rfl rfl ?_
                  refine z_getR (pc := 109) C fX6_32 sh31 rfl dX6_areEqual_109 ?_
                  refine z_iload (pc := 112) C dX6_areEqual_112 rfl ?_
                  refine z_ialde (pc := 114) (v := σ 39 (ρ 44 (u - 1).toNat).toNat) C sh39 (by omega) (by omega) dX6_areEqual_114 (by first | (rw [ho 39 (by decide)]) | (rw [e_115, zup_row (by decide), ho 39 (by decide)]) | (rw [e_128, zup_row (by decide), e_115, zup_row (by decide), ho 39 (by decide)]) | (rw [e_154, zup_row (by decide), e_128, zup_row (by decide), e_115, zup_row (by decide), ho 39 (by decide)]) | (rw [e_154, zup_row (by decide), ho 39 (by decide)])) ?_
                  refine z_iast (pc := 115) C hRr sh44 (by omega) (by omega) (hR 39 _) dX6_areEqual_115 (fun σ_115 e_115 hR_115 => ?_)
                  have hI_115 : IM σ_115 := by rw [e_115]; exact hIr.upA rfl
                  refine z_aload_nZ (pc := 116) C dX6_areEqual_116 rfl rfl ?_
                  refine z_getR (pc := 117) C fX6_60 sh31 rfl dX6_areEqual_117 ?_
                  refine z_iload_n (pc := 120) C dX6_areEqual_120 rfl rfl ?_
                  refine z_aload_nZ (pc := 121) C dX6_areEqual_121 rfl rfl ?_
                  refine z_getR (pc := 122) C fX6_32 sh31 rfl dX6_areEqual_122 ?_
                  refine z_iload (pc := 125) C dX6_areEqual_125 rfl ?_
                  refine z_ialde (pc := 127) (v := σ 39 (ρ 45 (u - 1).toNat).toNat) C sh39 (by omega) (by omega) dX6_areEqual_127 (by first | (rw [ho 39 (by decide)]) | (rw [e_115, zup_row (by decide), ho 39 (by decide)]) | (rw [e_128, zup_row (by decide), e_115, zup_row (by decide), ho 39 (by decide)]) | (rw [e_154, zup_row (by decide), e_128, zup_row (by decide), e_115, zup_row (by decide), ho 39 (by decide)]) | (rw [e_154, zup_row (by decide), ho 39 (by decide)])) ?_
                  refine z_iast (pc := 128) C hR_115 sh45 (by omega) (by omega) (hR 39 _) dX6_areEqual_128 (fun σ_128 e_128 hR_128 => ?_)
                  have hI_128 : IM σ_128 := by rw [e_128]; exact hI_115.upA rfl
                  refine z_iinc (pc := 129) (lv' := [some (zrf E 31), some (ziv a), some (ziv b), some (ziv (u + (-1) + 1)), some (ziv (ρ 44 (u - 1).toNat)), some (ziv (ρ 45 (u - 1).toNat))]) C hN dX6_areEqual_129 (by decide) rfl rfl ?_
                  refine z_aload_nZ (pc := 132) C dX6_areEqual_132 rfl rfl ?_
                  refine z_getR (pc := 133) C fX6_35 sh31 rfl dX6_areEqual_133 ?_
                  refine z_iload (pc := 136) C dX6_areEqual_136 rfl ?_
                  refine z_ialde (pc := 138) (v := σ 40 (ρ 44 (u - 1).toNat).toNat) C sh40 (by omega) (by omega) dX6_areEqual_138 (by first | (rw [ho 40 (by decide)]) | (rw [e_115, zup_row (by decide), ho 40 (by decide)]) | (rw [e_128, zup_row (by decide), e_115, zup_row (by decide), ho 40 (by decide)]) | (rw [e_154, zup_row (by decide), e_128, zup_row (by decide), e_115, zup_row (by decide), ho 40 (by decide)]) | (rw [e_154, zup_row (by decide), ho 40 (by decide)])) ?_
                  refine z_if_lt (pc := 139) C 171 (hR 40 _) dX6_areEqual_139 rfl (fun c_139 => ?_) (fun c_139 => ?_)
                  · refine z_goto (pc := 171) C 34 dX6_areEqual_171 rfl ?_
                    refine z_weak (lv' := [some (zrf E 31), some (ziv a), some (ziv b), some (ziv (u + (-1) + 1)), none, none]) ⟨rfl, rfl, rfl, rfl, trivial⟩ ?_
                    have hwn : u ≤ zwt τ (ρ 44) u.toNat := by have := zwt_ge w7 (F := ρ 44) u.toNat (fun i hi => (hj.2.1 i (by omega)).1); omega
                    have hrow : ∀ c, c ≠ 44 ∧ c ≠ 45 → ρ c = σ c := ho
                    have hpc2 := hpc.2 ⟨by assumption, by assumption⟩
                    rcases hpc2 with ⟨p1, p2, p3⟩ | ⟨p2, p3, p4, p5, p6⟩ | ⟨p1, p2, p3, p4, p5, p6⟩
                    · first
                      | (exfalso; omega)
                      | (obtain ⟨j1, j2⟩ := hj.leaf w7 (by assumption) p3; exact ih (u + (-1) + 1) σ_128 (by unfold zRg; omega) hR_128 ho (by rw [hn1]; exact j1) (by rw [hn1]; omega))
                    · first
                      | (exfalso; omega)
                      | (obtain ⟨j1, j2⟩ := hj.one (by assumption) p3 p4 p5 p6; exact ih (u + (-1) + 1) σ_128 (by unfold zRg; omega) hR_128 (by rw [e_128, e_115]; exact (ho.up (Or.inl rfl)).up (Or.inr rfl)) (by rw [show u + -1 + 1 = u by omega, show σ_128 44 = fup (ρ 44) (u - 1).toNat (σ 39 (ρ 44 (u - 1).toNat).toNat) by rw [e_128, zup_row (by decide), e_115, zup_fup, hn1], show σ_128 45 = fup (ρ 45) (u - 1).toNat (σ 39 (ρ 45 (u - 1).toNat).toNat) by rw [e_128, zup_fup, e_115, zup_row (by decide), hn1]]; exact j1) (by rw [show u + -1 + 1 = u by omega, show σ_128 44 = fup (ρ 44) (u - 1).toNat (σ 39 (ρ 44 (u - 1).toNat).toNat) by rw [e_128, zup_row (by decide), e_115, zup_fup, hn1]]; omega))
                    · first
                      | (exfalso; omega)
                      | (obtain ⟨j1, j2⟩ := hj.two (by assumption) p1 p3 p2 p4 p5 p6; exact ih (u + (-1) + 1) σ_128 (by unfold zRg; omega) hR_128 (by rw [e_167, e_154, e_128, e_115]; exact (((ho.up (Or.inl rfl)).up (Or.inr rfl)).up (Or.inl rfl)).up (Or.inr rfl)) (by rw [show u + -1 + 1 + 1 = u + 1 by omega, show σ_167 44 = fup (fup (ρ 44) (u - 1).toNat (σ 39 (ρ 44 (u - 1).toNat).toNat)) u.toNat (σ 40 (ρ 44 (u - 1).toNat).toNat) by rw [e_167, zup_row (by decide), e_154, zup_fup, e_128, zup_row (by decide), e_115, zup_fup, show u + -1 + 1 = u by omega, hn1], show σ_167 45 = fup (fup (ρ 45) (u - 1).toNat (σ 39 (ρ 45 (u - 1).toNat).toNat)) u.toNat (σ 40 (ρ 45 (u - 1).toNat).toNat) by rw [e_167, zup_fup, e_154, zup_row (by decide), e_128, zup_fup, e_115, zup_row (by decide), show u + -1 + 1 = u by omega, hn1]]; exact j1) (by rw [show u + -1 + 1 + 1 = u + 1 by omega, show σ_167 44 = fup (fup (ρ 44) (u - 1).toNat (σ 39 (ρ 44 (u - 1).toNat).toNat)) u.toNat (σ 40 (ρ 44 (u - 1).toNat).toNat) by rw [e_167, zup_row (by decide), e_154, zup_fup, e_128, zup_row (by decide), e_115, zup_fup, show u + -1 + 1 = u by omega, hn1]]; omega))
                  · refine z_aload_nZ (pc := 142) C dX6_areEqual_142 rfl rfl ?_
                    refine z_getR (pc := 143) C fX6_57 sh31 rfl dX6_areEqual_143 ?_
                    refine z_iload_n (pc := 146) C dX6_areEqual_146 rfl rfl ?_
                    refine z_aload_nZ (pc := 147) C dX6_areEqual_147 rfl rfl ?_
                    refine z_getR (pc := 148) C fX6_35 sh31 rfl dX6_areEqual_148 ?_
                    refine z_iload (pc := 151) C dX6_areEqual_151 rfl ?_
                    refine z_ialde (pc := 153) (v := σ 40 (ρ 44 (u - 1).toNat).toNat) C sh40 (by omega) (by omega) dX6_areEqual_153 (by first | (rw [ho 40 (by decide)]) | (rw [e_115, zup_row (by decide), ho 40 (by decide)]) | (rw [e_128, zup_row (by decide), e_115, zup_row (by decide), ho 40 (by decide)]) | (rw [e_154, zup_row (by decide), e_128, zup_row (by decide), e_115, zup_row (by decide), ho 40 (by decide)]) | (rw [e_154, zup_row (by decide), ho 40 (by decide)])) ?_
                    refine z_iast (pc := 154) C hR_128 sh44 (by omega) (by omega) (hR 40 _) dX6_areEqual_154 (fun σ_154 e_154 hR_154 => ?_)
                    have hI_154 : IM σ_154 := by rw [e_154]; exact hI_128.upA rfl
                    refine z_aload_nZ (pc := 155) C dX6_areEqual_155 rfl rfl ?_
                    refine z_getR (pc := 156) C fX6_60 sh31 rfl dX6_areEqual_156 ?_
                    refine z_iload_n (pc := 159) C dX6_areEqual_159 rfl rfl ?_
                    refine z_aload_nZ (pc := 160) C dX6_areEqual_160 rfl rfl ?_
                    refine z_getR (pc := 161) C fX6_35 sh31 rfl dX6_areEqual_161 ?_
                    refine z_iload (pc := 164) C dX6_areEqual_164 rfl ?_
                    refine z_ialde (pc := 166) (v := σ 40 (ρ 45 (u - 1).toNat).toNat) C sh40 (by omega) (by omega) dX6_areEqual_166 (by first | (rw [ho 40 (by decide)]) | (rw [e_115, zup_row (by decide), ho 40 (by decide)]) | (rw [e_128, zup_row (by decide), e_115, zup_row (by decide), ho 40 (by decide)]) | (rw [e_154, zup_row (by decide), e_128, zup_row (by decide), e_115, zup_row (by decide), ho 40 (by decide)]) | (rw [e_154, zup_row (by decide), ho 40 (by decide)])) ?_
                    refine z_iast (pc := 167) C hR_154 sh45 (by omega) (by omega) (hR 40 _) dX6_areEqual_167 (fun σ_167 e_167 hR_167 => ?_)
                    have hI_167 : IM σ_167 := by rw [e_167]; exact hI_154.upA rfl
                    refine z_iinc (pc := 168) (lv' := [some (zrf E 31), some (ziv a), some (ziv b), some (ziv (u + (-1) + 1 + 1)), some (ziv (ρ 44 (u - 1).toNat)), some (ziv (ρ 45 (u - 1).toNat))]) C hN dX6_areEqual_168 (by decide) rfl rfl ?_
                    refine z_goto (pc := 171) C 34 dX6_areEqual_171 rfl ?_
                    refine z_weak (lv' := [some (zrf E 31), some (ziv a), some (ziv b), some (ziv (u + (-1) + 1 + 1)), none, none]) ⟨rfl, rfl, rfl, rfl, trivial⟩ ?_
                    have hwn : u ≤ zwt τ (ρ 44) u.toNat := by have := zwt_ge w7 (F := ρ 44) u.toNat (fun i hi => (hj.2.1 i (by omega)).1); omega
                    have hrow : ∀ c, c ≠ 44 ∧ c ≠ 45 → ρ c = σ c := ho
                    have hpc2 := hpc.2 ⟨by assumption, by assumption⟩
                    rcases hpc2 with ⟨p1, p2, p3⟩ | ⟨p2, p3, p4, p5, p6⟩ | ⟨p1, p2, p3, p4, p5, p6⟩
                    · first
                      | (exfalso; omega)
                      | (obtain ⟨j1, j2⟩ := hj.leaf w7 (by assumption) p3; exact ih (u + (-1) + 1 + 1) σ_167 (by unfold zRg; omega) hR_167 ho (by rw [hn1]; exact j1) (by rw [hn1]; omega))
                    · first
                      | (exfalso; omega)
                      | (obtain ⟨j1, j2⟩ := hj.one (by assumption) p3 p4 p5 p6; exact ih (u + (-1) + 1 + 1) σ_167 (by unfold zRg; omega) hR_167 (by rw [e_128, e_115]; exact (ho.up (Or.inl rfl)).up (Or.inr rfl)) (by rw [show u + -1 + 1 = u by omega, show σ_128 44 = fup (ρ 44) (u - 1).toNat (σ 39 (ρ 44 (u - 1).toNat).toNat) by rw [e_128, zup_row (by decide), e_115, zup_fup, hn1], show σ_128 45 = fup (ρ 45) (u - 1).toNat (σ 39 (ρ 45 (u - 1).toNat).toNat) by rw [e_128, zup_fup, e_115, zup_row (by decide), hn1]]; exact j1) (by rw [show u + -1 + 1 = u by omega, show σ_128 44 = fup (ρ 44) (u - 1).toNat (σ 39 (ρ 44 (u - 1).toNat).toNat) by rw [e_128, zup_row (by decide), e_115, zup_fup, hn1]]; omega))
                    · first
                      | (exfalso; omega)
                      | (obtain ⟨j1, j2⟩ := hj.two (by assumption) p1 p3 p2 p4 p5 p6; exact ih (u + (-1) + 1 + 1) σ_167 (by unfold zRg; omega) hR_167 (by rw [e_167, e_154, e_128, e_115]; exact (((ho.up (Or.inl rfl)).up (Or.inr rfl)).up (Or.inl rfl)).up (Or.inr rfl)) (by rw [show u + -1 + 1 + 1 = u + 1 by omega, show σ_167 44 = fup (fup (ρ 44) (u - 1).toNat (σ 39 (ρ 44 (u - 1).toNat).toNat)) u.toNat (σ 40 (ρ 44 (u - 1).toNat).toNat) by rw [e_167, zup_row (by decide), e_154, zup_fup, e_128, zup_row (by decide), e_115, zup_fup, show u + -1 + 1 = u by omega, hn1], show σ_167 45 = fup (fup (ρ 45) (u - 1).toNat (σ 39 (ρ 45 (u - 1).toNat).toNat)) u.toNat (σ 40 (ρ 45 (u - 1).toNat).toNat) by rw [e_167, zup_fup, e_154, zup_row (by decide), e_128, zup_fup, e_115, zup_row (by decide), show u + -1 + 1 = u by omega, hn1]]; exact j1) (by rw [show u + -1 + 1 + 1 = u + 1 by omega, show σ_167 44 = fup (fup (ρ 44) (u - 1).toNat (σ 39 (ρ 44 (u - 1).toNat).toNat)) u.toNat (σ 40 (ρ 44 (u - 1).toNat).toNat) by rw [e_167, zup_row (by decide), e_154, zup_fup, e_128, zup_row (by decide), e_115, zup_fup, show u + -1 + 1 = u by omega, hn1]]; omega))
              · refine z_iconst (pc := 91) C dX6_areEqual_91 ?_
                refine hret 92 _ _ _ dX6_areEqual_92 (zRgL rfl) hRr ?_
                refine ⟨?_, ho⟩
                rw [if_pos ⟨by assumption, by assumption⟩]
                exact zb_zero (hj.no (by assumption) (hpc.1 (by first | (left; assumption) | (right; assumption))))
      have i1 : 0 ≤ a ∧ a < τ 7 5 := by omega
      have i2 : 0 ≤ b ∧ b < τ 7 5 := by omega
      exact L34 _ 1 σ_33 (zRgL rfl) hR_33 (by rw [e_33, e_26]; exact (Only45.rf.up (Or.inl rfl)).up (Or.inr rfl)) (EJ.start w7 i1 i2 (by rw [e_33, e_26]; rfl) (by rw [e_33]; rfl)) (Nat.lt_succ_self _)
    · have c_13 := zb0 hp_10 c_13
      refine z_iconst (pc := 16) C dX6_areEqual_16 ?_
      refine hret 17 _ _ _ dX6_areEqual_17 (zRgL rfl) hR ?_
      exact ⟨by rw [if_neg (by omega)], fun c hc => rfl⟩
set_option maxRecDepth 20000 in
theorem C_X6_isSameAs (E : ZE) (σ : ZSt) (hR : zRs σ) (a : Int) (ha : zRg a) (τ : ZSt) (hI : IM σ) (w7 : W7 τ) (wq : WN τ 13) (s7 : SNd τ σ 7 37) (sq : SNd τ σ 13 49) (hn7 : τ 7 5 = σ 31 11) (h100 : τ 7 5 ≤ 100) (ha0 : 0 ≤ a ∧ a < τ 7 5) (hl0 : 0 ≤ σ 31 37 ∧ σ 31 37 < τ 13 5) : ZMi E 0 yX6_isSameAs cX6_isSameAs 5 (some .boolean) [zrf E 31, ziv a] σ (fun r σ' => (r = zb (SM τ 13 a (σ 31 37))) ∧ Only45 σ σ') := by
  refine ZMi.introZ (by decide) rfl (Nat.le_of_ble_eq_true rfl) (fun Γ C hN hret => ?_)
  show ZG E Γ 0 [some (zrf E 31), some (ziv a), none, none, none] [] σ
  have hq13 := wq.1
  refine z_iconst (pc := 0) C dX6_isSameAs_0 ?_
  refine z_istore_n (pc := 1) (lv' := [some (zrf E 31), some (ziv a), some (ziv 1), none, none]) C hN dX6_isSameAs_1 rfl (by decide) rfl ?_
  refine z_aload_nZ (pc := 2) C dX6_isSameAs_2 rfl rfl ?_
  refine z_getR (pc := 3) C fX6_57 sh31 rfl dX6_isSameAs_3 ?_
  refine z_iconst (pc := 6) C dX6_isSameAs_6 ?_
  refine z_iload_n (pc := 7) C dX6_isSameAs_7 rfl rfl ?_
  refine z_iast (pc := 8) C hR sh44 (by (try unfold zRg at *); (try simp only [IX, IM] at *); omega) (by (try unfold zRg at *); (try simp only [IX, IM] at *); omega) ha dX6_isSameAs_8 (fun σ_8 e_8 hR_8 => ?_)
  have hI_8 : IM σ_8 := by rw [e_8]; exact hI.upA rfl
  refine z_aload_nZ (pc := 9) C dX6_isSameAs_9 rfl rfl ?_
  refine z_getR (pc := 10) C fX6_60 sh31 rfl dX6_isSameAs_10 ?_
  refine z_iconst (pc := 13) C dX6_isSameAs_13 ?_
  refine z_aload_nZ (pc := 14) C dX6_isSameAs_14 rfl rfl ?_
  refine z_getIe (pc := 15) (v := σ 31 37) C fX6_203 sh31 rfl dX6_isSameAs_15 (by rw [e_8, zup_cell (by omega)]) ?_
  refine z_iast (pc := 18) C hR_8 sh45 (by (try unfold zRg at *); (try simp only [IX, IM] at *); omega) (by (try unfold zRg at *); (try simp only [IX, IM] at *); omega) (hR 31 _) dX6_isSameAs_18 (fun σ_18 e_18 hR_18 => ?_)
  have hI_18 : IM σ_18 := by rw [e_18]; exact hI_8.upA rfl
  have L19 : ∀ (n : Nat) (u : Int) (ρ : ZSt), zRg u → zRs ρ → Only45 σ ρ → EJ τ 13 (ρ 44) (ρ 45) u (SM τ 13 a (σ 31 37)) → (zwt τ (ρ 44) u.toNat).toNat < n → ZG E Γ 19 [some (zrf E 31), some (ziv a), some (ziv u), none, none] [] ρ := by
    intro n
    induction n with
    | zero => intro u ρ hnr hRr ho hj hm; exact absurd hm (by omega)
    | succ n ih =>
      intro u ρ hnr hRr ho hj hm
      have hsm := hj.small w7
      have hIr : IM ρ := hI.only ho
      have hnn := hj.1
      refine z_iload_n (pc := 19) C dX6_isSameAs_19 rfl rfl ?_
      refine z_if_le (pc := 20) C 152 hnr dX6_isSameAs_20 rfl (fun c_20 => ?_) (fun c_20 => ?_)
      · refine z_iconst (pc := 152) C dX6_isSameAs_152 ?_
        refine hret 153 _ _ _ dX6_isSameAs_153 (Or.inr rfl) hRr ?_
        refine ⟨?_, ho⟩
        exact zb_one (hj.done (by assumption))
      · have hn1 : u + -1 = u - 1 := by omega
        obtain ⟨ht1, ht2⟩ := hj.top c_20
        have hpc := pop_cases w7 wq s7 sq ht1 ht2
        simp only [Nat.reduceAdd] at hpc
        refine z_iinc (pc := 23) (lv' := [some (zrf E 31), some (ziv a), some (ziv (u + (-1))), none, none]) C hN dX6_isSameAs_23 (by decide) rfl rfl ?_
        refine z_aload_nZ (pc := 26) C dX6_isSameAs_26 rfl rfl ?_
        refine z_getR (pc := 27) C fX6_57 sh31 rfl dX6_isSameAs_27 ?_
        refine z_iload_n (pc := 30) C dX6_isSameAs_30 rfl rfl ?_
        refine z_ialde (pc := 31) (v := ρ 44 (u - 1).toNat) C sh44 (by omega) (by omega) dX6_isSameAs_31 (by rw [hn1]) ?_
        refine z_istore_n (pc := 32) (lv' := [some (zrf E 31), some (ziv a), some (ziv (u + (-1))), some (ziv (ρ 44 (u - 1).toNat)), none]) C hN dX6_isSameAs_32 rfl (by decide) rfl ?_
        refine z_aload_nZ (pc := 33) C dX6_isSameAs_33 rfl rfl ?_
        refine z_getR (pc := 34) C fX6_60 sh31 rfl dX6_isSameAs_34 ?_
        refine z_iload_n (pc := 37) C dX6_isSameAs_37 rfl rfl ?_
        refine z_ialde (pc := 38) (v := ρ 45 (u - 1).toNat) C sh45 (by omega) (by omega) dX6_isSameAs_38 (by rw [hn1]) ?_
        refine z_istore (pc := 39) (lv' := [some (zrf E 31), some (ziv a), some (ziv (u + (-1))), some (ziv (ρ 44 (u - 1).toNat)), some (ziv (ρ 45 (u - 1).toNat))]) C hN dX6_isSameAs_39 (by decide) rfl ?_
        refine z_aload_nZ (pc := 41) C dX6_isSameAs_41 rfl rfl ?_
        refine z_getR (pc := 42) C fX6_26 sh31 rfl dX6_isSameAs_42 ?_
        refine z_iload_n (pc := 45) C dX6_isSameAs_45 rfl rfl ?_
        refine z_ialde (pc := 46) (v := σ 37 (ρ 44 (u - 1).toNat).toNat) C sh37 (by omega) (by omega) dX6_isSameAs_46 (by first | (rw [ho 37 (by decide)]) | (rw [e_95, zup_row (by decide), ho 37 (by decide)]) | (rw [e_108, zup_row (by decide), e_95, zup_row (by decide), ho 37 (by decide)]) | (rw [e_132, zup_row (by decide), e_108, zup_row (by decide), e_95, zup_row (by decide), ho 37 (by decide)]) | (rw [e_132, zup_row (by decide), ho 37 (by decide)])) ?_
        refine z_aload_nZ (pc := 47) C dX6_isSameAs_47 rfl rfl ?_
        refine z_getR (pc := 48) C fX6_72 sh31 rfl dX6_isSameAs_48 ?_
        refine z_iload (pc := 51) C dX6_isSameAs_51 rfl ?_
        refine z_ialde (pc := 53) (v := σ 49 (ρ 45 (u - 1).toNat).toNat) C sh49 (by omega) (by omega) dX6_isSameAs_53 (by first | (rw [ho 49 (by decide)]) | (rw [e_95, zup_row (by decide), ho 49 (by decide)]) | (rw [e_108, zup_row (by decide), e_95, zup_row (by decide), ho 49 (by decide)]) | (rw [e_132, zup_row (by decide), e_108, zup_row (by decide), e_95, zup_row (by decide), ho 49 (by decide)]) | (rw [e_132, zup_row (by decide), ho 49 (by decide)])) ?_
        refine z_icmp_ne (pc := 54) C 73 (hR 37 _) (hR 49 _) dX6_isSameAs_54 rfl (fun c_54 => ?_) (fun c_54 => ?_)
        · refine z_iconst (pc := 73) C dX6_isSameAs_73 ?_
          refine hret 74 _ _ _ dX6_isSameAs_74 (Or.inl rfl) hRr ?_
          refine ⟨?_, ho⟩
          exact zb_zero (hj.no (by assumption) (hpc.1 (by first | (left; assumption) | (right; assumption))))
        · refine z_aload_nZ (pc := 57) C dX6_isSameAs_57 rfl rfl ?_
          refine z_getR (pc := 58) C fX6_29 sh31 rfl dX6_isSameAs_58 ?_
          refine z_iload_n (pc := 61) C dX6_isSameAs_61 rfl rfl ?_
          refine z_ialde (pc := 62) (v := σ 38 (ρ 44 (u - 1).toNat).toNat) C sh38 (by omega) (by omega) dX6_isSameAs_62 (by first | (rw [ho 38 (by decide)]) | (rw [e_95, zup_row (by decide), ho 38 (by decide)]) | (rw [e_108, zup_row (by decide), e_95, zup_row (by decide), ho 38 (by decide)]) | (rw [e_132, zup_row (by decide), e_108, zup_row (by decide), e_95, zup_row (by decide), ho 38 (by decide)]) | (rw [e_132, zup_row (by decide), ho 38 (by decide)])) ?_
          refine z_aload_nZ (pc := 63) C dX6_isSameAs_63 rfl rfl ?_
          refine z_getR (pc := 64) C fX6_75 sh31 rfl dX6_isSameAs_64 ?_
          refine z_iload (pc := 67) C dX6_isSameAs_67 rfl ?_
          refine z_ialde (pc := 69) (v := σ 50 (ρ 45 (u - 1).toNat).toNat) C sh50 (by omega) (by omega) dX6_isSameAs_69 (by first | (rw [ho 50 (by decide)]) | (rw [e_95, zup_row (by decide), ho 50 (by decide)]) | (rw [e_108, zup_row (by decide), e_95, zup_row (by decide), ho 50 (by decide)]) | (rw [e_132, zup_row (by decide), e_108, zup_row (by decide), e_95, zup_row (by decide), ho 50 (by decide)]) | (rw [e_132, zup_row (by decide), ho 50 (by decide)])) ?_
          refine z_icmp_eq (pc := 70) C 75 (hR 38 _) (hR 50 _) dX6_isSameAs_70 rfl (fun c_70 => ?_) (fun c_70 => ?_)
          · refine z_aload_nZ (pc := 75) C dX6_isSameAs_75 rfl rfl ?_
            refine z_getR (pc := 76) C fX6_32 sh31 rfl dX6_isSameAs_76 ?_
            refine z_iload_n (pc := 79) C dX6_isSameAs_79 rfl rfl ?_
            refine z_ialde (pc := 80) (v := σ 39 (ρ 44 (u - 1).toNat).toNat) C sh39 (by omega) (by omega) dX6_isSameAs_80 (by first | (rw [ho 39 (by decide)]) | (rw [e_95, zup_row (by decide), ho 39 (by decide)]) | (rw [e_108, zup_row (by decide), e_95, zup_row (by decide), ho 39 (by decide)]) | (rw [e_132, zup_row (by decide), e_108, zup_row (by decide), e_95, zup_row (by decide), ho 39 (by decide)]) | (rw [e_132, zup_row (by decide), ho 39 (by decide)])) ?_
            refine z_if_lt (pc := 81) C 112 (hR 39 _) dX6_isSameAs_81 rfl (fun c_81 => ?_) (fun c_81 => ?_)
            · refine z_aload_nZ (pc := 112) C dX6_isSameAs_112 rfl rfl ?_
              refine z_getR (pc := 113) C fX6_35 sh31 rfl dX6_isSameAs_113 ?_
              refine z_iload_n (pc := 116) C dX6_isSameAs_116 rfl rfl ?_
              refine z_ialde (pc := 117) (v := σ 40 (ρ 44 (u - 1).toNat).toNat) C sh40 (by omega) (by omega) dX6_isSameAs_117 (by first | (rw [ho 40 (by decide)]) | (rw [e_95, zup_row (by decide), ho 40 (by decide)]) | (rw [e_108, zup_row (by decide), e_95, zup_row (by decide), ho 40 (by decide)]) | (rw [e_132, zup_row (by decide), e_108, zup_row (by decide), e_95, zup_row (by decide), ho 40 (by decide)]) | (rw [e_132, zup_row (by decide), ho 40 (by decide)])) ?_
              refine z_if_lt (pc := 118) C 149 (hR 40 _) dX6_isSameAs_118 rfl (fun c_118 => ?_) (fun c_118 => ?_)
              · refine z_goto (pc := 149) C 19 dX6_isSameAs_149 rfl ?_
                refine z_weak (lv' := [some (zrf E 31), some (ziv a), some (ziv (u + (-1))), none, none]) ⟨rfl, rfl, rfl, trivial⟩ ?_
                have hwn : u ≤ zwt τ (ρ 44) u.toNat := by have := zwt_ge w7 (F := ρ 44) u.toNat (fun i hi => (hj.2.1 i (by omega)).1); omega
                have hrow : ∀ c, c ≠ 44 ∧ c ≠ 45 → ρ c = σ c := ho
                have hpc2 := hpc.2 ⟨by assumption, by assumption⟩
                rcases hpc2 with ⟨p1, p2, p3⟩ | ⟨p2, p3, p4, p5, p6⟩ | ⟨p1, p2, p3, p4, p5, p6⟩
                · first
                  | (exfalso; omega)
                  | (obtain ⟨j1, j2⟩ := hj.leaf w7 (by assumption) p3; exact ih (u + (-1)) ρ (by unfold zRg; omega) hRr ho (by rw [hn1]; exact j1) (by rw [hn1]; omega))
                · first
                  | (exfalso; omega)
                  | (obtain ⟨j1, j2⟩ := hj.one (by assumption) p3 p4 p5 p6; exact ih (u + (-1)) ρ (by unfold zRg; omega) hRr (by rw [e_108, e_95]; exact (ho.up (Or.inl rfl)).up (Or.inr rfl)) (by rw [show u + -1 + 1 = u by omega, show σ_108 44 = fup (ρ 44) (u - 1).toNat (σ 39 (ρ 44 (u - 1).toNat).toNat) by rw [e_108, zup_row (by decide), e_95, zup_fup, hn1], show σ_108 45 = fup (ρ 45) (u - 1).toNat (σ 51 (ρ 45 (u - 1).toNat).toNat) by rw [e_108, zup_fup, e_95, zup_row (by decide), hn1]]; exact j1) (by rw [show u + -1 + 1 = u by omega, show σ_108 44 = fup (ρ 44) (u - 1).toNat (σ 39 (ρ 44 (u - 1).toNat).toNat) by rw [e_108, zup_row (by decide), e_95, zup_fup, hn1]]; omega))
                · first
                  | (exfalso; omega)
                  | (obtain ⟨j1, j2⟩ := hj.two (by assumption) p1 p3 p2 p4 p5 p6; exact ih (u + (-1)) ρ (by unfold zRg; omega) hRr (by rw [e_145, e_132, e_108, e_95]; exact (((ho.up (Or.inl rfl)).up (Or.inr rfl)).up (Or.inl rfl)).up (Or.inr rfl)) (by rw [show u + -1 + 1 + 1 = u + 1 by omega, show σ_145 44 = fup (fup (ρ 44) (u - 1).toNat (σ 39 (ρ 44 (u - 1).toNat).toNat)) u.toNat (σ 40 (ρ 44 (u - 1).toNat).toNat) by rw [e_145, zup_row (by decide), e_132, zup_fup, e_108, zup_row (by decide), e_95, zup_fup, show u + -1 + 1 = u by omega, hn1], show σ_145 45 = fup (fup (ρ 45) (u - 1).toNat (σ 51 (ρ 45 (u - 1).toNat).toNat)) u.toNat (σ 52 (ρ 45 (u - 1).toNat).toNat) by rw [e_145, zup_fup, e_132, zup_row (by decide), e_108, zup_fup, e_95, zup_row (by decide), show u + -1 + 1 = u by omega, hn1]]; exact j1) (by rw [show u + -1 + 1 + 1 = u + 1 by omega, show σ_145 44 = fup (fup (ρ 44) (u - 1).toNat (σ 39 (ρ 44 (u - 1).toNat).toNat)) u.toNat (σ 40 (ρ 44 (u - 1).toNat).toNat) by rw [e_145, zup_row (by decide), e_132, zup_fup, e_108, zup_row (by decide), e_95, zup_fup, show u + -1 + 1 = u by omega, hn1]]; omega))
              · refine z_aload_nZ (pc := 121) C dX6_isSameAs_121 rfl rfl ?_
                refine z_getR (pc := 122) C fX6_57 sh31 rfl dX6_isSameAs_122 ?_
                refine z_iload_n (pc := 125) C dX6_isSameAs_125 rfl rfl ?_
                refine z_aload_nZ (pc := 126) C dX6_isSameAs_126 rfl rfl ?_
                refine z_getR (pc := 127) C fX6_35 sh31 rfl dX6_isSameAs_127 ?_
                refine z_iload_n (pc := 130) C dX6_isSameAs_130 rfl rfl ?_
                refine z_ialde (pc := 131) (v := σ 40 (ρ 44 (u - 1).toNat).toNat) C sh40 (by omega) (by omega) dX6_isSameAs_131 (by first | (rw [ho 40 (by decide)]) | (rw [e_95, zup_row (by decide), ho 40 (by decide)]) | (rw [e_108, zup_row (by decide), e_95, zup_row (by decide), ho 40 (by decide)]) | (rw [e_132, zup_row (by decide), e_108, zup_row (by decide), e_95, zup_row (by decide), ho 40 (by decide)]) | (rw [e_132, zup_row (by decide), ho 40 (by decide)])) ?_
                refine z_iast (pc := 132) C hRr sh44 (by omega) (by omega) (hR 40 _) dX6_isSameAs_132 (fun σ_132 e_132 hR_132 => ?_)
                have hI_132 : IM σ_132 := by rw [e_132]; exact hIr.upA rfl
                refine z_aload_nZ (pc := 133) C dX6_isSameAs_133 rfl rfl ?_
                refine z_getR (pc := 134) C fX6_60 sh31 rfl dX6_isSameAs_134 ?_
                refine z_iload_n (pc := 137) C dX6_isSameAs_137 rfl rfl ?_
                refine z_aload_nZ (pc := 138) C dX6_isSameAs_138 rfl rfl ?_
                refine z_getR (pc := 139) C fX6_81 sh31 rfl dX6_isSameAs_139 ?_
                refine z_iload (pc := 142) C dX6_isSameAs_142 rfl ?_
                refine z_ialde (pc := 144) (v := σ 52 (ρ 45 (u - 1).toNat).toNat) C sh52 (by omega) (by omega) dX6_isSameAs_144 (by first | (rw [ho 52 (by decide)]) | (rw [e_95, zup_row (by decide), ho 52 (by decide)]) | (rw [e_108, zup_row (by decide), e_95, zup_row (by decide), ho 52 (by decide)]) | (rw [e_132, zup_row (by decide), e_108, zup_row (by decide), e_95, zup_row (by decide), ho 52 (by decide)]) | (rw [e_132, zup_row (by decide), ho 52 (by decide)])) ?_
                refine z_iast (pc := 145) C hR_132 sh45 (by omega) (by omega) (hR 52 _) dX6_isSameAs_145 (fun σ_145 e_145 hR_145 => ?_)
                have hI_145 : IM σ_145 := by rw [e_145]; exact hI_132.upA rfl
                refine z_iinc (pc := 146) (lv' := [some (zrf E 31), some (ziv a), some (ziv (u + (-1) + 1)), some (ziv (ρ 44 (u - 1).toNat)), some (ziv (ρ 45 (u - 1).toNat))]) C hN dX6_isSameAs_146 (by decide) rfl rfl ?_
                refine z_goto (pc := 149) C 19 dX6_isSameAs_149 rfl ?_
                refine z_weak (lv' := [some (zrf E 31), some (ziv a), some (ziv (u + (-1) + 1)), none, none]) ⟨rfl, rfl, rfl, trivial⟩ ?_
                have hwn : u ≤ zwt τ (ρ 44) u.toNat := by have := zwt_ge w7 (F := ρ 44) u.toNat (fun i hi => (hj.2.1 i (by omega)).1); omega
                have hrow : ∀ c, c ≠ 44 ∧ c ≠ 45 → ρ c = σ c := ho
                have hpc2 := hpc.2 ⟨by assumption, by assumption⟩
                rcases hpc2 with ⟨p1, p2, p3⟩ | ⟨p2, p3, p4, p5, p6⟩ | ⟨p1, p2, p3, p4, p5, p6⟩
                · first
                  | (exfalso; omega)
                  | (obtain ⟨j1, j2⟩ := hj.leaf w7 (by assumption) p3; exact ih (u + (-1) + 1) σ_145 (by unfold zRg; omega) hR_145 ho (by rw [hn1]; exact j1) (by rw [hn1]; omega))
                · first
                  | (exfalso; omega)
                  | (obtain ⟨j1, j2⟩ := hj.one (by assumption) p3 p4 p5 p6; exact ih (u + (-1) + 1) σ_145 (by unfold zRg; omega) hR_145 (by rw [e_108, e_95]; exact (ho.up (Or.inl rfl)).up (Or.inr rfl)) (by rw [show u + -1 + 1 = u by omega, show σ_108 44 = fup (ρ 44) (u - 1).toNat (σ 39 (ρ 44 (u - 1).toNat).toNat) by rw [e_108, zup_row (by decide), e_95, zup_fup, hn1], show σ_108 45 = fup (ρ 45) (u - 1).toNat (σ 51 (ρ 45 (u - 1).toNat).toNat) by rw [e_108, zup_fup, e_95, zup_row (by decide), hn1]]; exact j1) (by rw [show u + -1 + 1 = u by omega, show σ_108 44 = fup (ρ 44) (u - 1).toNat (σ 39 (ρ 44 (u - 1).toNat).toNat) by rw [e_108, zup_row (by decide), e_95, zup_fup, hn1]]; omega))
                · first
                  | (exfalso; omega)
                  | (obtain ⟨j1, j2⟩ := hj.two (by assumption) p1 p3 p2 p4 p5 p6; exact ih (u + (-1) + 1) σ_145 (by unfold zRg; omega) hR_145 (by rw [e_145, e_132, e_108, e_95]; exact (((ho.up (Or.inl rfl)).up (Or.inr rfl)).up (Or.inl rfl)).up (Or.inr rfl)) (by rw [show u + -1 + 1 + 1 = u + 1 by omega, show σ_145 44 = fup (fup (ρ 44) (u - 1).toNat (σ 39 (ρ 44 (u - 1).toNat).toNat)) u.toNat (σ 40 (ρ 44 (u - 1).toNat).toNat) by rw [e_145, zup_row (by decide), e_132, zup_fup, e_108, zup_row (by decide), e_95, zup_fup, show u + -1 + 1 = u by omega, hn1], show σ_145 45 = fup (fup (ρ 45) (u - 1).toNat (σ 51 (ρ 45 (u - 1).toNat).toNat)) u.toNat (σ 52 (ρ 45 (u - 1).toNat).toNat) by rw [e_145, zup_fup, e_132, zup_row (by decide), e_108, zup_fup, e_95, zup_row (by decide), show u + -1 + 1 = u by omega, hn1]]; exact j1) (by rw [show u + -1 + 1 + 1 = u + 1 by omega, show σ_145 44 = fup (fup (ρ 44) (u - 1).toNat (σ 39 (ρ 44 (u - 1).toNat).toNat)) u.toNat (σ 40 (ρ 44 (u - 1).toNat).toNat) by rw [e_145, zup_row (by decide), e_132, zup_fup, e_108, zup_row (by decide), e_95, zup_fup, show u + -1 + 1 = u by omega, hn1]]; omega))
            · refine z_aload_nZ (pc := 84) C dX6_isSameAs_84 rfl rfl ?_
              refine z_getR (pc := 85) C fX6_57 sh31 rfl dX6_isSameAs_85 ?_
              refine z_iload_n (pc := 88) C dX6_isSameAs_88 rfl rfl ?_
              refine z_aload_nZ (pc := 89) C dX6_isSameAs_89 rfl rfl ?_
              refine z_getR (pc := 90) C fX6_32 sh31 rfl dX6_isSameAs_90 ?_
              refine z_iload_n (pc := 93) C dX6_isSameAs_93 rfl rfl ?_
              refine z_ialde (pc := 94) (v := σ 39 (ρ 44 (u - 1).toNat).toNat) C sh39 (by omega) (by omega) dX6_isSameAs_94 (by first | (rw [ho 39 (by decide)]) | (rw [e_95, zup_row (by decide), ho 39 (by decide)]) | (rw [e_108, zup_row (by decide), e_95, zup_row (by decide), ho 39 (by decide)]) | (rw [e_132, zup_row (by decide), e_108, zup_row (by decide), e_95, zup_row (by decide), ho 39 (by decide)]) | (rw [e_132, zup_row (by decide), ho 39 (by decide)])) ?_
              refine z_iast (pc := 95) C hRr sh44 (by omega) (by omega) (hR 39 _) dX6_isSameAs_95 (fun σ_95 e_95 hR_95 => ?_)
              have hI_95 : IM σ_95 := by rw [e_95]; exact hIr.upA rfl
              refine z_aload_nZ (pc := 96) C dX6_isSameAs_96 rfl rfl ?_
              refine z_getR (pc := 97) C fX6_60 sh31 rfl dX6_isSameAs_97 ?_
              refine z_iload_n (pc := 100) C dX6_isSameAs_100 rfl rfl ?_
              refine z_aload_nZ (pc := 101) C dX6_isSameAs_101 rfl rfl ?_
              refine z_getR (pc := 102) C fX6_78 sh31 rfl dX6_isSameAs_102 ?_
              refine z_iload (pc := 105) C dX6_isSameAs_105 rfl ?_
              refine z_ialde (pc := 107) (v := σ 51 (ρ 45 (u - 1).toNat).toNat) C sh51 (by omega) (by omega) dX6_isSameAs_107 (by first | (rw [ho 51 (by decide)]) | (rw [e_95, zup_row (by decide), ho 51 (by decide)]) | (rw [e_108, zup_row (by decide), e_95, zup_row (by decide), ho 51 (by decide)]) | (rw [e_132, zup_row (by decide), e_108, zup_row (by decide), e_95, zup_row (by decide), ho 51 (by decide)]) | (rw [e_132, zup_row (by decide), ho 51 (by decide)])) ?_
              refine z_iast (pc := 108) C hR_95 sh45 (by omega) (by omega) (hR 51 _) dX6_isSameAs_108 (fun σ_108 e_108 hR_108 => ?_)
              have hI_108 : IM σ_108 := by rw [e_108]; exact hI_95.upA rfl
              refine z_iinc (pc := 109) (lv' := [some (zrf E 31), some (ziv a), some (ziv (u + (-1) + 1)), some (ziv (ρ 44 (u - 1).toNat)), some (ziv (ρ 45 (u - 1).toNat))]) C hN dX6_isSameAs_109 (by decide) rfl rfl ?_
              refine z_aload_nZ (pc := 112) C dX6_isSameAs_112 rfl rfl ?_
              refine z_getR (pc := 113) C fX6_35 sh31 rfl dX6_isSameAs_113 ?_
              refine z_iload_n (pc := 116) C dX6_isSameAs_116 rfl rfl ?_
              refine z_ialde (pc := 117) (v := σ 40 (ρ 44 (u - 1).toNat).toNat) C sh40 (by omega) (by omega) dX6_isSameAs_117 (by first | (rw [ho 40 (by decide)]) | (rw [e_95, zup_row (by decide), ho 40 (by decide)]) | (rw [e_108, zup_row (by decide), e_95, zup_row (by decide), ho 40 (by decide)]) | (rw [e_132, zup_row (by decide), e_108, zup_row (by decide), e_95, zup_row (by decide), ho 40 (by decide)]) | (rw [e_132, zup_row (by decide), ho 40 (by decide)])) ?_
              refine z_if_lt (pc := 118) C 149 (hR 40 _) dX6_isSameAs_118 rfl (fun c_118 => ?_) (fun c_118 => ?_)
              · refine z_goto (pc := 149) C 19 dX6_isSameAs_149 rfl ?_
                refine z_weak (lv' := [some (zrf E 31), some (ziv a), some (ziv (u + (-1) + 1)), none, none]) ⟨rfl, rfl, rfl, trivial⟩ ?_
                have hwn : u ≤ zwt τ (ρ 44) u.toNat := by have := zwt_ge w7 (F := ρ 44) u.toNat (fun i hi => (hj.2.1 i (by omega)).1); omega
                have hrow : ∀ c, c ≠ 44 ∧ c ≠ 45 → ρ c = σ c := ho
                have hpc2 := hpc.2 ⟨by assumption, by assumption⟩
                rcases hpc2 with ⟨p1, p2, p3⟩ | ⟨p2, p3, p4, p5, p6⟩ | ⟨p1, p2, p3, p4, p5, p6⟩
                · first
                  | (exfalso; omega)
                  | (obtain ⟨j1, j2⟩ := hj.leaf w7 (by assumption) p3; exact ih (u + (-1) + 1) σ_108 (by unfold zRg; omega) hR_108 ho (by rw [hn1]; exact j1) (by rw [hn1]; omega))
                · first
                  | (exfalso; omega)
                  | (obtain ⟨j1, j2⟩ := hj.one (by assumption) p3 p4 p5 p6; exact ih (u + (-1) + 1) σ_108 (by unfold zRg; omega) hR_108 (by rw [e_108, e_95]; exact (ho.up (Or.inl rfl)).up (Or.inr rfl)) (by rw [show u + -1 + 1 = u by omega, show σ_108 44 = fup (ρ 44) (u - 1).toNat (σ 39 (ρ 44 (u - 1).toNat).toNat) by rw [e_108, zup_row (by decide), e_95, zup_fup, hn1], show σ_108 45 = fup (ρ 45) (u - 1).toNat (σ 51 (ρ 45 (u - 1).toNat).toNat) by rw [e_108, zup_fup, e_95, zup_row (by decide), hn1]]; exact j1) (by rw [show u + -1 + 1 = u by omega, show σ_108 44 = fup (ρ 44) (u - 1).toNat (σ 39 (ρ 44 (u - 1).toNat).toNat) by rw [e_108, zup_row (by decide), e_95, zup_fup, hn1]]; omega))
                · first
                  | (exfalso; omega)
                  | (obtain ⟨j1, j2⟩ := hj.two (by assumption) p1 p3 p2 p4 p5 p6; exact ih (u + (-1) + 1) σ_108 (by unfold zRg; omega) hR_108 (by rw [e_145, e_132, e_108, e_95]; exact (((ho.up (Or.inl rfl)).up (Or.inr rfl)).up (Or.inl rfl)).up (Or.inr rfl)) (by rw [show u + -1 + 1 + 1 = u + 1 by omega, show σ_145 44 = fup (fup (ρ 44) (u - 1).toNat (σ 39 (ρ 44 (u - 1).toNat).toNat)) u.toNat (σ 40 (ρ 44 (u - 1).toNat).toNat) by rw [e_145, zup_row (by decide), e_132, zup_fup, e_108, zup_row (by decide), e_95, zup_fup, show u + -1 + 1 = u by omega, hn1], show σ_145 45 = fup (fup (ρ 45) (u - 1).toNat (σ 51 (ρ 45 (u - 1).toNat).toNat)) u.toNat (σ 52 (ρ 45 (u - 1).toNat).toNat) by rw [e_145, zup_fup, e_132, zup_row (by decide), e_108, zup_fup, e_95, zup_row (by decide), show u + -1 + 1 = u by omega, hn1]]; exact j1) (by rw [show u + -1 + 1 + 1 = u + 1 by omega, show σ_145 44 = fup (fup (ρ 44) (u - 1).toNat (σ 39 (ρ 44 (u - 1).toNat).toNat)) u.toNat (σ 40 (ρ 44 (u - 1).toNat).toNat) by rw [e_145, zup_row (by decide), e_132, zup_fup, e_108, zup_row (by decide), e_95, zup_fup, show u + -1 + 1 = u by omega, hn1]]; omega))
              · refine z_aload_nZ (pc := 121) C dX6_isSameAs_121 rfl rfl ?_
                refine z_getR (pc := 122) C fX6_57 sh31 rfl dX6_isSameAs_122 ?_
                refine z_iload_n (pc := 125) C dX6_isSameAs_125 rfl rfl ?_
                refine z_aload_nZ (pc := 126) C dX6_isSameAs_126 rfl rfl ?_
                refine z_getR (pc := 127) C fX6_35 sh31 rfl dX6_isSameAs_127 ?_
                refine z_iload_n (pc := 130) C dX6_isSameAs_130 rfl rfl ?_
                refine z_ialde (pc := 131) (v := σ 40 (ρ 44 (u - 1).toNat).toNat) C sh40 (by omega) (by omega) dX6_isSameAs_131 (by first | (rw [ho 40 (by decide)]) | (rw [e_95, zup_row (by decide), ho 40 (by decide)]) | (rw [e_108, zup_row (by decide), e_95, zup_row (by decide), ho 40 (by decide)]) | (rw [e_132, zup_row (by decide), e_108, zup_row (by decide), e_95, zup_row (by decide), ho 40 (by decide)]) | (rw [e_132, zup_row (by decide), ho 40 (by decide)])) ?_
                refine z_iast (pc := 132) C hR_108 sh44 (by omega) (by omega) (hR 40 _) dX6_isSameAs_132 (fun σ_132 e_132 hR_132 => ?_)
                have hI_132 : IM σ_132 := by rw [e_132]; exact hI_108.upA rfl
                refine z_aload_nZ (pc := 133) C dX6_isSameAs_133 rfl rfl ?_
                refine z_getR (pc := 134) C fX6_60 sh31 rfl dX6_isSameAs_134 ?_
                refine z_iload_n (pc := 137) C dX6_isSameAs_137 rfl rfl ?_
                refine z_aload_nZ (pc := 138) C dX6_isSameAs_138 rfl rfl ?_
                refine z_getR (pc := 139) C fX6_81 sh31 rfl dX6_isSameAs_139 ?_
                refine z_iload (pc := 142) C dX6_isSameAs_142 rfl ?_
                refine z_ialde (pc := 144) (v := σ 52 (ρ 45 (u - 1).toNat).toNat) C sh52 (by omega) (by omega) dX6_isSameAs_144 (by first | (rw [ho 52 (by decide)]) | (rw [e_95, zup_row (by decide), ho 52 (by decide)]) | (rw [e_108, zup_row (by decide), e_95, zup_row (by decide), ho 52 (by decide)]) | (rw [e_132, zup_row (by decide), e_108, zup_row (by decide), e_95, zup_row (by decide), ho 52 (by decide)]) | (rw [e_132, zup_row (by decide), ho 52 (by decide)])) ?_
                refine z_iast (pc := 145) C hR_132 sh45 (by omega) (by omega) (hR 52 _) dX6_isSameAs_145 (fun σ_145 e_145 hR_145 => ?_)
                have hI_145 : IM σ_145 := by rw [e_145]; exact hI_132.upA rfl
                refine z_iinc (pc := 146) (lv' := [some (zrf E 31), some (ziv a), some (ziv (u + (-1) + 1 + 1)), some (ziv (ρ 44 (u - 1).toNat)), some (ziv (ρ 45 (u - 1).toNat))]) C hN dX6_isSameAs_146 (by decide) rfl rfl ?_
                refine z_goto (pc := 149) C 19 dX6_isSameAs_149 rfl ?_
                refine z_weak (lv' := [some (zrf E 31), some (ziv a), some (ziv (u + (-1) + 1 + 1)), none, none]) ⟨rfl, rfl, rfl, trivial⟩ ?_
                have hwn : u ≤ zwt τ (ρ 44) u.toNat := by have := zwt_ge w7 (F := ρ 44) u.toNat (fun i hi => (hj.2.1 i (by omega)).1); omega
                have hrow : ∀ c, c ≠ 44 ∧ c ≠ 45 → ρ c = σ c := ho
                have hpc2 := hpc.2 ⟨by assumption, by assumption⟩
                rcases hpc2 with ⟨p1, p2, p3⟩ | ⟨p2, p3, p4, p5, p6⟩ | ⟨p1, p2, p3, p4, p5, p6⟩
                · first
                  | (exfalso; omega)
                  | (obtain ⟨j1, j2⟩ := hj.leaf w7 (by assumption) p3; exact ih (u + (-1) + 1 + 1) σ_145 (by unfold zRg; omega) hR_145 ho (by rw [hn1]; exact j1) (by rw [hn1]; omega))
                · first
                  | (exfalso; omega)
                  | (obtain ⟨j1, j2⟩ := hj.one (by assumption) p3 p4 p5 p6; exact ih (u + (-1) + 1 + 1) σ_145 (by unfold zRg; omega) hR_145 (by rw [e_108, e_95]; exact (ho.up (Or.inl rfl)).up (Or.inr rfl)) (by rw [show u + -1 + 1 = u by omega, show σ_108 44 = fup (ρ 44) (u - 1).toNat (σ 39 (ρ 44 (u - 1).toNat).toNat) by rw [e_108, zup_row (by decide), e_95, zup_fup, hn1], show σ_108 45 = fup (ρ 45) (u - 1).toNat (σ 51 (ρ 45 (u - 1).toNat).toNat) by rw [e_108, zup_fup, e_95, zup_row (by decide), hn1]]; exact j1) (by rw [show u + -1 + 1 = u by omega, show σ_108 44 = fup (ρ 44) (u - 1).toNat (σ 39 (ρ 44 (u - 1).toNat).toNat) by rw [e_108, zup_row (by decide), e_95, zup_fup, hn1]]; omega))
                · first
                  | (exfalso; omega)
                  | (obtain ⟨j1, j2⟩ := hj.two (by assumption) p1 p3 p2 p4 p5 p6; exact ih (u + (-1) + 1 + 1) σ_145 (by unfold zRg; omega) hR_145 (by rw [e_145, e_132, e_108, e_95]; exact (((ho.up (Or.inl rfl)).up (Or.inr rfl)).up (Or.inl rfl)).up (Or.inr rfl)) (by rw [show u + -1 + 1 + 1 = u + 1 by omega, show σ_145 44 = fup (fup (ρ 44) (u - 1).toNat (σ 39 (ρ 44 (u - 1).toNat).toNat)) u.toNat (σ 40 (ρ 44 (u - 1).toNat).toNat) by rw [e_145, zup_row (by decide), e_132, zup_fup, e_108, zup_row (by decide), e_95, zup_fup, show u + -1 + 1 = u by omega, hn1], show σ_145 45 = fup (fup (ρ 45) (u - 1).toNat (σ 51 (ρ 45 (u - 1).toNat).toNat)) u.toNat (σ 52 (ρ 45 (u - 1).toNat).toNat) by rw [e_145, zup_fup, e_132, zup_row (by decide), e_108, zup_fup, e_95, zup_row (by decide), show u + -1 + 1 = u by omega, hn1]]; exact j1) (by rw [show u + -1 + 1 + 1 = u + 1 by omega, show σ_145 44 = fup (fup (ρ 44) (u - 1).toNat (σ 39 (ρ 44 (u - 1).toNat).toNat)) u.toNat (σ 40 (ρ 44 (u - 1).toNat).toNat) by rw [e_145, zup_row (by decide), e_132, zup_fup, e_108, zup_row (by decide), e_95, zup_fup, show u + -1 + 1 = u by omega, hn1]]; omega))
          · refine z_iconst (pc := 73) C dX6_isSameAs_73 ?_
            refine hret 74 _ _ _ dX6_isSameAs_74 (Or.inl rfl) hRr ?_
            refine ⟨?_, ho⟩
            exact zb_zero (hj.no (by assumption) (hpc.1 (by first | (left; assumption) | (right; assumption))))
  exact L19 _ 1 σ_18 (zRgL rfl) hR_18 (by rw [e_18, e_8]; exact (Only45.rf.up (Or.inl rfl)).up (Or.inr rfl)) (EJ.start w7 ha0 hl0 (by rw [e_18, e_8]; rfl) (by rw [e_18]; rfl)) (Nat.lt_succ_self _)
