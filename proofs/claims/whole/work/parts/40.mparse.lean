/-! ===== parse, in both ===== -/
/-- what a parse leaves in the reference, against the class's -/
def PPost (τ σ : ZSt) (r : Int) (ς : ZSt) : Prop := r = (xparse τ).1 ∧ SN (xparse τ).2 ς ∧ W7 (xparse τ).2 ∧ (xparse τ).2 7 5 ≤ 100 ∧ (ς 31 17 = (xparse τ).2 0 9 ∧ ς 31 18 = (xparse τ).2 0 10) ∧ SameP σ ς
def PR (τ σ ς : ZSt) : Prop := SameM (mrow (zup σ 31 25 (σ 31 16)) 48 (σ 43) (σ 31 16).toNat) ς ∧ RDone (xcopy τ 23 19) ς
theorem PR.row {τ σ ς : ZSt} (h : PR τ σ ς) {c : Nat} (hc : c ≠ 31 ∧ ¬ (48 ≤ c ∧ c ≤ 53)) : ς c = σ c := by rw [h.1.1 c (by omega), mrow_row (by omega), zup_row (by omega)]
theorem PR.f31 {τ σ ς : ZSt} (h : PR τ σ ς) {j : Nat} (hj : j ≠ 25 ∧ j ≠ 30 ∧ ¬ (32 ≤ j ∧ j ≤ 39)) : ς 31 j = σ 31 j := by rw [h.1.2 j (by omega), mrow_row (by decide), zup_place (by omega)]
theorem xpr_row {τ : ZSt} {c : Nat} (hc : ¬ (13 ≤ c ∧ c ≤ 18) ∧ ¬ (25 ≤ c ∧ c ≤ 28) ∧ c ≠ 23 ∧ c ≠ 24) : xreads (xcopy τ 23 19) c = τ c := by
  rw [xreads_same _ c (by omega)]
  exact zst_row (by omega)
theorem PR.sp {τ σ ς : ZSt} (h : PR τ σ ς) : SameP σ ς := ⟨fun c hc => h.row (by omega), fun j hj => h.f31 (by omega)⟩
theorem PR.sn {τ σ ς : ZSt} (h : PR τ σ ς) (i : In0 τ σ) : SN (xreads (xcopy τ 23 19)) ς := i.2.2.2.2.2.1.same (fun c hc => xpr_row (by omega)) (h.f31 (by decide)) (fun c hc => h.row (by omega))
theorem PR.w7 {τ σ : ZSt} (i : In0 τ σ) : W7 (xreads (xcopy τ 23 19)) := i.2.2.2.2.2.2.1.same (xpr_row (by decide)) (xpr_row (by decide)) (fun c hc => xpr_row (by omega))
theorem PR.fail {τ σ ς : ZSt} (h : PR τ σ ς) (i : In0 τ σ) (hno : ¬ xreadOk (xreads (xcopy τ 23 19))) : PPost τ σ (-12) (zup (zup ς 31 17 (ς 31 33)) 31 18 (ς 31 34)) := by
  rcases h.2 with ⟨w, -⟩ | ⟨-, -, e1, e2⟩
  · exact absurd w hno
  have ex : xparse τ = (-12, zup (zup (xreads (xcopy τ 23 19)) 0 9 (xreads (xcopy τ 23 19) 25 12)) 0 10 (xreads (xcopy τ 23 19) 25 13)) := by
    unfold xparse; rw [zif_neg hno]
  unfold PPost
  rw [ex]
  have xr : ∀ c, c ≠ 0 → zup (zup (xreads (xcopy τ 23 19)) 0 9 (xreads (xcopy τ 23 19) 25 12)) 0 10 (xreads (xcopy τ 23 19) 25 13) c = xreads (xcopy τ 23 19) c := fun c hc => by rw [zup_row hc, zup_row hc]
  refine ⟨rfl, (h.sn i).same (fun c hc => xr c (by omega)) ?_ (fun c hc => ?_), (PR.w7 i).same (xr 1 (by decide)) (xr 3 (by decide)) (fun c hc => xr c (by omega)), ?_, ⟨?_, ?_⟩, ?_⟩
  · rw [zup_place (by decide), zup_place (by decide)]
  · rw [zup_row (by omega), zup_row (by omega)]
  · show zup (zup (xreads (xcopy τ 23 19)) 0 9 (xreads (xcopy τ 23 19) 25 12)) 0 10 (xreads (xcopy τ 23 19) 25 13) 7 5 ≤ 100
    rw [xr 7 (by decide), xpr_row (by decide)]
    exact i.2.2.2.2.2.2.2
  · show _ = zup (zup (xreads (xcopy τ 23 19)) 0 9 (xreads (xcopy τ 23 19) 25 12)) 0 10 (xreads (xcopy τ 23 19) 25 13) 0 9
    rw [zup_place (by decide), zup_same, zup_place (by decide), zup_same, e1]
  · show _ = zup (zup (xreads (xcopy τ 23 19)) 0 9 (xreads (xcopy τ 23 19) 25 12)) 0 10 (xreads (xcopy τ 23 19) 25 13) 0 10
    rw [zup_same, zup_same, e2]
  · refine ⟨fun c hc => ?_, fun j hj => ?_⟩
    · rw [zup_row (by omega), zup_row (by omega)]; exact h.row (by omega)
    · rw [zup_place (by omega), zup_place (by omega)]; exact h.f31 (by omega)
theorem PR.keep {τ σ ς : ZSt} (h : PR τ σ ς) (i : In0 τ σ) (he : σ 31 17 = τ 0 9 ∧ σ 31 18 = τ 0 10) {r : Int} (ex : xparse τ = (r, xreads (xcopy τ 23 19))) : PPost τ σ r ς := by
  unfold PPost
  rw [ex]
  refine ⟨rfl, h.sn i, PR.w7 i, ?_, ⟨?_, ?_⟩, h.sp⟩
  · show xreads (xcopy τ 23 19) 7 5 ≤ 100
    rw [xpr_row (by decide)]; exact i.2.2.2.2.2.2.2
  · show _ = xreads (xcopy τ 23 19) 0 9
    rw [xpr_row (by decide), h.f31 (by decide), he.1]
  · show _ = xreads (xcopy τ 23 19) 0 10
    rw [xpr_row (by decide), h.f31 (by decide), he.2]
theorem PR.fin {τ σ ς : ZSt} (h : PR τ σ ς) (ok : xreadOk (xreads (xcopy τ 23 19))) : FinOK (xreads (xcopy τ 23 19)) ς := by
  rcases h.2 with ⟨-, -, w⟩ | ⟨w, -⟩
  · exact w
  · exact absurd ok w
theorem PR.done {τ σ ς ρ : ZSt} (h : PR τ σ ς) (i : In0 τ σ) (he : σ 31 17 = τ 0 9 ∧ σ 31 18 = τ 0 10) (ok : xreadOk (xreads (xcopy τ 23 19))) (h40 : xreads (xcopy τ 23 19) 13 5 ≤ 40) (h100 : xreads (xcopy τ 23 19) 7 5 + xreads (xcopy τ 23 19) 13 5 ≤ 100) {k : Nat} (hk : xreads (xcopy τ 23 19) 13 5 = k) (hj : PJ (xreads (xcopy τ 23 19)) ς ρ k) {r : Int} (hr : r = xreads (xcopy τ 23 19) 7 5 + k - 1) : PPost τ σ r ρ := by
  have ex : xparse τ = (xadds (xreads (xcopy τ 23 19)) k 7 5 - 1, xadds (xreads (xcopy τ 23 19)) k) := by
    unfold xparse; rw [zif_pos ok, zif_neg (by omega), zif_neg (by omega), hk]; rfl
  obtain ⟨j1, j2, j3, -, j5, j6⟩ := hj
  unfold PPost
  rw [ex]
  refine ⟨?_, j1, j2, ?_, ⟨?_, ?_⟩, ?_⟩
  · show r = _ - 1
    rw [j3, hr]
  · show xadds _ k 7 5 ≤ 100
    rw [j3]; omega
  · show _ = xadds _ k 0 9
    rw [xadds_row (by decide), xpr_row (by decide), j6 17 (by decide), h.f31 (by decide), he.1]
  · show _ = xadds _ k 0 10
    rw [xadds_row (by decide), xpr_row (by decide), j6 18 (by decide), h.f31 (by decide), he.2]
  · refine ⟨fun c hc => ?_, fun j hj => ?_⟩
    · rw [j5 c (by omega)]; exact h.row (by omega)
    · rw [j6 j (by omega)]; exact h.f31 (by omega)
theorem PJ.im {τ ς ρ : ZSt} {k : Nat} (h : PJ τ ς ρ k) (hI : IM ς) (h0 : 0 ≤ τ 7 5) (h100 : τ 7 5 + k ≤ 100) : IM ρ := by
  obtain ⟨j1, -, j3, -, j5, j6⟩ := h
  have e : ρ 31 11 = τ 7 5 + k := by rw [j1.1, j3]
  unfold IM at hI ⊢
  rw [j6 3 (by decide), j6 13 (by decide), j6 16 (by decide), j6 25 (by decide), j5 34 (by decide), e]
  exact ⟨hI.1, by omega, hI.2.2⟩

set_option maxRecDepth 20000 in
theorem C_X6_parse (E : ZE) (σ : ZSt) (hR : zRs σ) (τ : ZSt) (hI : IM σ) (h0 : In0 τ σ) (he : σ 31 17 = τ 0 9 ∧ σ 31 18 = τ 0 10) : ZMi E 5 yX6_parse cX6_parse 6 (some .int) [zrf E 31] σ (fun r σ' => PPost τ σ r σ' ∧ IM σ') := by
  refine ZMi.intro (by decide) rfl (Nat.le_of_ble_eq_true rfl) (fun Γ C hN hret => ?_)
  show ZG E Γ 0 [some (zrf E 31), none, none, none, none, none] [] σ
  have hinp := hI.inp
  refine z_aload_nZ (pc := 0) C dX6_parse_0 rfl rfl ?_
  refine z_aload_nZ (pc := 1) C dX6_parse_1 rfl rfl ?_
  refine z_getI (pc := 2) C fX6_251 sh31 rfl dX6_parse_2 ?_
  refine z_putI (pc := 5) C hR fX6_197 sh31 rfl (hR 31 _) dX6_parse_5 (fun σ_5 e_5 hR_5 => ?_)
  have hI_5 : IM σ_5 := by rw [e_5]; exact hI.up25 (by (try unfold zRg at *); (try simp only [IX, IM] at *); omega)
  refine z_iconst (pc := 8) C dX6_parse_8 ?_
  refine z_istore_n (pc := 9) (lv' := [some (zrf E 31), some (ziv 0), none, none, none, none]) C hN dX6_parse_9 rfl (by decide) rfl ?_
  have L10 : ∀ (n : Nat) (i : Int) (ρ : ZSt), zRg i → 0 ≤ i ∧ i ≤ σ 31 16 → ρ = mrow (zup σ 31 25 (σ 31 16)) 48 (σ 43) i.toNat → zRs ρ → IM ρ → (σ 31 16 - i).toNat < n → ZG E Γ 10 [some (zrf E 31), some (ziv i), none, none, none, none] [] ρ := by
    intro n
    induction n with
    | zero => intro i ρ hi hi0 ht hRr hIr hm; exact absurd hm (by omega)
    | succ n ih =>
      intro i ρ hi hi0 ht hRr hIr hm
      have hq : ∀ c, c ≠ 48 → c ≠ 31 → ρ c = σ c := fun c hc hc2 => by rw [ht, mrow_row hc, zup_row hc2]
      have hq31 : ρ 31 = zup σ 31 25 (σ 31 16) 31 := by rw [ht, mrow_row (by decide)]
      refine z_iload_n (pc := 10) C dX6_parse_10 rfl rfl ?_
      refine z_aload_nZ (pc := 11) C dX6_parse_11 rfl rfl ?_
      refine z_getIe (pc := 12) (v := σ 31 16) C fX6_251 sh31 rfl dX6_parse_12 (by rw [hq31, zup_place (by decide)]) ?_
      refine z_icmp_ge (pc := 15) C 36 hi (hR 31 16) dX6_parse_15 rfl (fun c_15 => ?_) (fun c_15 => ?_)
      · refine z_aload_nZ (pc := 36) C dX6_parse_36 rfl rfl ?_
        refine z_callVi (pc := 37) (rest := []) C (C_X6_readAll E ρ hRr (xcopy τ 23 19) hIr (by rw [ht, show i = σ 31 16 by omega]; exact rd0_copy h0)) vX6_245 (by decide) sh31 rfl rfl rfl (Nat.le_of_ble_eq_true rfl) dX6_parse_37 (fun r_37 σ_37 g_37 hR_37 hp_37 => ?_)
        have hpr : PR τ σ σ_37 := ⟨by have h9 := hp_37.2.1; rw [ht, show i = σ 31 16 by omega] at h9; exact h9, hp_37.2.2⟩
        have hI_37 : IM σ_37 := hIr.same hp_37.2.1
        refine z_if_ne (pc := 40) C 62 g_37 dX6_parse_40 rfl (fun c_40 => ?_) (fun c_40 => ?_)
        · have c_40 := zb1 hp_37.1 c_40
          have hfin := hpr.fin c_40
          have h30 : σ_37 31 30 = xreads (xcopy τ 23 19) 13 5 := hfin.1.1
          have h37 : σ_37 31 37 = xreads (xcopy τ 23 19) 13 5 - 1 := hfin.2.1
          have hfb := hfin.2.2.1
          have h75 : σ_37 31 11 = xreads (xcopy τ 23 19) 7 5 := (PR.sn hpr h0).1
          have h750 : 0 ≤ xreads (xcopy τ 23 19) 7 5 := by rw [← h75]; exact hI_37.nds.1
          refine z_aload_nZ (pc := 62) C dX6_parse_62 rfl rfl ?_
          refine z_getI (pc := 63) C fX6_175 sh31 rfl dX6_parse_63 ?_
          refine z_bipush (pc := 66) C dX6_parse_66 (by decide) ?_
          refine z_icmp_le (pc := 68) C 74 (hR_37 31 _) (zRgL rfl) dX6_parse_68 rfl (fun c_68 => ?_) (fun c_68 => ?_)
          · refine z_aload_nZ (pc := 74) C dX6_parse_74 rfl rfl ?_
            refine z_getI (pc := 75) C fX6_94 sh31 rfl dX6_parse_75 ?_
            refine z_aload_nZ (pc := 78) C dX6_parse_78 rfl rfl ?_
            refine z_getI (pc := 79) C fX6_175 sh31 rfl dX6_parse_79 ?_
            refine z_iadd (pc := 82) C dX6_parse_82 ?_
            refine z_bipush (pc := 83) C dX6_parse_83 (by decide) ?_
            refine z_icmp_le (pc := 85) C 91 (by (try unfold zRg at *); (try simp only [IX, IM] at *); omega) (zRgL rfl) dX6_parse_85 rfl (fun c_85 => ?_) (fun c_85 => ?_)
            · refine z_aload_nZ (pc := 91) C dX6_parse_91 rfl rfl ?_
              refine z_getI (pc := 92) C fX6_94 sh31 rfl dX6_parse_92 ?_
              refine z_istore_n (pc := 95) (lv' := [some (zrf E 31), some (ziv (σ_37 31 11)), none, none, none, none]) C hN dX6_parse_95 rfl (by decide) rfl ?_
              refine z_iconst (pc := 96) C dX6_parse_96 ?_
              refine z_istore_n (pc := 97) (lv' := [some (zrf E 31), some (ziv (σ_37 31 11)), some (ziv 0), none, none, none]) C hN dX6_parse_97 rfl (by decide) rfl ?_
              have L98 : ∀ (n : Nat) (k : Int) (ξ : ZSt), zRg k → 0 ≤ k ∧ k ≤ σ_37 31 30 → zRs ξ → PJ (xreads (xcopy τ 23 19)) σ_37 ξ k.toNat → (σ_37 31 30 - k).toNat < n → ZG E Γ 98 [some (zrf E 31), some (ziv (σ_37 31 11)), some (ziv k), none, none, none] [] ξ := by
                intro n
                induction n with
                | zero => intro k ξ hkr hk0 hRx hj hm; exact absurd hm (by omega)
                | succ n ih =>
                  intro k ξ hkr hk0 hRx hj hm
                  have hIx : IM ξ := hj.im hI_37 (by omega) (by omega)
                  have hx : ∀ c, c ≠ 31 ∧ ¬ (37 ≤ c ∧ c ≤ 41) → ξ c = σ_37 c := hj.2.2.2.2.1
                  have hx31 : ∀ j, j ≠ 11 → ξ 31 j = σ_37 31 j := hj.2.2.2.2.2
                  have h11 : ξ 31 11 = xreads (xcopy τ 23 19) 7 5 + k := by rw [hj.1.1, hj.2.2.1]; omega
                  refine z_iload_n (pc := 98) C dX6_parse_98 rfl rfl ?_
                  refine z_aload_nZ (pc := 99) C dX6_parse_99 rfl rfl ?_
                  refine z_getIe (pc := 100) (v := σ_37 31 30) C fX6_175 sh31 rfl dX6_parse_100 (hx31 30 (by decide)) ?_
                  refine z_icmp_ge (pc := 103) C 180 hkr (hR_37 31 30) dX6_parse_103 rfl (fun c_103 => ?_) (fun c_103 => ?_)
                  · refine z_iload_n (pc := 180) C dX6_parse_180 rfl rfl ?_
                    refine z_aload_nZ (pc := 181) C dX6_parse_181 rfl rfl ?_
                    refine z_getIe (pc := 182) (v := σ_37 31 37) C fX6_203 sh31 rfl dX6_parse_182 (hx31 37 (by decide)) ?_
                    refine z_iadd (pc := 185) C dX6_parse_185 ?_
                    refine hret 186 _ _ _ dX6_parse_186 (by (try unfold zRg at *); (try simp only [IX, IM] at *); omega) hRx ?_
                    exact ⟨hpr.done h0 he c_40 (by omega) (by omega) (by omega) hj (by omega), hIx⟩
                  · have hst0 := hj.step hfin (by omega) (by omega) (by omega) (by omega)
                    obtain ⟨hst, hb1, hb2⟩ := hst0
                    have hs1 : 0 ≤ σ_37 51 k.toNat → xreads (xcopy τ 23 19) 7 5 + σ_37 51 k.toNat < 100 := fun h => by have h9 := hb1; unfold msh at h9; rw [if_neg (by omega)] at h9; exact h9
                    have hs2 : 0 ≤ σ_37 52 k.toNat → xreads (xcopy τ 23 19) 7 5 + σ_37 52 k.toNat < 100 := fun h => by have h9 := hb2; unfold msh at h9; rw [if_neg (by omega)] at h9; exact h9
                    have L128 : ∀ (a : Int), zRg a → a = msh (xreads (xcopy τ 23 19) 7 5) (σ_37 51 k.toNat) → ZG E Γ 128 [some (zrf E 31), some (ziv (σ_37 31 11)), some (ziv k), none, none, none] [ziv a] ξ := by
                      intro a har ea
                      refine z_istore_n (pc := 128) (lv' := [some (zrf E 31), some (ziv (σ_37 31 11)), some (ziv k), some (ziv a), none, none]) C hN dX6_parse_128 rfl (by decide) rfl ?_
                      have L151 : ∀ (e : Int), zRg e → e = msh (xreads (xcopy τ 23 19) 7 5) (σ_37 52 k.toNat) → ZG E Γ 151 [some (zrf E 31), some (ziv (σ_37 31 11)), some (ziv k), some (ziv a), none, none] [ziv e] ξ := by
                        intro e her ee
                        refine z_istore (pc := 151) (lv' := [some (zrf E 31), some (ziv (σ_37 31 11)), some (ziv k), some (ziv a), some (ziv e), none]) C hN dX6_parse_151 (by decide) rfl ?_
                        refine z_aload_nZ (pc := 153) C dX6_parse_153 rfl rfl ?_
                        refine z_aload_nZ (pc := 154) C dX6_parse_154 rfl rfl ?_
                        refine z_getR (pc := 155) C fX6_72 sh31 rfl dX6_parse_155 ?_
                        refine z_iload_n (pc := 158) C dX6_parse_158 rfl rfl ?_
                        refine z_ialde (pc := 159) (v := σ_37 49 k.toNat) C sh49 (by (try unfold zRg at *); (try simp only [IX, IM] at *); omega) (by (try unfold zRg at *); (try simp only [IX, IM] at *); omega) dX6_parse_159 (by rw [hx 49 (by decide)]) ?_
                        refine z_aload_nZ (pc := 160) C dX6_parse_160 rfl rfl ?_
                        refine z_getR (pc := 161) C fX6_75 sh31 rfl dX6_parse_161 ?_
                        refine z_iload_n (pc := 164) C dX6_parse_164 rfl rfl ?_
                        refine z_ialde (pc := 165) (v := σ_37 50 k.toNat) C sh50 (by (try unfold zRg at *); (try simp only [IX, IM] at *); omega) (by (try unfold zRg at *); (try simp only [IX, IM] at *); omega) dX6_parse_165 (by rw [hx 50 (by decide)]) ?_
                        refine z_iload_n (pc := 166) C dX6_parse_166 rfl rfl ?_
                        refine z_iload (pc := 167) C dX6_parse_167 rfl ?_
                        refine z_callVi (pc := 169) (rest := []) C (C_X6_addNode E ξ hRx (σ_37 49 k.toNat) (hR_37 49 _) (σ_37 50 k.toNat) (hR_37 50 _) a har e her hIx (by (try unfold zRg at *); (try simp only [IX, IM] at *); omega) (by rw [ea]; exact hb1) (by rw [ee]; exact hb2)) vX6_112 (by decide) sh31 rfl rfl rfl (Nat.le_of_ble_eq_true rfl) dX6_parse_169 (fun r_169 σ_169 g_169 hR_169 hp_169 => ?_)
                        refine z_istore (pc := 172) (lv' := [some (zrf E 31), some (ziv (σ_37 31 11)), some (ziv k), some (ziv a), some (ziv e), some (ziv r_169)]) C hN dX6_parse_172 (by decide) rfl ?_
                        refine z_iinc (pc := 174) (lv' := [some (zrf E 31), some (ziv (σ_37 31 11)), some (ziv (k + 1)), some (ziv a), some (ziv e), some (ziv r_169)]) C hN dX6_parse_174 (by decide) rfl rfl ?_
                        refine z_goto (pc := 177) C 98 dX6_parse_177 rfl ?_
                        refine z_weak (lv' := [some (zrf E 31), some (ziv (σ_37 31 11)), some (ziv (k + 1)), none, none, none]) ⟨rfl, rfl, rfl, trivial⟩ ?_
                        exact ih _ _ (by (try unfold zRg at *); (try simp only [IX, IM] at *); omega) (by omega) hR_169 (by rw [hp_169.2, show (k + 1).toNat = k.toNat + 1 by omega, ea, ee]; exact hst) (by omega)
                      refine z_aload_nZ (pc := 129) C dX6_parse_129 rfl rfl ?_
                      refine z_getR (pc := 130) C fX6_81 sh31 rfl dX6_parse_130 ?_
                      refine z_iload_n (pc := 133) C dX6_parse_133 rfl rfl ?_
                      refine z_ialde (pc := 134) (v := σ_37 52 k.toNat) C sh52 (by (try unfold zRg at *); (try simp only [IX, IM] at *); omega) (by (try unfold zRg at *); (try simp only [IX, IM] at *); omega) dX6_parse_134 (by rw [hx 52 (by decide)]) ?_
                      refine z_if_ge (pc := 135) C 143 (hR_37 52 _) dX6_parse_135 rfl (fun c_135 => ?_) (fun c_135 => ?_)
                      · refine z_iload_n (pc := 143) C dX6_parse_143 rfl rfl ?_
                        refine z_aload_nZ (pc := 144) C dX6_parse_144 rfl rfl ?_
                        refine z_getR (pc := 145) C fX6_81 sh31 rfl dX6_parse_145 ?_
                        refine z_iload_n (pc := 148) C dX6_parse_148 rfl rfl ?_
                        refine z_ialde (pc := 149) (v := σ_37 52 k.toNat) C sh52 (by (try unfold zRg at *); (try simp only [IX, IM] at *); omega) (by (try unfold zRg at *); (try simp only [IX, IM] at *); omega) dX6_parse_149 (by rw [hx 52 (by decide)]) ?_
                        refine z_iadd (pc := 150) C dX6_parse_150 ?_
                        exact L151 _ (by (try unfold zRg at *); (try simp only [IX, IM] at *); omega) (by unfold msh; first | rw [if_pos (by omega)] | (rw [if_neg (by omega)]; omega))
                      · refine z_bipush (pc := 138) C dX6_parse_138 (by decide) ?_
                        refine z_goto (pc := 140) C 151 dX6_parse_140 rfl ?_
                        exact L151 _ (zRgL rfl) (by unfold msh; first | rw [if_pos (by omega)] | (rw [if_neg (by omega)]; omega))
                    refine z_aload_nZ (pc := 106) C dX6_parse_106 rfl rfl ?_
                    refine z_getR (pc := 107) C fX6_78 sh31 rfl dX6_parse_107 ?_
                    refine z_iload_n (pc := 110) C dX6_parse_110 rfl rfl ?_
                    refine z_ialde (pc := 111) (v := σ_37 51 k.toNat) C sh51 (by (try unfold zRg at *); (try simp only [IX, IM] at *); omega) (by (try unfold zRg at *); (try simp only [IX, IM] at *); omega) dX6_parse_111 (by rw [hx 51 (by decide)]) ?_
                    refine z_if_ge (pc := 112) C 120 (hR_37 51 _) dX6_parse_112 rfl (fun c_112 => ?_) (fun c_112 => ?_)
                    · refine z_iload_n (pc := 120) C dX6_parse_120 rfl rfl ?_
                      refine z_aload_nZ (pc := 121) C dX6_parse_121 rfl rfl ?_
                      refine z_getR (pc := 122) C fX6_78 sh31 rfl dX6_parse_122 ?_
                      refine z_iload_n (pc := 125) C dX6_parse_125 rfl rfl ?_
                      refine z_ialde (pc := 126) (v := σ_37 51 k.toNat) C sh51 (by (try unfold zRg at *); (try simp only [IX, IM] at *); omega) (by (try unfold zRg at *); (try simp only [IX, IM] at *); omega) dX6_parse_126 (by rw [hx 51 (by decide)]) ?_
                      refine z_iadd (pc := 127) C dX6_parse_127 ?_
                      exact L128 _ (by (try unfold zRg at *); (try simp only [IX, IM] at *); omega) (by unfold msh; first | rw [if_pos (by omega)] | (rw [if_neg (by omega)]; omega))
                    · refine z_bipush (pc := 115) C dX6_parse_115 (by decide) ?_
                      refine z_goto (pc := 117) C 128 dX6_parse_117 rfl ?_
                      exact L128 _ (zRgL rfl) (by unfold msh; first | rw [if_pos (by omega)] | (rw [if_neg (by omega)]; omega))
              have hz := PJ.zero (PR.sn hpr h0) (PR.w7 h0)
              exact L98 _ 0 σ_37 (zRgL rfl) (by omega) hR_37 hz (Nat.lt_succ_self _)
            · refine z_bipush (pc := 88) C dX6_parse_88 (by decide) ?_
              refine hret 90 _ _ _ dX6_parse_90 (zRgL rfl) hR_37 ?_
              exact ⟨hpr.keep h0 he (by unfold xparse; rw [zif_pos c_40, zif_neg (by omega), zif_pos (by omega)]), hI_37⟩
          · refine z_bipush (pc := 71) C dX6_parse_71 (by decide) ?_
            refine hret 73 _ _ _ dX6_parse_73 (zRgL rfl) hR_37 ?_
            exact ⟨hpr.keep h0 he (by unfold xparse; rw [zif_pos c_40, zif_pos (by omega)]), hI_37⟩
        · have c_40 := zb0 hp_37.1 c_40
          refine z_aload_nZ (pc := 43) C dX6_parse_43 rfl rfl ?_
          refine z_aload_nZ (pc := 44) C dX6_parse_44 rfl rfl ?_
          refine z_getI (pc := 45) C fX6_178 sh31 rfl dX6_parse_45 ?_
          refine z_putI (pc := 48) C hR_37 fX6_51 sh31 rfl (hR_37 31 _) dX6_parse_48 (fun σ_48 e_48 hR_48 => ?_)
          have hI_48 : IM σ_48 := by rw [e_48]; exact hI_37.upF rfl
          refine z_aload_nZ (pc := 51) C dX6_parse_51 rfl rfl ?_
          refine z_aload_nZ (pc := 52) C dX6_parse_52 rfl rfl ?_
          refine z_getIe (pc := 53) (v := σ_37 31 34) C fX6_181 sh31 rfl dX6_parse_53 (by rw [e_48, zup_place (by decide)]) ?_
          refine z_putI (pc := 56) C hR_48 fX6_54 sh31 rfl (hR_37 31 34) dX6_parse_56 (fun σ_56 e_56 hR_56 => ?_)
          have hI_56 : IM σ_56 := by rw [e_56]; exact hI_48.upF rfl
          refine z_bipush (pc := 59) C dX6_parse_59 (by decide) ?_
          refine hret 61 _ _ _ dX6_parse_61 (zRgL rfl) hR_56 ?_
          have e9 : σ_56 = zup (zup σ_37 31 17 (σ_37 31 33)) 31 18 (σ_37 31 34) := by rw [e_56, e_48]
          refine ⟨?_, hI_56⟩
          rw [e9]
          exact hpr.fail h0 c_40
      · refine z_aload_nZ (pc := 18) C dX6_parse_18 rfl rfl ?_
        refine z_getR (pc := 19) C fX6_69 sh31 rfl dX6_parse_19 ?_
        refine z_iload_n (pc := 22) C dX6_parse_22 rfl rfl ?_
        refine z_aload_nZ (pc := 23) C dX6_parse_23 rfl rfl ?_
        refine z_getR (pc := 24) C fX6_48 sh31 rfl dX6_parse_24 ?_
        refine z_iload_n (pc := 27) C dX6_parse_27 rfl rfl ?_
        refine z_ialde (pc := 28) (v := σ 43 i.toNat) C sh43 (by (try unfold zRg at *); (try simp only [IX, IM] at *); omega) (by (try unfold zRg at *); (try simp only [IX, IM] at *); omega) dX6_parse_28 (by rw [hq 43 (by decide) (by decide)]) ?_
        refine z_iast (pc := 29) C hRr sh48 (by (try unfold zRg at *); (try simp only [IX, IM] at *); omega) (by (try unfold zRg at *); (try simp only [IX, IM] at *); omega) (hR 43 _) dX6_parse_29 (fun σ_29 e_29 hR_29 => ?_)
        have hI_29 : IM σ_29 := by rw [e_29]; exact hIr.upA rfl
        refine z_iinc (pc := 30) (lv' := [some (zrf E 31), some (ziv (i + 1)), none, none, none, none]) C hN dX6_parse_30 (by decide) rfl rfl ?_
        refine z_goto (pc := 33) C 10 dX6_parse_33 rfl ?_
        exact ih _ _ (by (try unfold zRg at *); (try simp only [IX, IM] at *); omega) (by omega) (by rw [e_29, ht, show (i + 1).toNat = i.toNat + 1 by omega, ← mrow_st]) hR_29 hI_29 (by omega)
  exact L10 _ 0 σ_5 (zRgL rfl) (by omega) (by rw [e_5]; exact (mrow_0 _ _ _).symm) hR_5 hI_5 (Nat.lt_succ_self _)
