/-! ===== the law's body ===== -/
def LX (Γ : ZT) (b L : Nat) (xs : Nat → Int32) : Prop := match Γ with
  | (_, _, _, _, s, _, _, _, _, _, A, _, _, _, _) => va_X b L xs s s.heap ∧ b < s.heap.size ∧ ¬ A b
section LAW
variable {E : ZE} {Γ : ZT} {h : Nat} {own : String} {cc : ByteArray} {pc : Nat} {lv : List (Option Value)} {st : List Value} {σ : ZSt}
theorem z_sld (C : ZC E Γ h own cc) {b L : Nat} {xs : Nat → Int32} (X : LX Γ b L xs) (hL : L ≤ 2048) {i : Int} (hi : 0 ≤ i ∧ i < L) (hd : decode cc pc = .ok (.iaload, 1)) (kk : ZG E Γ (pc + 1) lv (ziv (xs i.toNat).toInt :: st) σ) : ZG E Γ pc lv (ziv i :: .ref b :: st) σ := by
  obtain ⟨p, l, e, R, s, m, args, below, meth, c, A, Q, nL, cells, slots⟩ := Γ
  obtain ⟨hx, hb, -⟩ := C
  obtain ⟨x1, x2, x3⟩ := X
  intro H locs ls hP hS hl
  have k2 := kk H locs ls hP hS hl
  refine va_sld hx hb x1 x2 x3 hS (zi_in hi.1 hi.2 (by omega)) hd ?_
  rw [zi_clamp ⟨by omega, by omega⟩]
  unfold ziv at k2
  rw [zi_of] at k2
  exact k2
theorem z_slen (C : ZC E Γ h own cc) {b L : Nat} {xs : Nat → Int32} (X : LX Γ b L xs) (hd : decode cc pc = .ok (.arraylength, 1)) (kk : ZG E Γ (pc + 1) lv (ziv L :: st) σ) : ZG E Γ pc lv (.ref b :: st) σ := by
  obtain ⟨p, l, e, R, s, m, args, below, meth, c, A, Q, nL, cells, slots⟩ := Γ
  obtain ⟨hx, hb, -⟩ := C
  obtain ⟨x1, x2, x3⟩ := X
  intro H locs ls hP hS hl
  exact va_slen hx hb x1 x2 x3 hS hd (kk H locs ls hP hS hl)
theorem and31 (x : Int32) : 0 ≤ (x &&& 31).toInt ∧ (x &&& 31).toInt ≤ 31 := by
  have h : (x &&& 31).toBitVec.toNat ≤ 31 := by
    rw [Int32.toBitVec_and, BitVec.toNat_and]
    exact Nat.and_le_right
  have e : (x &&& 31).toInt = ((x &&& 31).toBitVec.toNat : Int) := BitVec.toInt_eq_toNat_of_lt (by omega)
  omega
theorem z_iand31 (C : ZC E Γ h own cc) {a : Int} (hd : decode cc pc = .ok (.iand, 1)) (kk : ∀ t : Int, 0 ≤ t ∧ t ≤ 31 → ZG E Γ (pc + 1) lv (ziv t :: st) σ) : ZG E Γ pc lv (ziv 31 :: ziv a :: st) σ := by
  obtain ⟨p, l, e, R, s, m, args, below, meth, c, A, Q, nL, cells, slots⟩ := Γ
  obtain ⟨hx, hb, -⟩ := C
  intro H locs ls hP hS hl
  have k2 := kk (zi a &&& 31).toInt (and31 _) H locs ls hP hS hl
  unfold ziv at k2
  rw [zi_of] at k2
  exact lv_iand hx hb hd k2
theorem z_tableIn (C : ZC E Γ h own cc) {dflt lo hi off : Int} {offs : Array Int} {len tgt : Nat} {a : Int} (ha : zRg a) (hd : decode cc pc = .ok (.tableswitch dflt lo hi offs, len)) (h1 : lo ≤ a ∧ a ≤ hi) (ho : offs[(a - lo).toNat]? = some off) (ht : (pc : Int) + off = (tgt : Int)) (kk : ZG E Γ tgt lv st σ) : ZG E Γ pc lv (ziv a :: st) σ := by
  obtain ⟨p, l, e, R, s, m, args, below, meth, c, A, Q, nL, cells, slots⟩ := Γ
  obtain ⟨hx, hb, -⟩ := C
  intro H locs ls hP hS hl
  exact lv_tableIn hx hb hd (by rw [zi_toInt ha]; omega) (by rw [zi_toInt ha]; omega) (by rw [zi_toInt ha]; exact ho) ht (kk H locs ls hP hS hl)
theorem z_tableOut (C : ZC E Γ h own cc) {dflt lo hi : Int} {offs : Array Int} {len tgt : Nat} {a : Int} (ha : zRg a) (hd : decode cc pc = .ok (.tableswitch dflt lo hi offs, len)) (h1 : a < lo ∨ hi < a) (ht : (pc : Int) + dflt = (tgt : Int)) (kk : ZG E Γ tgt lv st σ) : ZG E Γ pc lv (ziv a :: st) σ := by
  obtain ⟨p, l, e, R, s, m, args, below, meth, c, A, Q, nL, cells, slots⟩ := Γ
  obtain ⟨hx, hb, -⟩ := C
  intro H locs ls hP hS hl
  exact lv_tableOut hx hb hd (by rw [zi_toInt ha]; exact h1) ht (kk H locs ls hP hS hl)
end LAW
theorem Sim.msz {τ σ : ZSt} (s : Sim τ σ) (q : Nat) (hq : (q : Int) < σ 31 11) : 0 ≤ σ 41 q ∧ σ 41 q ≤ 40 := by
  have h9 := s.cnt.2.1
  have h1 := s.size (v := (q : Int)) ⟨by omega, by omega⟩
  have h2 := s.2.2.1.2.1.szr (q : Int)
  rw [show ((q : Nat) : Int).toNat = q by omega] at h1
  rw [h1]
  exact h2
theorem PrPost.lo {τ σ ς : ZSt} {a z r : Int} (h : PrPost τ σ a z r ς) (c : Nat) (hc : c < 31) : ς c = σ c := by
  rcases h with ⟨-, -, -, k1, -⟩ | ⟨-, -, k1⟩
  · exact k1 c (by omega)
  · rw [k1]
theorem law_0 {E : ZE} {Γ : ZT} {b L : Nat} {xs : Nat → Int32} (C : ZC E Γ 220 RL cL_law) (X : LX Γ b L xs) (hL : L ≤ 2048) {i : Int} (hi : 0 ≤ i ∧ i + 4 ≤ L) {ρ : ZSt} (hR : zRs ρ) (hs : Sim ρ ρ) (back : ∀ ρ, zRs ρ → Sim ρ ρ → ZG E Γ 887 [some (.ref b), some (zrf E 0), some (zrf E 31), some (ziv i)] [] ρ) : ZG E Γ 164 [some (.ref b), some (zrf E 0), some (zrf E 31), some (ziv i)] [] ρ := by
  refine z_aload_nZ (pc := 164) C dL_law_164 rfl rfl ?_
  refine z_aload_n (pc := 165) C dL_law_165 rfl rfl ?_
  refine z_iload_n (pc := 166) C dL_law_166 rfl rfl ?_
  refine z_iconst (pc := 167) C dL_law_167 ?_
  refine z_iadd (pc := 168) C dL_law_168 ?_
  refine z_sld (pc := 169) C X hL (by omega) dL_law_169 ?_
  refine z_aload_n (pc := 170) C dL_law_170 rfl rfl ?_
  refine z_iload_n (pc := 171) C dL_law_171 rfl rfl ?_
  refine z_iconst (pc := 172) C dL_law_172 ?_
  refine z_iadd (pc := 173) C dL_law_173 ?_
  refine z_sld (pc := 174) C X hL (by omega) dL_law_174 ?_
  refine z_callVi (pc := 175) (rest := []) C (C_X5_defineInfix E ρ hR ((xs (i + 1).toNat).toInt) (zRg_of _) ((xs (i + 2).toNat).toInt) (zRg_of _) hs.1.1) vL_13 (by decide) sh0 rfl rfl rfl (Nat.le_of_ble_eq_true rfl) dL_law_175 (fun r1 σ1 g1 hR1 h1 => ?_)
  have s1 : Sim ρ σ1 := hs.cl (fun c hc => by rw [h1.2]; exact hi_define hc)
  refine z_aload_nZ (pc := 178) C dL_law_178 rfl rfl ?_
  refine z_aload_n (pc := 179) C dL_law_179 rfl rfl ?_
  refine z_iload_n (pc := 180) C dL_law_180 rfl rfl ?_
  refine z_iconst (pc := 181) C dL_law_181 ?_
  refine z_iadd (pc := 182) C dL_law_182 ?_
  refine z_sld (pc := 183) C X hL (by omega) dL_law_183 ?_
  refine z_aload_n (pc := 184) C dL_law_184 rfl rfl ?_
  refine z_iload_n (pc := 185) C dL_law_185 rfl rfl ?_
  refine z_iconst (pc := 186) C dL_law_186 ?_
  refine z_iadd (pc := 187) C dL_law_187 ?_
  refine z_sld (pc := 188) C X hL (by omega) dL_law_188 ?_
  refine z_callVi (pc := 189) (rest := [ziv r1]) C (C_X6_defineInfix E σ1 hR1 ((xs (i + 1).toNat).toInt) (zRg_of _) ((xs (i + 2).toNat).toInt) (zRg_of _) s1.1.2) vL_17 (by decide) sh31 rfl rfl rfl (Nat.le_of_ble_eq_true rfl) dL_law_189 (fun r2 σ2 g2 hR2 h2 => ?_)
  have e8 := (sim_define (a := ((xs (i + 1).toNat).toInt)) (b := 0) (c := ((xs (i + 2).toNat).toInt)) s1 (by decide))
  rw [← h1.1, ← h1.2, ← h2.1, ← h2.2] at e8
  have e9 : r1 = r2 := e8.1.symm
  exact z_icmp_eq (pc := 192) C 887 g1 g2 dL_law_192 rfl (fun _ => back σ2 hR2 (e8.2.ml (fun c hc => by rw [h2.2]; exact lo_define hc))) (fun q => absurd e9 q)
theorem law_1 {E : ZE} {Γ : ZT} {b L : Nat} {xs : Nat → Int32} (C : ZC E Γ 220 RL cL_law) (X : LX Γ b L xs) (hL : L ≤ 2048) {i : Int} (hi : 0 ≤ i ∧ i + 4 ≤ L) {ρ : ZSt} (hR : zRs ρ) (hs : Sim ρ ρ) (back : ∀ ρ, zRs ρ → Sim ρ ρ → ZG E Γ 887 [some (.ref b), some (zrf E 0), some (zrf E 31), some (ziv i)] [] ρ) : ZG E Γ 197 [some (.ref b), some (zrf E 0), some (zrf E 31), some (ziv i)] [] ρ := by
  refine z_aload_nZ (pc := 197) C dL_law_197 rfl rfl ?_
  refine z_aload_n (pc := 198) C dL_law_198 rfl rfl ?_
  refine z_iload_n (pc := 199) C dL_law_199 rfl rfl ?_
  refine z_iconst (pc := 200) C dL_law_200 ?_
  refine z_iadd (pc := 201) C dL_law_201 ?_
  refine z_sld (pc := 202) C X hL (by omega) dL_law_202 ?_
  refine z_aload_n (pc := 203) C dL_law_203 rfl rfl ?_
  refine z_iload_n (pc := 204) C dL_law_204 rfl rfl ?_
  refine z_iconst (pc := 205) C dL_law_205 ?_
  refine z_iadd (pc := 206) C dL_law_206 ?_
  refine z_sld (pc := 207) C X hL (by omega) dL_law_207 ?_
  refine z_callVi (pc := 208) (rest := []) C (C_X5_definePrefix E ρ hR ((xs (i + 1).toNat).toInt) (zRg_of _) ((xs (i + 2).toNat).toInt) (zRg_of _) hs.1.1) vL_18 (by decide) sh0 rfl rfl rfl (Nat.le_of_ble_eq_true rfl) dL_law_208 (fun r1 σ1 g1 hR1 h1 => ?_)
  have s1 : Sim ρ σ1 := hs.cl (fun c hc => by rw [h1.2]; exact hi_define hc)
  refine z_aload_nZ (pc := 211) C dL_law_211 rfl rfl ?_
  refine z_aload_n (pc := 212) C dL_law_212 rfl rfl ?_
  refine z_iload_n (pc := 213) C dL_law_213 rfl rfl ?_
  refine z_iconst (pc := 214) C dL_law_214 ?_
  refine z_iadd (pc := 215) C dL_law_215 ?_
  refine z_sld (pc := 216) C X hL (by omega) dL_law_216 ?_
  refine z_aload_n (pc := 217) C dL_law_217 rfl rfl ?_
  refine z_iload_n (pc := 218) C dL_law_218 rfl rfl ?_
  refine z_iconst (pc := 219) C dL_law_219 ?_
  refine z_iadd (pc := 220) C dL_law_220 ?_
  refine z_sld (pc := 221) C X hL (by omega) dL_law_221 ?_
  refine z_callVi (pc := 222) (rest := [ziv r1]) C (C_X6_definePrefix E σ1 hR1 ((xs (i + 1).toNat).toInt) (zRg_of _) ((xs (i + 2).toNat).toInt) (zRg_of _) s1.1.2) vL_21 (by decide) sh31 rfl rfl rfl (Nat.le_of_ble_eq_true rfl) dL_law_222 (fun r2 σ2 g2 hR2 h2 => ?_)
  have e8 := (sim_define (a := ((xs (i + 1).toNat).toInt)) (b := 1) (c := ((xs (i + 2).toNat).toInt)) s1 (by decide))
  rw [← h1.1, ← h1.2, ← h2.1, ← h2.2] at e8
  have e9 : r1 = r2 := e8.1.symm
  exact z_icmp_eq (pc := 225) C 887 g1 g2 dL_law_225 rfl (fun _ => back σ2 hR2 (e8.2.ml (fun c hc => by rw [h2.2]; exact lo_define hc))) (fun q => absurd e9 q)
theorem law_2 {E : ZE} {Γ : ZT} {b L : Nat} {xs : Nat → Int32} (C : ZC E Γ 220 RL cL_law) (X : LX Γ b L xs) (hL : L ≤ 2048) {i : Int} (hi : 0 ≤ i ∧ i + 4 ≤ L) {ρ : ZSt} (hR : zRs ρ) (hs : Sim ρ ρ) (back : ∀ ρ, zRs ρ → Sim ρ ρ → ZG E Γ 887 [some (.ref b), some (zrf E 0), some (zrf E 31), some (ziv i)] [] ρ) : ZG E Γ 230 [some (.ref b), some (zrf E 0), some (zrf E 31), some (ziv i)] [] ρ := by
  refine z_aload_nZ (pc := 230) C dL_law_230 rfl rfl ?_
  refine z_aload_n (pc := 231) C dL_law_231 rfl rfl ?_
  refine z_iload_n (pc := 232) C dL_law_232 rfl rfl ?_
  refine z_iconst (pc := 233) C dL_law_233 ?_
  refine z_iadd (pc := 234) C dL_law_234 ?_
  refine z_sld (pc := 235) C X hL (by omega) dL_law_235 ?_
  refine z_aload_n (pc := 236) C dL_law_236 rfl rfl ?_
  refine z_iload_n (pc := 237) C dL_law_237 rfl rfl ?_
  refine z_iconst (pc := 238) C dL_law_238 ?_
  refine z_iadd (pc := 239) C dL_law_239 ?_
  refine z_sld (pc := 240) C X hL (by omega) dL_law_240 ?_
  refine z_callVi (pc := 241) (rest := []) C (C_X5_definePostfix E ρ hR ((xs (i + 1).toNat).toInt) (zRg_of _) ((xs (i + 2).toNat).toInt) (zRg_of _) hs.1.1) vL_22 (by decide) sh0 rfl rfl rfl (Nat.le_of_ble_eq_true rfl) dL_law_241 (fun r1 σ1 g1 hR1 h1 => ?_)
  have s1 : Sim ρ σ1 := hs.cl (fun c hc => by rw [h1.2]; exact hi_define hc)
  refine z_aload_nZ (pc := 244) C dL_law_244 rfl rfl ?_
  refine z_aload_n (pc := 245) C dL_law_245 rfl rfl ?_
  refine z_iload_n (pc := 246) C dL_law_246 rfl rfl ?_
  refine z_iconst (pc := 247) C dL_law_247 ?_
  refine z_iadd (pc := 248) C dL_law_248 ?_
  refine z_sld (pc := 249) C X hL (by omega) dL_law_249 ?_
  refine z_aload_n (pc := 250) C dL_law_250 rfl rfl ?_
  refine z_iload_n (pc := 251) C dL_law_251 rfl rfl ?_
  refine z_iconst (pc := 252) C dL_law_252 ?_
  refine z_iadd (pc := 253) C dL_law_253 ?_
  refine z_sld (pc := 254) C X hL (by omega) dL_law_254 ?_
  refine z_callVi (pc := 255) (rest := [ziv r1]) C (C_X6_definePostfix E σ1 hR1 ((xs (i + 1).toNat).toInt) (zRg_of _) ((xs (i + 2).toNat).toInt) (zRg_of _) s1.1.2) vL_25 (by decide) sh31 rfl rfl rfl (Nat.le_of_ble_eq_true rfl) dL_law_255 (fun r2 σ2 g2 hR2 h2 => ?_)
  have e8 := (sim_define (a := ((xs (i + 1).toNat).toInt)) (b := 2) (c := ((xs (i + 2).toNat).toInt)) s1 (by decide))
  rw [← h1.1, ← h1.2, ← h2.1, ← h2.2] at e8
  have e9 : r1 = r2 := e8.1.symm
  exact z_icmp_eq (pc := 258) C 887 g1 g2 dL_law_258 rfl (fun _ => back σ2 hR2 (e8.2.ml (fun c hc => by rw [h2.2]; exact lo_define hc))) (fun q => absurd e9 q)
theorem law_3 {E : ZE} {Γ : ZT} {b L : Nat} {xs : Nat → Int32} (C : ZC E Γ 220 RL cL_law) (X : LX Γ b L xs) (hL : L ≤ 2048) {i : Int} (hi : 0 ≤ i ∧ i + 4 ≤ L) {ρ : ZSt} (hR : zRs ρ) (hs : Sim ρ ρ) (back : ∀ ρ, zRs ρ → Sim ρ ρ → ZG E Γ 887 [some (.ref b), some (zrf E 0), some (zrf E 31), some (ziv i)] [] ρ) : ZG E Γ 263 [some (.ref b), some (zrf E 0), some (zrf E 31), some (ziv i)] [] ρ := by
  refine z_aload_nZ (pc := 263) C dL_law_263 rfl rfl ?_
  refine z_callVp (pc := 264) (rest := []) C (C_X5_operatorCount E ρ hR ) vL_26 (by decide) sh0 rfl rfl rfl (Nat.le_of_ble_eq_true rfl) dL_law_264 (fun r1 g1 h1 => ?_)
  refine z_aload_nZ (pc := 267) C dL_law_267 rfl rfl ?_
  refine z_callVp (pc := 268) (rest := [ziv r1]) C (C_X6_operatorCount E ρ hR ) vL_30 (by decide) sh31 rfl rfl rfl (Nat.le_of_ble_eq_true rfl) dL_law_268 (fun r2 g2 h2 => ?_)
  have e9 : r1 = r2 := by rw [h1, h2]; exact (hs.cnt.1).symm
  exact z_icmp_eq (pc := 271) C 887 g1 g2 dL_law_271 rfl (fun _ => back ρ hR hs) (fun q => absurd e9 q)
theorem law_4 {E : ZE} {Γ : ZT} {b L : Nat} {xs : Nat → Int32} (C : ZC E Γ 220 RL cL_law) (X : LX Γ b L xs) (hL : L ≤ 2048) {i : Int} (hi : 0 ≤ i ∧ i + 4 ≤ L) {ρ : ZSt} (hR : zRs ρ) (hs : Sim ρ ρ) (back : ∀ ρ, zRs ρ → Sim ρ ρ → ZG E Γ 887 [some (.ref b), some (zrf E 0), some (zrf E 31), some (ziv i)] [] ρ) : ZG E Γ 276 [some (.ref b), some (zrf E 0), some (zrf E 31), some (ziv i)] [] ρ := by
  refine z_aload_nZ (pc := 276) C dL_law_276 rfl rfl ?_
  refine z_aload_n (pc := 277) C dL_law_277 rfl rfl ?_
  refine z_iload_n (pc := 278) C dL_law_278 rfl rfl ?_
  refine z_iconst (pc := 279) C dL_law_279 ?_
  refine z_iadd (pc := 280) C dL_law_280 ?_
  refine z_sld (pc := 281) C X hL (by omega) dL_law_281 ?_
  refine z_callVp (pc := 282) (rest := []) C (C_X5_symbol E ρ hR ((xs (i + 1).toNat).toInt) (zRg_of _) hs.1.1) vL_31 (by decide) sh0 rfl rfl rfl (Nat.le_of_ble_eq_true rfl) dL_law_282 (fun r1 g1 h1 => ?_)
  refine z_aload_nZ (pc := 285) C dL_law_285 rfl rfl ?_
  refine z_aload_n (pc := 286) C dL_law_286 rfl rfl ?_
  refine z_iload_n (pc := 287) C dL_law_287 rfl rfl ?_
  refine z_iconst (pc := 288) C dL_law_288 ?_
  refine z_iadd (pc := 289) C dL_law_289 ?_
  refine z_sld (pc := 290) C X hL (by omega) dL_law_290 ?_
  refine z_callVp (pc := 291) (rest := [ziv r1]) C (C_X6_symbol E ρ hR ((xs (i + 1).toNat).toInt) (zRg_of _) hs.1.2) vL_35 (by decide) sh31 rfl rfl rfl (Nat.le_of_ble_eq_true rfl) dL_law_291 (fun r2 g2 h2 => ?_)
  have e9 : r1 = r2 := by rw [h1, h2]; exact (g_sym hs _).symm
  exact z_icmp_eq (pc := 294) C 887 g1 g2 dL_law_294 rfl (fun _ => back ρ hR hs) (fun q => absurd e9 q)
theorem law_5 {E : ZE} {Γ : ZT} {b L : Nat} {xs : Nat → Int32} (C : ZC E Γ 220 RL cL_law) (X : LX Γ b L xs) (hL : L ≤ 2048) {i : Int} (hi : 0 ≤ i ∧ i + 4 ≤ L) {ρ : ZSt} (hR : zRs ρ) (hs : Sim ρ ρ) (back : ∀ ρ, zRs ρ → Sim ρ ρ → ZG E Γ 887 [some (.ref b), some (zrf E 0), some (zrf E 31), some (ziv i)] [] ρ) : ZG E Γ 299 [some (.ref b), some (zrf E 0), some (zrf E 31), some (ziv i)] [] ρ := by
  refine z_aload_nZ (pc := 299) C dL_law_299 rfl rfl ?_
  refine z_aload_n (pc := 300) C dL_law_300 rfl rfl ?_
  refine z_iload_n (pc := 301) C dL_law_301 rfl rfl ?_
  refine z_iconst (pc := 302) C dL_law_302 ?_
  refine z_iadd (pc := 303) C dL_law_303 ?_
  refine z_sld (pc := 304) C X hL (by omega) dL_law_304 ?_
  refine z_callVp (pc := 305) (rest := []) C (C_X5_kind E ρ hR ((xs (i + 1).toNat).toInt) (zRg_of _) hs.1.1) vL_36 (by decide) sh0 rfl rfl rfl (Nat.le_of_ble_eq_true rfl) dL_law_305 (fun r1 g1 h1 => ?_)
  refine z_aload_nZ (pc := 308) C dL_law_308 rfl rfl ?_
  refine z_aload_n (pc := 309) C dL_law_309 rfl rfl ?_
  refine z_iload_n (pc := 310) C dL_law_310 rfl rfl ?_
  refine z_iconst (pc := 311) C dL_law_311 ?_
  refine z_iadd (pc := 312) C dL_law_312 ?_
  refine z_sld (pc := 313) C X hL (by omega) dL_law_313 ?_
  refine z_callVp (pc := 314) (rest := [ziv r1]) C (C_X6_kind E ρ hR ((xs (i + 1).toNat).toInt) (zRg_of _) hs.1.2) vL_39 (by decide) sh31 rfl rfl rfl (Nat.le_of_ble_eq_true rfl) dL_law_314 (fun r2 g2 h2 => ?_)
  have e9 : r1 = r2 := by rw [h1, h2]; exact (g_kind hs _).symm
  exact z_icmp_eq (pc := 317) C 887 g1 g2 dL_law_317 rfl (fun _ => back ρ hR hs) (fun q => absurd e9 q)
theorem law_6 {E : ZE} {Γ : ZT} {b L : Nat} {xs : Nat → Int32} (C : ZC E Γ 220 RL cL_law) (X : LX Γ b L xs) (hL : L ≤ 2048) {i : Int} (hi : 0 ≤ i ∧ i + 4 ≤ L) {ρ : ZSt} (hR : zRs ρ) (hs : Sim ρ ρ) (back : ∀ ρ, zRs ρ → Sim ρ ρ → ZG E Γ 887 [some (.ref b), some (zrf E 0), some (zrf E 31), some (ziv i)] [] ρ) : ZG E Γ 322 [some (.ref b), some (zrf E 0), some (zrf E 31), some (ziv i)] [] ρ := by
  refine z_aload_nZ (pc := 322) C dL_law_322 rfl rfl ?_
  refine z_aload_n (pc := 323) C dL_law_323 rfl rfl ?_
  refine z_iload_n (pc := 324) C dL_law_324 rfl rfl ?_
  refine z_iconst (pc := 325) C dL_law_325 ?_
  refine z_iadd (pc := 326) C dL_law_326 ?_
  refine z_sld (pc := 327) C X hL (by omega) dL_law_327 ?_
  refine z_aload_n (pc := 328) C dL_law_328 rfl rfl ?_
  refine z_iload_n (pc := 329) C dL_law_329 rfl rfl ?_
  refine z_iconst (pc := 330) C dL_law_330 ?_
  refine z_iadd (pc := 331) C dL_law_331 ?_
  refine z_sld (pc := 332) C X hL (by omega) dL_law_332 ?_
  refine z_callVi (pc := 333) (rest := []) C (C_X5_setLevel E ρ hR ((xs (i + 1).toNat).toInt) (zRg_of _) ((xs (i + 2).toNat).toInt) (zRg_of _) hs.1.1) vL_40 (by decide) sh0 rfl rfl rfl (Nat.le_of_ble_eq_true rfl) dL_law_333 (fun r1 σ1 g1 hR1 h1 => ?_)
  have s1 : Sim ρ σ1 := hs.cl (fun c hc => by rw [h1.2]; exact hi_setlev hc)
  refine z_aload_nZ (pc := 336) C dL_law_336 rfl rfl ?_
  refine z_aload_n (pc := 337) C dL_law_337 rfl rfl ?_
  refine z_iload_n (pc := 338) C dL_law_338 rfl rfl ?_
  refine z_iconst (pc := 339) C dL_law_339 ?_
  refine z_iadd (pc := 340) C dL_law_340 ?_
  refine z_sld (pc := 341) C X hL (by omega) dL_law_341 ?_
  refine z_aload_n (pc := 342) C dL_law_342 rfl rfl ?_
  refine z_iload_n (pc := 343) C dL_law_343 rfl rfl ?_
  refine z_iconst (pc := 344) C dL_law_344 ?_
  refine z_iadd (pc := 345) C dL_law_345 ?_
  refine z_sld (pc := 346) C X hL (by omega) dL_law_346 ?_
  refine z_callVi (pc := 347) (rest := [ziv r1]) C (C_X6_setLevel E σ1 hR1 ((xs (i + 1).toNat).toInt) (zRg_of _) ((xs (i + 2).toNat).toInt) (zRg_of _) s1.1.2) vL_43 (by decide) sh31 rfl rfl rfl (Nat.le_of_ble_eq_true rfl) dL_law_347 (fun r2 σ2 g2 hR2 h2 => ?_)
  have e8 := (sim_setlev (a := ((xs (i + 1).toNat).toInt)) (b := ((xs (i + 2).toNat).toInt)) s1)
  rw [← h1.1, ← h1.2, ← h2.1, ← h2.2] at e8
  have e9 : r1 = r2 := e8.1.symm
  exact z_icmp_eq (pc := 350) C 887 g1 g2 dL_law_350 rfl (fun _ => back σ2 hR2 (e8.2.ml (fun c hc => by rw [h2.2]; exact lo_setlev hc))) (fun q => absurd e9 q)
theorem law_7 {E : ZE} {Γ : ZT} {b L : Nat} {xs : Nat → Int32} (C : ZC E Γ 220 RL cL_law) (X : LX Γ b L xs) (hL : L ≤ 2048) {i : Int} (hi : 0 ≤ i ∧ i + 4 ≤ L) {ρ : ZSt} (hR : zRs ρ) (hs : Sim ρ ρ) (back : ∀ ρ, zRs ρ → Sim ρ ρ → ZG E Γ 887 [some (.ref b), some (zrf E 0), some (zrf E 31), some (ziv i)] [] ρ) : ZG E Γ 355 [some (.ref b), some (zrf E 0), some (zrf E 31), some (ziv i)] [] ρ := by
  refine z_aload_nZ (pc := 355) C dL_law_355 rfl rfl ?_
  refine z_aload_n (pc := 356) C dL_law_356 rfl rfl ?_
  refine z_iload_n (pc := 357) C dL_law_357 rfl rfl ?_
  refine z_iconst (pc := 358) C dL_law_358 ?_
  refine z_iadd (pc := 359) C dL_law_359 ?_
  refine z_sld (pc := 360) C X hL (by omega) dL_law_360 ?_
  refine z_aload_n (pc := 361) C dL_law_361 rfl rfl ?_
  refine z_iload_n (pc := 362) C dL_law_362 rfl rfl ?_
  refine z_iconst (pc := 363) C dL_law_363 ?_
  refine z_iadd (pc := 364) C dL_law_364 ?_
  refine z_sld (pc := 365) C X hL (by omega) dL_law_365 ?_
  refine z_callVi (pc := 366) (rest := []) C (C_X5_setAssociativity E ρ hR ((xs (i + 1).toNat).toInt) (zRg_of _) ((xs (i + 2).toNat).toInt) (zRg_of _) hs.1.1) vL_44 (by decide) sh0 rfl rfl rfl (Nat.le_of_ble_eq_true rfl) dL_law_366 (fun r1 σ1 g1 hR1 h1 => ?_)
  have s1 : Sim ρ σ1 := hs.cl (fun c hc => by rw [h1.2]; exact hi_setasc hc)
  refine z_aload_nZ (pc := 369) C dL_law_369 rfl rfl ?_
  refine z_aload_n (pc := 370) C dL_law_370 rfl rfl ?_
  refine z_iload_n (pc := 371) C dL_law_371 rfl rfl ?_
  refine z_iconst (pc := 372) C dL_law_372 ?_
  refine z_iadd (pc := 373) C dL_law_373 ?_
  refine z_sld (pc := 374) C X hL (by omega) dL_law_374 ?_
  refine z_aload_n (pc := 375) C dL_law_375 rfl rfl ?_
  refine z_iload_n (pc := 376) C dL_law_376 rfl rfl ?_
  refine z_iconst (pc := 377) C dL_law_377 ?_
  refine z_iadd (pc := 378) C dL_law_378 ?_
  refine z_sld (pc := 379) C X hL (by omega) dL_law_379 ?_
  refine z_callVi (pc := 380) (rest := [ziv r1]) C (C_X6_setAssociativity E σ1 hR1 ((xs (i + 1).toNat).toInt) (zRg_of _) ((xs (i + 2).toNat).toInt) (zRg_of _) s1.1.2) vL_47 (by decide) sh31 rfl rfl rfl (Nat.le_of_ble_eq_true rfl) dL_law_380 (fun r2 σ2 g2 hR2 h2 => ?_)
  have e8 := (sim_setasc (a := ((xs (i + 1).toNat).toInt)) (b := ((xs (i + 2).toNat).toInt)) s1)
  rw [← h1.1, ← h1.2, ← h2.1, ← h2.2] at e8
  have e9 : r1 = r2 := e8.1.symm
  exact z_icmp_eq (pc := 383) C 887 g1 g2 dL_law_383 rfl (fun _ => back σ2 hR2 (e8.2.ml (fun c hc => by rw [h2.2]; exact lo_setasc hc))) (fun q => absurd e9 q)
theorem law_8 {E : ZE} {Γ : ZT} {b L : Nat} {xs : Nat → Int32} (C : ZC E Γ 220 RL cL_law) (X : LX Γ b L xs) (hL : L ≤ 2048) {i : Int} (hi : 0 ≤ i ∧ i + 4 ≤ L) {ρ : ZSt} (hR : zRs ρ) (hs : Sim ρ ρ) (back : ∀ ρ, zRs ρ → Sim ρ ρ → ZG E Γ 887 [some (.ref b), some (zrf E 0), some (zrf E 31), some (ziv i)] [] ρ) : ZG E Γ 388 [some (.ref b), some (zrf E 0), some (zrf E 31), some (ziv i)] [] ρ := by
  refine z_aload_nZ (pc := 388) C dL_law_388 rfl rfl ?_
  refine z_aload_n (pc := 389) C dL_law_389 rfl rfl ?_
  refine z_iload_n (pc := 390) C dL_law_390 rfl rfl ?_
  refine z_iconst (pc := 391) C dL_law_391 ?_
  refine z_iadd (pc := 392) C dL_law_392 ?_
  refine z_sld (pc := 393) C X hL (by omega) dL_law_393 ?_
  refine z_aload_n (pc := 394) C dL_law_394 rfl rfl ?_
  refine z_iload_n (pc := 395) C dL_law_395 rfl rfl ?_
  refine z_iconst (pc := 396) C dL_law_396 ?_
  refine z_iadd (pc := 397) C dL_law_397 ?_
  refine z_sld (pc := 398) C X hL (by omega) dL_law_398 ?_
  refine z_aload_n (pc := 399) C dL_law_399 rfl rfl ?_
  refine z_iload_n (pc := 400) C dL_law_400 rfl rfl ?_
  refine z_iconst (pc := 401) C dL_law_401 ?_
  refine z_iadd (pc := 402) C dL_law_402 ?_
  refine z_sld (pc := 403) C X hL (by omega) dL_law_403 ?_
  refine z_if_eq (pc := 404) C 411 (zRg_of _) dL_law_404 rfl (fun c_404 => ?_) (fun c_404 => ?_)
  · refine z_iconst (pc := 411) C dL_law_411 ?_
    refine z_callVi (pc := 412) (rest := []) C (C_X5_setForbidden E ρ hR ((xs (i + 1).toNat).toInt) (zRg_of _) ((xs (i + 2).toNat).toInt) (zRg_of _) 0 (Or.inl rfl) hs.1.1) vL_48 (by decide) sh0 rfl rfl rfl (Nat.le_of_ble_eq_true rfl) dL_law_412 (fun r1 σ1 g1 hR1 h1 => ?_)
    have s1 : Sim ρ σ1 := hs.cl (fun c hc => by rw [h1.2]; exact hi_setforb hc)
    refine z_aload_nZ (pc := 415) C dL_law_415 rfl rfl ?_
    refine z_aload_n (pc := 416) C dL_law_416 rfl rfl ?_
    refine z_iload_n (pc := 417) C dL_law_417 rfl rfl ?_
    refine z_iconst (pc := 418) C dL_law_418 ?_
    refine z_iadd (pc := 419) C dL_law_419 ?_
    refine z_sld (pc := 420) C X hL (by omega) dL_law_420 ?_
    refine z_aload_n (pc := 421) C dL_law_421 rfl rfl ?_
    refine z_iload_n (pc := 422) C dL_law_422 rfl rfl ?_
    refine z_iconst (pc := 423) C dL_law_423 ?_
    refine z_iadd (pc := 424) C dL_law_424 ?_
    refine z_sld (pc := 425) C X hL (by omega) dL_law_425 ?_
    refine z_aload_n (pc := 426) C dL_law_426 rfl rfl ?_
    refine z_iload_n (pc := 427) C dL_law_427 rfl rfl ?_
    refine z_iconst (pc := 428) C dL_law_428 ?_
    refine z_iadd (pc := 429) C dL_law_429 ?_
    refine z_sld (pc := 430) C X hL (by omega) dL_law_430 ?_
    refine z_if_eq (pc := 431) C 438 (zRg_of _) dL_law_431 rfl (fun c_431 => ?_) (fun c_431 => ?_)
    · refine z_iconst (pc := 438) C dL_law_438 ?_
      refine z_callVi (pc := 439) (rest := [ziv r1]) C (C_X6_setForbidden E σ1 hR1 ((xs (i + 1).toNat).toInt) (zRg_of _) ((xs (i + 2).toNat).toInt) (zRg_of _) 0 (Or.inl rfl) s1.1.2) vL_52 (by decide) sh31 rfl rfl rfl (Nat.le_of_ble_eq_true rfl) dL_law_439 (fun r2 σ2 g2 hR2 h2 => ?_)
      have e8 := (sim_setforb (a := ((xs (i + 1).toNat).toInt)) (b := ((xs (i + 2).toNat).toInt)) (c := 0) s1 (by decide))
      rw [← h1.1, ← h1.2, ← h2.1, ← h2.2] at e8
      have e9 : r1 = r2 := e8.1.symm
      exact z_icmp_eq (pc := 442) C 887 g1 g2 dL_law_442 rfl (fun _ => back σ2 hR2 (e8.2.ml (fun c hc => by rw [h2.2]; exact lo_setforb hc))) (fun q => absurd e9 q)
    · exact absurd (by assumption) c_431
  · refine z_iconst (pc := 407) C dL_law_407 ?_
    refine z_goto (pc := 408) C 412 dL_law_408 rfl ?_
    refine z_callVi (pc := 412) (rest := []) C (C_X5_setForbidden E ρ hR ((xs (i + 1).toNat).toInt) (zRg_of _) ((xs (i + 2).toNat).toInt) (zRg_of _) 1 (Or.inr rfl) hs.1.1) vL_48 (by decide) sh0 rfl rfl rfl (Nat.le_of_ble_eq_true rfl) dL_law_412 (fun r1 σ1 g1 hR1 h1 => ?_)
    have s1 : Sim ρ σ1 := hs.cl (fun c hc => by rw [h1.2]; exact hi_setforb hc)
    refine z_aload_nZ (pc := 415) C dL_law_415 rfl rfl ?_
    refine z_aload_n (pc := 416) C dL_law_416 rfl rfl ?_
    refine z_iload_n (pc := 417) C dL_law_417 rfl rfl ?_
    refine z_iconst (pc := 418) C dL_law_418 ?_
    refine z_iadd (pc := 419) C dL_law_419 ?_
    refine z_sld (pc := 420) C X hL (by omega) dL_law_420 ?_
    refine z_aload_n (pc := 421) C dL_law_421 rfl rfl ?_
    refine z_iload_n (pc := 422) C dL_law_422 rfl rfl ?_
    refine z_iconst (pc := 423) C dL_law_423 ?_
    refine z_iadd (pc := 424) C dL_law_424 ?_
    refine z_sld (pc := 425) C X hL (by omega) dL_law_425 ?_
    refine z_aload_n (pc := 426) C dL_law_426 rfl rfl ?_
    refine z_iload_n (pc := 427) C dL_law_427 rfl rfl ?_
    refine z_iconst (pc := 428) C dL_law_428 ?_
    refine z_iadd (pc := 429) C dL_law_429 ?_
    refine z_sld (pc := 430) C X hL (by omega) dL_law_430 ?_
    refine z_if_eq (pc := 431) C 438 (zRg_of _) dL_law_431 rfl (fun c_431 => ?_) (fun c_431 => ?_)
    · exact absurd c_431 (by first | assumption | (intro q; contradiction))
    · refine z_iconst (pc := 434) C dL_law_434 ?_
      refine z_goto (pc := 435) C 439 dL_law_435 rfl ?_
      refine z_callVi (pc := 439) (rest := [ziv r1]) C (C_X6_setForbidden E σ1 hR1 ((xs (i + 1).toNat).toInt) (zRg_of _) ((xs (i + 2).toNat).toInt) (zRg_of _) 1 (Or.inr rfl) s1.1.2) vL_52 (by decide) sh31 rfl rfl rfl (Nat.le_of_ble_eq_true rfl) dL_law_439 (fun r2 σ2 g2 hR2 h2 => ?_)
      have e8 := (sim_setforb (a := ((xs (i + 1).toNat).toInt)) (b := ((xs (i + 2).toNat).toInt)) (c := 1) s1 (by decide))
      rw [← h1.1, ← h1.2, ← h2.1, ← h2.2] at e8
      have e9 : r1 = r2 := e8.1.symm
      exact z_icmp_eq (pc := 442) C 887 g1 g2 dL_law_442 rfl (fun _ => back σ2 hR2 (e8.2.ml (fun c hc => by rw [h2.2]; exact lo_setforb hc))) (fun q => absurd e9 q)
theorem law_9 {E : ZE} {Γ : ZT} {b L : Nat} {xs : Nat → Int32} (C : ZC E Γ 220 RL cL_law) (X : LX Γ b L xs) (hL : L ≤ 2048) {i : Int} (hi : 0 ≤ i ∧ i + 4 ≤ L) {ρ : ZSt} (hR : zRs ρ) (hs : Sim ρ ρ) (back : ∀ ρ, zRs ρ → Sim ρ ρ → ZG E Γ 887 [some (.ref b), some (zrf E 0), some (zrf E 31), some (ziv i)] [] ρ) : ZG E Γ 447 [some (.ref b), some (zrf E 0), some (zrf E 31), some (ziv i)] [] ρ := by
  refine z_aload_nZ (pc := 447) C dL_law_447 rfl rfl ?_
  refine z_aload_n (pc := 448) C dL_law_448 rfl rfl ?_
  refine z_iload_n (pc := 449) C dL_law_449 rfl rfl ?_
  refine z_iconst (pc := 450) C dL_law_450 ?_
  refine z_iadd (pc := 451) C dL_law_451 ?_
  refine z_sld (pc := 452) C X hL (by omega) dL_law_452 ?_
  refine z_callVi (pc := 453) (rest := []) C (C_X5_leaf E ρ hR ((xs (i + 1).toNat).toInt) (zRg_of _) hs.1.1) vL_53 (by decide) sh0 rfl rfl rfl (Nat.le_of_ble_eq_true rfl) dL_law_453 (fun r1 σ1 g1 hR1 h1 => ?_)
  have s1 : Sim ρ σ1 := hs.cl (fun c hc => by rw [h1.2]; exact hi_leaf hc)
  refine z_aload_nZ (pc := 456) C dL_law_456 rfl rfl ?_
  refine z_aload_n (pc := 457) C dL_law_457 rfl rfl ?_
  refine z_iload_n (pc := 458) C dL_law_458 rfl rfl ?_
  refine z_iconst (pc := 459) C dL_law_459 ?_
  refine z_iadd (pc := 460) C dL_law_460 ?_
  refine z_sld (pc := 461) C X hL (by omega) dL_law_461 ?_
  refine z_callVi (pc := 462) (rest := [ziv r1]) C (C_X6_leaf E σ1 hR1 ((xs (i + 1).toNat).toInt) (zRg_of _) s1.1.2) vL_56 (by decide) sh31 rfl rfl rfl (Nat.le_of_ble_eq_true rfl) dL_law_462 (fun r2 σ2 g2 hR2 h2 => ?_)
  have e8 := (sim_leaf (a := ((xs (i + 1).toNat).toInt)) s1)
  rw [← h1.1, ← h1.2, ← h2.1, ← h2.2] at e8
  have e9 : r1 = r2 := e8.1.symm
  exact z_icmp_eq (pc := 465) C 887 g1 g2 dL_law_465 rfl (fun _ => back σ2 hR2 (e8.2.ml (fun c hc => by rw [h2.2]; exact lo_leaf hc))) (fun q => absurd e9 q)
theorem law_10 {E : ZE} {Γ : ZT} {b L : Nat} {xs : Nat → Int32} (C : ZC E Γ 220 RL cL_law) (X : LX Γ b L xs) (hL : L ≤ 2048) {i : Int} (hi : 0 ≤ i ∧ i + 4 ≤ L) {ρ : ZSt} (hR : zRs ρ) (hs : Sim ρ ρ) (back : ∀ ρ, zRs ρ → Sim ρ ρ → ZG E Γ 887 [some (.ref b), some (zrf E 0), some (zrf E 31), some (ziv i)] [] ρ) : ZG E Γ 470 [some (.ref b), some (zrf E 0), some (zrf E 31), some (ziv i)] [] ρ := by
  refine z_aload_nZ (pc := 470) C dL_law_470 rfl rfl ?_
  refine z_aload_n (pc := 471) C dL_law_471 rfl rfl ?_
  refine z_iload_n (pc := 472) C dL_law_472 rfl rfl ?_
  refine z_iconst (pc := 473) C dL_law_473 ?_
  refine z_iadd (pc := 474) C dL_law_474 ?_
  refine z_sld (pc := 475) C X hL (by omega) dL_law_475 ?_
  refine z_aload_n (pc := 476) C dL_law_476 rfl rfl ?_
  refine z_iload_n (pc := 477) C dL_law_477 rfl rfl ?_
  refine z_iconst (pc := 478) C dL_law_478 ?_
  refine z_iadd (pc := 479) C dL_law_479 ?_
  refine z_sld (pc := 480) C X hL (by omega) dL_law_480 ?_
  refine z_callVi (pc := 481) (rest := []) C (C_X5_unary E ρ hR ((xs (i + 1).toNat).toInt) (zRg_of _) ((xs (i + 2).toNat).toInt) (zRg_of _) hs.1.1 hs.2.2.1.2.1.szr) vL_57 (by decide) sh0 rfl rfl rfl (Nat.le_of_ble_eq_true rfl) dL_law_481 (fun r1 σ1 g1 hR1 h1 => ?_)
  have s1 : Sim ρ σ1 := hs.cl (fun c hc => by rw [h1.2]; exact hi_unary hc)
  refine z_aload_nZ (pc := 484) C dL_law_484 rfl rfl ?_
  refine z_aload_n (pc := 485) C dL_law_485 rfl rfl ?_
  refine z_iload_n (pc := 486) C dL_law_486 rfl rfl ?_
  refine z_iconst (pc := 487) C dL_law_487 ?_
  refine z_iadd (pc := 488) C dL_law_488 ?_
  refine z_sld (pc := 489) C X hL (by omega) dL_law_489 ?_
  refine z_aload_n (pc := 490) C dL_law_490 rfl rfl ?_
  refine z_iload_n (pc := 491) C dL_law_491 rfl rfl ?_
  refine z_iconst (pc := 492) C dL_law_492 ?_
  refine z_iadd (pc := 493) C dL_law_493 ?_
  refine z_sld (pc := 494) C X hL (by omega) dL_law_494 ?_
  refine z_callVi (pc := 495) (rest := [ziv r1]) C (C_X6_unary E σ1 hR1 ((xs (i + 1).toNat).toInt) (zRg_of _) ((xs (i + 2).toNat).toInt) (zRg_of _) s1.1.2 s1.msz) vL_60 (by decide) sh31 rfl rfl rfl (Nat.le_of_ble_eq_true rfl) dL_law_495 (fun r2 σ2 g2 hR2 h2 => ?_)
  have e8 := (sim_unary (o := ((xs (i + 1).toNat).toInt)) (n := ((xs (i + 2).toNat).toInt)) s1)
  rw [← h1.1, ← h1.2, ← h2.1, ← h2.2] at e8
  have e9 : r1 = r2 := e8.1.symm
  exact z_icmp_eq (pc := 498) C 887 g1 g2 dL_law_498 rfl (fun _ => back σ2 hR2 (e8.2.ml (fun c hc => by rw [h2.2]; exact lo_unary hc))) (fun q => absurd e9 q)
theorem law_11 {E : ZE} {Γ : ZT} {b L : Nat} {xs : Nat → Int32} (C : ZC E Γ 220 RL cL_law) (X : LX Γ b L xs) (hL : L ≤ 2048) {i : Int} (hi : 0 ≤ i ∧ i + 4 ≤ L) {ρ : ZSt} (hR : zRs ρ) (hs : Sim ρ ρ) (back : ∀ ρ, zRs ρ → Sim ρ ρ → ZG E Γ 887 [some (.ref b), some (zrf E 0), some (zrf E 31), some (ziv i)] [] ρ) : ZG E Γ 503 [some (.ref b), some (zrf E 0), some (zrf E 31), some (ziv i)] [] ρ := by
  refine z_aload_nZ (pc := 503) C dL_law_503 rfl rfl ?_
  refine z_aload_n (pc := 504) C dL_law_504 rfl rfl ?_
  refine z_iload_n (pc := 505) C dL_law_505 rfl rfl ?_
  refine z_iconst (pc := 506) C dL_law_506 ?_
  refine z_iadd (pc := 507) C dL_law_507 ?_
  refine z_sld (pc := 508) C X hL (by omega) dL_law_508 ?_
  refine z_aload_n (pc := 509) C dL_law_509 rfl rfl ?_
  refine z_iload_n (pc := 510) C dL_law_510 rfl rfl ?_
  refine z_iconst (pc := 511) C dL_law_511 ?_
  refine z_iadd (pc := 512) C dL_law_512 ?_
  refine z_sld (pc := 513) C X hL (by omega) dL_law_513 ?_
  refine z_aload_n (pc := 514) C dL_law_514 rfl rfl ?_
  refine z_iload_n (pc := 515) C dL_law_515 rfl rfl ?_
  refine z_iconst (pc := 516) C dL_law_516 ?_
  refine z_iadd (pc := 517) C dL_law_517 ?_
  refine z_sld (pc := 518) C X hL (by omega) dL_law_518 ?_
  refine z_callVi (pc := 519) (rest := []) C (C_X5_binary E ρ hR ((xs (i + 1).toNat).toInt) (zRg_of _) ((xs (i + 2).toNat).toInt) (zRg_of _) ((xs (i + 3).toNat).toInt) (zRg_of _) hs.1.1 hs.2.2.1.2.1.szr) vL_61 (by decide) sh0 rfl rfl rfl (Nat.le_of_ble_eq_true rfl) dL_law_519 (fun r1 σ1 g1 hR1 h1 => ?_)
  have s1 : Sim ρ σ1 := hs.cl (fun c hc => by rw [h1.2]; exact hi_binary hc)
  refine z_aload_nZ (pc := 522) C dL_law_522 rfl rfl ?_
  refine z_aload_n (pc := 523) C dL_law_523 rfl rfl ?_
  refine z_iload_n (pc := 524) C dL_law_524 rfl rfl ?_
  refine z_iconst (pc := 525) C dL_law_525 ?_
  refine z_iadd (pc := 526) C dL_law_526 ?_
  refine z_sld (pc := 527) C X hL (by omega) dL_law_527 ?_
  refine z_aload_n (pc := 528) C dL_law_528 rfl rfl ?_
  refine z_iload_n (pc := 529) C dL_law_529 rfl rfl ?_
  refine z_iconst (pc := 530) C dL_law_530 ?_
  refine z_iadd (pc := 531) C dL_law_531 ?_
  refine z_sld (pc := 532) C X hL (by omega) dL_law_532 ?_
  refine z_aload_n (pc := 533) C dL_law_533 rfl rfl ?_
  refine z_iload_n (pc := 534) C dL_law_534 rfl rfl ?_
  refine z_iconst (pc := 535) C dL_law_535 ?_
  refine z_iadd (pc := 536) C dL_law_536 ?_
  refine z_sld (pc := 537) C X hL (by omega) dL_law_537 ?_
  refine z_callVi (pc := 538) (rest := [ziv r1]) C (C_X6_binary E σ1 hR1 ((xs (i + 1).toNat).toInt) (zRg_of _) ((xs (i + 2).toNat).toInt) (zRg_of _) ((xs (i + 3).toNat).toInt) (zRg_of _) s1.1.2 s1.msz) vL_65 (by decide) sh31 rfl rfl rfl (Nat.le_of_ble_eq_true rfl) dL_law_538 (fun r2 σ2 g2 hR2 h2 => ?_)
  have e8 := (sim_binary (o := ((xs (i + 1).toNat).toInt)) (a := ((xs (i + 2).toNat).toInt)) (b := ((xs (i + 3).toNat).toInt)) s1)
  rw [← h1.1, ← h1.2, ← h2.1, ← h2.2] at e8
  have e9 : r1 = r2 := e8.1.symm
  exact z_icmp_eq (pc := 541) C 887 g1 g2 dL_law_541 rfl (fun _ => back σ2 hR2 (e8.2.ml (fun c hc => by rw [h2.2]; exact lo_binary hc))) (fun q => absurd e9 q)
theorem law_12 {E : ZE} {Γ : ZT} {b L : Nat} {xs : Nat → Int32} (C : ZC E Γ 220 RL cL_law) (X : LX Γ b L xs) (hL : L ≤ 2048) {i : Int} (hi : 0 ≤ i ∧ i + 4 ≤ L) {ρ : ZSt} (hR : zRs ρ) (hs : Sim ρ ρ) (back : ∀ ρ, zRs ρ → Sim ρ ρ → ZG E Γ 887 [some (.ref b), some (zrf E 0), some (zrf E 31), some (ziv i)] [] ρ) : ZG E Γ 546 [some (.ref b), some (zrf E 0), some (zrf E 31), some (ziv i)] [] ρ := by
  refine z_aload_nZ (pc := 546) C dL_law_546 rfl rfl ?_
  refine z_callVp (pc := 547) (rest := []) C (C_X5_nodeCount E ρ hR ) vL_66 (by decide) sh0 rfl rfl rfl (Nat.le_of_ble_eq_true rfl) dL_law_547 (fun r1 g1 h1 => ?_)
  refine z_aload_nZ (pc := 550) C dL_law_550 rfl rfl ?_
  refine z_callVp (pc := 551) (rest := [ziv r1]) C (C_X6_nodeCount E ρ hR ) vL_69 (by decide) sh31 rfl rfl rfl (Nat.le_of_ble_eq_true rfl) dL_law_551 (fun r2 g2 h2 => ?_)
  have e9 : r1 = r2 := by rw [h1, h2]; exact (hs.cnt.2.1).symm
  exact z_icmp_eq (pc := 554) C 887 g1 g2 dL_law_554 rfl (fun _ => back ρ hR hs) (fun q => absurd e9 q)
theorem law_13 {E : ZE} {Γ : ZT} {b L : Nat} {xs : Nat → Int32} (C : ZC E Γ 220 RL cL_law) (X : LX Γ b L xs) (hL : L ≤ 2048) {i : Int} (hi : 0 ≤ i ∧ i + 4 ≤ L) {ρ : ZSt} (hR : zRs ρ) (hs : Sim ρ ρ) (back : ∀ ρ, zRs ρ → Sim ρ ρ → ZG E Γ 887 [some (.ref b), some (zrf E 0), some (zrf E 31), some (ziv i)] [] ρ) : ZG E Γ 559 [some (.ref b), some (zrf E 0), some (zrf E 31), some (ziv i)] [] ρ := by
  refine z_aload_nZ (pc := 559) C dL_law_559 rfl rfl ?_
  refine z_aload_n (pc := 560) C dL_law_560 rfl rfl ?_
  refine z_iload_n (pc := 561) C dL_law_561 rfl rfl ?_
  refine z_iconst (pc := 562) C dL_law_562 ?_
  refine z_iadd (pc := 563) C dL_law_563 ?_
  refine z_sld (pc := 564) C X hL (by omega) dL_law_564 ?_
  refine z_callVp (pc := 565) (rest := []) C (C_X5_operatorOf E ρ hR ((xs (i + 1).toNat).toInt) (zRg_of _) hs.1.1) vL_70 (by decide) sh0 rfl rfl rfl (Nat.le_of_ble_eq_true rfl) dL_law_565 (fun r1 g1 h1 => ?_)
  refine z_aload_nZ (pc := 568) C dL_law_568 rfl rfl ?_
  refine z_aload_n (pc := 569) C dL_law_569 rfl rfl ?_
  refine z_iload_n (pc := 570) C dL_law_570 rfl rfl ?_
  refine z_iconst (pc := 571) C dL_law_571 ?_
  refine z_iadd (pc := 572) C dL_law_572 ?_
  refine z_sld (pc := 573) C X hL (by omega) dL_law_573 ?_
  refine z_callVp (pc := 574) (rest := [ziv r1]) C (C_X6_operatorOf E ρ hR ((xs (i + 1).toNat).toInt) (zRg_of _) hs.1.2) vL_73 (by decide) sh31 rfl rfl rfl (Nat.le_of_ble_eq_true rfl) dL_law_574 (fun r2 g2 h2 => ?_)
  have e9 : r1 = r2 := by rw [h1, h2]; exact (g_op hs _).symm
  exact z_icmp_eq (pc := 577) C 887 g1 g2 dL_law_577 rfl (fun _ => back ρ hR hs) (fun q => absurd e9 q)
theorem law_14 {E : ZE} {Γ : ZT} {b L : Nat} {xs : Nat → Int32} (C : ZC E Γ 220 RL cL_law) (X : LX Γ b L xs) (hL : L ≤ 2048) {i : Int} (hi : 0 ≤ i ∧ i + 4 ≤ L) {ρ : ZSt} (hR : zRs ρ) (hs : Sim ρ ρ) (back : ∀ ρ, zRs ρ → Sim ρ ρ → ZG E Γ 887 [some (.ref b), some (zrf E 0), some (zrf E 31), some (ziv i)] [] ρ) : ZG E Γ 582 [some (.ref b), some (zrf E 0), some (zrf E 31), some (ziv i)] [] ρ := by
  refine z_aload_nZ (pc := 582) C dL_law_582 rfl rfl ?_
  refine z_aload_n (pc := 583) C dL_law_583 rfl rfl ?_
  refine z_iload_n (pc := 584) C dL_law_584 rfl rfl ?_
  refine z_iconst (pc := 585) C dL_law_585 ?_
  refine z_iadd (pc := 586) C dL_law_586 ?_
  refine z_sld (pc := 587) C X hL (by omega) dL_law_587 ?_
  refine z_callVp (pc := 588) (rest := []) C (C_X5_letterOf E ρ hR ((xs (i + 1).toNat).toInt) (zRg_of _) hs.1.1) vL_74 (by decide) sh0 rfl rfl rfl (Nat.le_of_ble_eq_true rfl) dL_law_588 (fun r1 g1 h1 => ?_)
  refine z_aload_nZ (pc := 591) C dL_law_591 rfl rfl ?_
  refine z_aload_n (pc := 592) C dL_law_592 rfl rfl ?_
  refine z_iload_n (pc := 593) C dL_law_593 rfl rfl ?_
  refine z_iconst (pc := 594) C dL_law_594 ?_
  refine z_iadd (pc := 595) C dL_law_595 ?_
  refine z_sld (pc := 596) C X hL (by omega) dL_law_596 ?_
  refine z_callVp (pc := 597) (rest := [ziv r1]) C (C_X6_letterOf E ρ hR ((xs (i + 1).toNat).toInt) (zRg_of _) hs.1.2) vL_77 (by decide) sh31 rfl rfl rfl (Nat.le_of_ble_eq_true rfl) dL_law_597 (fun r2 g2 h2 => ?_)
  have e9 : r1 = r2 := by rw [h1, h2]; exact (g_let hs _).symm
  exact z_icmp_eq (pc := 600) C 887 g1 g2 dL_law_600 rfl (fun _ => back ρ hR hs) (fun q => absurd e9 q)
theorem law_15 {E : ZE} {Γ : ZT} {b L : Nat} {xs : Nat → Int32} (C : ZC E Γ 220 RL cL_law) (X : LX Γ b L xs) (hL : L ≤ 2048) {i : Int} (hi : 0 ≤ i ∧ i + 4 ≤ L) {ρ : ZSt} (hR : zRs ρ) (hs : Sim ρ ρ) (back : ∀ ρ, zRs ρ → Sim ρ ρ → ZG E Γ 887 [some (.ref b), some (zrf E 0), some (zrf E 31), some (ziv i)] [] ρ) : ZG E Γ 605 [some (.ref b), some (zrf E 0), some (zrf E 31), some (ziv i)] [] ρ := by
  refine z_aload_nZ (pc := 605) C dL_law_605 rfl rfl ?_
  refine z_aload_n (pc := 606) C dL_law_606 rfl rfl ?_
  refine z_iload_n (pc := 607) C dL_law_607 rfl rfl ?_
  refine z_iconst (pc := 608) C dL_law_608 ?_
  refine z_iadd (pc := 609) C dL_law_609 ?_
  refine z_sld (pc := 610) C X hL (by omega) dL_law_610 ?_
  refine z_aload_n (pc := 611) C dL_law_611 rfl rfl ?_
  refine z_iload_n (pc := 612) C dL_law_612 rfl rfl ?_
  refine z_iconst (pc := 613) C dL_law_613 ?_
  refine z_iadd (pc := 614) C dL_law_614 ?_
  refine z_sld (pc := 615) C X hL (by omega) dL_law_615 ?_
  refine z_callVp (pc := 616) (rest := []) C (C_X5_operand E ρ hR ((xs (i + 1).toNat).toInt) (zRg_of _) ((xs (i + 2).toNat).toInt) (zRg_of _) hs.1.1) vL_78 (by decide) sh0 rfl rfl rfl (Nat.le_of_ble_eq_true rfl) dL_law_616 (fun r1 g1 h1 => ?_)
  refine z_aload_nZ (pc := 619) C dL_law_619 rfl rfl ?_
  refine z_aload_n (pc := 620) C dL_law_620 rfl rfl ?_
  refine z_iload_n (pc := 621) C dL_law_621 rfl rfl ?_
  refine z_iconst (pc := 622) C dL_law_622 ?_
  refine z_iadd (pc := 623) C dL_law_623 ?_
  refine z_sld (pc := 624) C X hL (by omega) dL_law_624 ?_
  refine z_aload_n (pc := 625) C dL_law_625 rfl rfl ?_
  refine z_iload_n (pc := 626) C dL_law_626 rfl rfl ?_
  refine z_iconst (pc := 627) C dL_law_627 ?_
  refine z_iadd (pc := 628) C dL_law_628 ?_
  refine z_sld (pc := 629) C X hL (by omega) dL_law_629 ?_
  refine z_callVp (pc := 630) (rest := [ziv r1]) C (C_X6_operand E ρ hR ((xs (i + 1).toNat).toInt) (zRg_of _) ((xs (i + 2).toNat).toInt) (zRg_of _) hs.1.2) vL_81 (by decide) sh31 rfl rfl rfl (Nat.le_of_ble_eq_true rfl) dL_law_630 (fun r2 g2 h2 => ?_)
  have e9 : r1 = r2 := by rw [h1, h2]; exact (g_operand hs _ _).symm
  exact z_icmp_eq (pc := 633) C 887 g1 g2 dL_law_633 rfl (fun _ => back ρ hR hs) (fun q => absurd e9 q)
theorem law_16 {E : ZE} {Γ : ZT} {b L : Nat} {xs : Nat → Int32} (C : ZC E Γ 220 RL cL_law) (X : LX Γ b L xs) (hL : L ≤ 2048) {i : Int} (hi : 0 ≤ i ∧ i + 4 ≤ L) {ρ : ZSt} (hR : zRs ρ) (hs : Sim ρ ρ) (back : ∀ ρ, zRs ρ → Sim ρ ρ → ZG E Γ 887 [some (.ref b), some (zrf E 0), some (zrf E 31), some (ziv i)] [] ρ) : ZG E Γ 638 [some (.ref b), some (zrf E 0), some (zrf E 31), some (ziv i)] [] ρ := by
  refine z_aload_nZ (pc := 638) C dL_law_638 rfl rfl ?_
  refine z_aload_n (pc := 639) C dL_law_639 rfl rfl ?_
  refine z_iload_n (pc := 640) C dL_law_640 rfl rfl ?_
  refine z_iconst (pc := 641) C dL_law_641 ?_
  refine z_iadd (pc := 642) C dL_law_642 ?_
  refine z_sld (pc := 643) C X hL (by omega) dL_law_643 ?_
  refine z_callVp (pc := 644) (rest := []) C (C_X5_size E ρ hR ((xs (i + 1).toNat).toInt) (zRg_of _) hs.1.1) vL_82 (by decide) sh0 rfl rfl rfl (Nat.le_of_ble_eq_true rfl) dL_law_644 (fun r1 g1 h1 => ?_)
  refine z_aload_nZ (pc := 647) C dL_law_647 rfl rfl ?_
  refine z_aload_n (pc := 648) C dL_law_648 rfl rfl ?_
  refine z_iload_n (pc := 649) C dL_law_649 rfl rfl ?_
  refine z_iconst (pc := 650) C dL_law_650 ?_
  refine z_iadd (pc := 651) C dL_law_651 ?_
  refine z_sld (pc := 652) C X hL (by omega) dL_law_652 ?_
  refine z_callVp (pc := 653) (rest := [ziv r1]) C (C_X6_size E ρ hR ((xs (i + 1).toNat).toInt) (zRg_of _) hs.1.2) vL_85 (by decide) sh31 rfl rfl rfl (Nat.le_of_ble_eq_true rfl) dL_law_653 (fun r2 g2 h2 => ?_)
  have e9 : r1 = r2 := by rw [h1, h2]; exact (g_size hs _).symm
  exact z_icmp_eq (pc := 656) C 887 g1 g2 dL_law_656 rfl (fun _ => back ρ hR hs) (fun q => absurd e9 q)
theorem law_17 {E : ZE} {Γ : ZT} {b L : Nat} {xs : Nat → Int32} (C : ZC E Γ 220 RL cL_law) (X : LX Γ b L xs) (hL : L ≤ 2048) {i : Int} (hi : 0 ≤ i ∧ i + 4 ≤ L) {ρ : ZSt} (hR : zRs ρ) (hs : Sim ρ ρ) (back : ∀ ρ, zRs ρ → Sim ρ ρ → ZG E Γ 887 [some (.ref b), some (zrf E 0), some (zrf E 31), some (ziv i)] [] ρ) : ZG E Γ 661 [some (.ref b), some (zrf E 0), some (zrf E 31), some (ziv i)] [] ρ := by
  refine z_aload_nZ (pc := 661) C dL_law_661 rfl rfl ?_
  refine z_aload_n (pc := 662) C dL_law_662 rfl rfl ?_
  refine z_iload_n (pc := 663) C dL_law_663 rfl rfl ?_
  refine z_iconst (pc := 664) C dL_law_664 ?_
  refine z_iadd (pc := 665) C dL_law_665 ?_
  refine z_sld (pc := 666) C X hL (by omega) dL_law_666 ?_
  refine z_aload_n (pc := 667) C dL_law_667 rfl rfl ?_
  refine z_iload_n (pc := 668) C dL_law_668 rfl rfl ?_
  refine z_iconst (pc := 669) C dL_law_669 ?_
  refine z_iadd (pc := 670) C dL_law_670 ?_
  refine z_sld (pc := 671) C X hL (by omega) dL_law_671 ?_
  refine z_callVp (pc := 672) (rest := []) C (C_X5_areEqual E ρ hR ((xs (i + 1).toNat).toInt) (zRg_of _) ((xs (i + 2).toNat).toInt) (zRg_of _) hs.1.1) vL_86 (by decide) sh0 rfl rfl rfl (Nat.le_of_ble_eq_true rfl) dL_law_672 (fun r1 g1 h1 => ?_)
  have s1 := hs
  refine z_aload_nZ (pc := 675) C dL_law_675 rfl rfl ?_
  refine z_aload_n (pc := 676) C dL_law_676 rfl rfl ?_
  refine z_iload_n (pc := 677) C dL_law_677 rfl rfl ?_
  refine z_iconst (pc := 678) C dL_law_678 ?_
  refine z_iadd (pc := 679) C dL_law_679 ?_
  refine z_sld (pc := 680) C X hL (by omega) dL_law_680 ?_
  refine z_aload_n (pc := 681) C dL_law_681 rfl rfl ?_
  refine z_iload_n (pc := 682) C dL_law_682 rfl rfl ?_
  refine z_iconst (pc := 683) C dL_law_683 ?_
  refine z_iadd (pc := 684) C dL_law_684 ?_
  refine z_sld (pc := 685) C X hL (by omega) dL_law_685 ?_
  refine z_callVi (pc := 686) (rest := [ziv r1]) C (C_X6_areEqual E ρ hR ((xs (i + 1).toNat).toInt) (zRg_of _) ((xs (i + 2).toNat).toInt) (zRg_of _) ρ hs.1.2 hs.2.2.1.2.1 hs.2.2.1.2.1.1 hs.2.2.1.1.2.1 hs.2.2.1.1.2.1 hs.cnt.2.1.symm hs.cnt.2.2.2.1.2) vL_89 (by decide) sh31 rfl rfl rfl (Nat.le_of_ble_eq_true rfl) dL_law_686 (fun r2 σ2 g2 hR2 h2 => ?_)
  have e9 : r1 = r2 := by rw [h1, h2.1, hs.cnt.2.1]; rfl
  have o9 := h2.2
  have s9 : Sim ρ σ2 := by
    have t1 := hs
    obtain ⟨⟨q0, q1⟩, q2, q3, q4, q5, q6, q7, q8⟩ := t1
    exact ⟨⟨q0, q1.only o9⟩, q2.same (fun _ _ => rfl) (by rw [o9 31 (by decide)]) (fun c hc => o9 c (by omega)), q3.same (fun _ _ => rfl) (by rw [o9 31 (by decide)]) (fun c hc => o9 c (by omega)), q4.same rfl rfl (by rw [o9 31 (by decide)]) (o9 42 (by decide)), q5.same rfl rfl (by rw [o9 31 (by decide)]) (o9 43 (by decide)), q6.same rfl (Int.le_refl _) (by rw [o9 31 (by decide)]), q7.same rfl rfl (by rw [o9 31 (by decide)]) (by rw [o9 31 (by decide)]), q8⟩
  exact z_icmp_eq (pc := 689) C 887 g1 g2 dL_law_689 rfl (fun _ => back σ2 hR2 (s9.ml (fun c hc => o9 c (by omega)))) (fun q => absurd e9 q)
theorem law_18 {E : ZE} {Γ : ZT} {b L : Nat} {xs : Nat → Int32} (C : ZC E Γ 220 RL cL_law) (X : LX Γ b L xs) (hL : L ≤ 2048) {i : Int} (hi : 0 ≤ i ∧ i + 4 ≤ L) {ρ : ZSt} (hR : zRs ρ) (hs : Sim ρ ρ) (back : ∀ ρ, zRs ρ → Sim ρ ρ → ZG E Γ 887 [some (.ref b), some (zrf E 0), some (zrf E 31), some (ziv i)] [] ρ) : ZG E Γ 694 [some (.ref b), some (zrf E 0), some (zrf E 31), some (ziv i)] [] ρ := by
  refine z_aload_nZ (pc := 694) C dL_law_694 rfl rfl ?_
  refine z_aload_n (pc := 695) C dL_law_695 rfl rfl ?_
  refine z_iload_n (pc := 696) C dL_law_696 rfl rfl ?_
  refine z_iconst (pc := 697) C dL_law_697 ?_
  refine z_iadd (pc := 698) C dL_law_698 ?_
  refine z_sld (pc := 699) C X hL (by omega) dL_law_699 ?_
  refine z_callVi (pc := 700) (rest := []) C (C_X5_print E ρ hR ((xs (i + 1).toNat).toInt) (zRg_of _) hs.1.1) vL_90 (by decide) sh0 rfl rfl rfl (Nat.le_of_ble_eq_true rfl) dL_law_700 (fun r1 σ1 g1 hR1 h1 => ?_)
  have s1 : Sim ρ σ1 := hs.cl (fun c hc => by rw [h1.2]; exact hi_print hc)
  refine z_aload_nZ (pc := 703) C dL_law_703 rfl rfl ?_
  refine z_aload_n (pc := 704) C dL_law_704 rfl rfl ?_
  refine z_iload_n (pc := 705) C dL_law_705 rfl rfl ?_
  refine z_iconst (pc := 706) C dL_law_706 ?_
  refine z_iadd (pc := 707) C dL_law_707 ?_
  refine z_sld (pc := 708) C X hL (by omega) dL_law_708 ?_
  refine z_callVi (pc := 709) (rest := [ziv r1]) C (C_X6_print E σ1 hR1 ((xs (i + 1).toNat).toInt) (zRg_of _) ρ s1.1.2 s1.tt) vL_93 (by decide) sh31 rfl rfl rfl (Nat.le_of_ble_eq_true rfl) dL_law_709 (fun r2 σ2 g2 hR2 h2 => ?_)
  have e8 := sim_print s1 h2
  rw [← h1.1, ← h1.2] at e8
  have e9 : r1 = r2 := e8.1.symm
  exact z_icmp_eq (pc := 712) C 887 g1 g2 dL_law_712 rfl (fun _ => back σ2 hR2 (e8.2.ml (fun c hc => h2.lo c hc))) (fun q => absurd e9 q)
theorem law_19 {E : ZE} {Γ : ZT} {b L : Nat} {xs : Nat → Int32} (C : ZC E Γ 220 RL cL_law) (X : LX Γ b L xs) (hL : L ≤ 2048) {i : Int} (hi : 0 ≤ i ∧ i + 4 ≤ L) {ρ : ZSt} (hR : zRs ρ) (hs : Sim ρ ρ) (back : ∀ ρ, zRs ρ → Sim ρ ρ → ZG E Γ 887 [some (.ref b), some (zrf E 0), some (zrf E 31), some (ziv i)] [] ρ) : ZG E Γ 717 [some (.ref b), some (zrf E 0), some (zrf E 31), some (ziv i)] [] ρ := by
  refine z_aload_nZ (pc := 717) C dL_law_717 rfl rfl ?_
  refine z_aload_n (pc := 718) C dL_law_718 rfl rfl ?_
  refine z_iload_n (pc := 719) C dL_law_719 rfl rfl ?_
  refine z_iconst (pc := 720) C dL_law_720 ?_
  refine z_iadd (pc := 721) C dL_law_721 ?_
  refine z_sld (pc := 722) C X hL (by omega) dL_law_722 ?_
  refine z_callVi (pc := 723) (rest := []) C (C_X5_printFull E ρ hR ((xs (i + 1).toNat).toInt) (zRg_of _) hs.1.1) vL_94 (by decide) sh0 rfl rfl rfl (Nat.le_of_ble_eq_true rfl) dL_law_723 (fun r1 σ1 g1 hR1 h1 => ?_)
  have s1 : Sim ρ σ1 := hs.cl (fun c hc => by rw [h1.2]; exact hi_print hc)
  refine z_aload_nZ (pc := 726) C dL_law_726 rfl rfl ?_
  refine z_aload_n (pc := 727) C dL_law_727 rfl rfl ?_
  refine z_iload_n (pc := 728) C dL_law_728 rfl rfl ?_
  refine z_iconst (pc := 729) C dL_law_729 ?_
  refine z_iadd (pc := 730) C dL_law_730 ?_
  refine z_sld (pc := 731) C X hL (by omega) dL_law_731 ?_
  refine z_callVi (pc := 732) (rest := [ziv r1]) C (C_X6_printFull E σ1 hR1 ((xs (i + 1).toNat).toInt) (zRg_of _) ρ s1.1.2 s1.tt) vL_97 (by decide) sh31 rfl rfl rfl (Nat.le_of_ble_eq_true rfl) dL_law_732 (fun r2 σ2 g2 hR2 h2 => ?_)
  have e8 := sim_print s1 h2
  rw [← h1.1, ← h1.2] at e8
  have e9 : r1 = r2 := e8.1.symm
  exact z_icmp_eq (pc := 735) C 887 g1 g2 dL_law_735 rfl (fun _ => back σ2 hR2 (e8.2.ml (fun c hc => h2.lo c hc))) (fun q => absurd e9 q)
theorem law_20 {E : ZE} {Γ : ZT} {b L : Nat} {xs : Nat → Int32} (C : ZC E Γ 220 RL cL_law) (X : LX Γ b L xs) (hL : L ≤ 2048) {i : Int} (hi : 0 ≤ i ∧ i + 4 ≤ L) {ρ : ZSt} (hR : zRs ρ) (hs : Sim ρ ρ) (back : ∀ ρ, zRs ρ → Sim ρ ρ → ZG E Γ 887 [some (.ref b), some (zrf E 0), some (zrf E 31), some (ziv i)] [] ρ) : ZG E Γ 740 [some (.ref b), some (zrf E 0), some (zrf E 31), some (ziv i)] [] ρ := by
  refine z_aload_nZ (pc := 740) C dL_law_740 rfl rfl ?_
  refine z_aload_n (pc := 741) C dL_law_741 rfl rfl ?_
  refine z_iload_n (pc := 742) C dL_law_742 rfl rfl ?_
  refine z_iconst (pc := 743) C dL_law_743 ?_
  refine z_iadd (pc := 744) C dL_law_744 ?_
  refine z_sld (pc := 745) C X hL (by omega) dL_law_745 ?_
  refine z_callVp (pc := 746) (rest := []) C (C_X5_outputAt E ρ hR ((xs (i + 1).toNat).toInt) (zRg_of _) hs.1.1) vL_98 (by decide) sh0 rfl rfl rfl (Nat.le_of_ble_eq_true rfl) dL_law_746 (fun r1 g1 h1 => ?_)
  refine z_aload_nZ (pc := 749) C dL_law_749 rfl rfl ?_
  refine z_aload_n (pc := 750) C dL_law_750 rfl rfl ?_
  refine z_iload_n (pc := 751) C dL_law_751 rfl rfl ?_
  refine z_iconst (pc := 752) C dL_law_752 ?_
  refine z_iadd (pc := 753) C dL_law_753 ?_
  refine z_sld (pc := 754) C X hL (by omega) dL_law_754 ?_
  refine z_callVp (pc := 755) (rest := [ziv r1]) C (C_X6_outputAt E ρ hR ((xs (i + 1).toNat).toInt) (zRg_of _) hs.1.2) vL_101 (by decide) sh31 rfl rfl rfl (Nat.le_of_ble_eq_true rfl) dL_law_755 (fun r2 g2 h2 => ?_)
  have e9 : r1 = r2 := by rw [h1, h2]; exact (g_out hs _).symm
  exact z_icmp_eq (pc := 758) C 887 g1 g2 dL_law_758 rfl (fun _ => back ρ hR hs) (fun q => absurd e9 q)
theorem law_21 {E : ZE} {Γ : ZT} {b L : Nat} {xs : Nat → Int32} (C : ZC E Γ 220 RL cL_law) (X : LX Γ b L xs) (hL : L ≤ 2048) {i : Int} (hi : 0 ≤ i ∧ i + 4 ≤ L) {ρ : ZSt} (hR : zRs ρ) (hs : Sim ρ ρ) (back : ∀ ρ, zRs ρ → Sim ρ ρ → ZG E Γ 887 [some (.ref b), some (zrf E 0), some (zrf E 31), some (ziv i)] [] ρ) : ZG E Γ 763 [some (.ref b), some (zrf E 0), some (zrf E 31), some (ziv i)] [] ρ := by
  refine z_aload_nZ (pc := 763) C dL_law_763 rfl rfl ?_
  refine z_callVp (pc := 764) (rest := []) C (C_X5_bracketPairs E ρ hR  hs.1.1) vL_102 (by decide) sh0 rfl rfl rfl (Nat.le_of_ble_eq_true rfl) dL_law_764 (fun r1 g1 h1 => ?_)
  refine z_aload_nZ (pc := 767) C dL_law_767 rfl rfl ?_
  refine z_callVp (pc := 768) (rest := [ziv r1]) C (C_X6_bracketPairs E ρ hR  hs.1.2) vL_105 (by decide) sh31 rfl rfl rfl (Nat.le_of_ble_eq_true rfl) dL_law_768 (fun r2 g2 h2 => ?_)
  have e9 : r1 = r2 := by rw [h1, h2]; exact (g_pairs hs).symm
  exact z_icmp_eq (pc := 771) C 887 g1 g2 dL_law_771 rfl (fun _ => back ρ hR hs) (fun q => absurd e9 q)
theorem law_22 {E : ZE} {Γ : ZT} {b L : Nat} {xs : Nat → Int32} (C : ZC E Γ 220 RL cL_law) (X : LX Γ b L xs) (hL : L ≤ 2048) {i : Int} (hi : 0 ≤ i ∧ i + 4 ≤ L) {ρ : ZSt} (hR : zRs ρ) (hs : Sim ρ ρ) (back : ∀ ρ, zRs ρ → Sim ρ ρ → ZG E Γ 887 [some (.ref b), some (zrf E 0), some (zrf E 31), some (ziv i)] [] ρ) : ZG E Γ 776 [some (.ref b), some (zrf E 0), some (zrf E 31), some (ziv i)] [] ρ := by
  refine z_aload_nZ (pc := 776) C dL_law_776 rfl rfl ?_
  refine z_aload_n (pc := 777) C dL_law_777 rfl rfl ?_
  refine z_iload_n (pc := 778) C dL_law_778 rfl rfl ?_
  refine z_iconst (pc := 779) C dL_law_779 ?_
  refine z_iadd (pc := 780) C dL_law_780 ?_
  refine z_sld (pc := 781) C X hL (by omega) dL_law_781 ?_
  refine z_callVi (pc := 782) (rest := []) C (C_X5_readWithout E ρ hR ((xs (i + 1).toNat).toInt) (zRg_of _) hs.1.1) vL_106 (by decide) sh0 rfl rfl rfl (Nat.le_of_ble_eq_true rfl) dL_law_782 (fun r1 σ1 g1 hR1 h1 => ?_)
  have s1 : Sim ρ σ1 := hs.cl (fun c hc => by rw [h1.2]; exact hi_without hc)
  refine z_aload_nZ (pc := 785) C dL_law_785 rfl rfl ?_
  refine z_aload_n (pc := 786) C dL_law_786 rfl rfl ?_
  refine z_iload_n (pc := 787) C dL_law_787 rfl rfl ?_
  refine z_iconst (pc := 788) C dL_law_788 ?_
  refine z_iadd (pc := 789) C dL_law_789 ?_
  refine z_sld (pc := 790) C X hL (by omega) dL_law_790 ?_
  refine z_callVi (pc := 791) (rest := [ziv r1]) C (C_X6_readWithout E σ1 hR1 ((xs (i + 1).toNat).toInt) (zRg_of _) ρ s1.1.2 s1.out0) vL_109 (by decide) sh31 rfl rfl rfl (Nat.le_of_ble_eq_true rfl) dL_law_791 (fun r2 σ2 g2 hR2 h2 => ?_)
  have e8 := sim_without (a := ((xs (i + 1).toNat).toInt)) s1 h2.2.2 h2.2.1
  rw [← h1.2] at e8
  have e9 : r1 = r2 := by rw [h1.1, h2.1]
  exact z_icmp_eq (pc := 794) C 887 g1 g2 dL_law_794 rfl (fun _ => back σ2 hR2 (e8.ml (fun c hc => h2.2.1.1 c (by omega)))) (fun q => absurd e9 q)
theorem law_23 {E : ZE} {Γ : ZT} {b L : Nat} {xs : Nat → Int32} (C : ZC E Γ 220 RL cL_law) (X : LX Γ b L xs) (hL : L ≤ 2048) {i : Int} (hi : 0 ≤ i ∧ i + 4 ≤ L) {ρ : ZSt} (hR : zRs ρ) (hs : Sim ρ ρ) (back : ∀ ρ, zRs ρ → Sim ρ ρ → ZG E Γ 887 [some (.ref b), some (zrf E 0), some (zrf E 31), some (ziv i)] [] ρ) : ZG E Γ 799 [some (.ref b), some (zrf E 0), some (zrf E 31), some (ziv i)] [] ρ := by
  refine z_aload_nZ (pc := 799) C dL_law_799 rfl rfl ?_
  refine z_aload_n (pc := 800) C dL_law_800 rfl rfl ?_
  refine z_iload_n (pc := 801) C dL_law_801 rfl rfl ?_
  refine z_iconst (pc := 802) C dL_law_802 ?_
  refine z_iadd (pc := 803) C dL_law_803 ?_
  refine z_sld (pc := 804) C X hL (by omega) dL_law_804 ?_
  refine z_callVi (pc := 805) (rest := []) C (C_X5_append E ρ hR ((xs (i + 1).toNat).toInt) (zRg_of _) hs.1.1) vL_110 (by decide) sh0 rfl rfl rfl (Nat.le_of_ble_eq_true rfl) dL_law_805 (fun r1 σ1 g1 hR1 h1 => ?_)
  have s1 : Sim ρ σ1 := hs.cl (fun c hc => by rw [h1.2]; exact hi_append hc)
  refine z_aload_nZ (pc := 808) C dL_law_808 rfl rfl ?_
  refine z_aload_n (pc := 809) C dL_law_809 rfl rfl ?_
  refine z_iload_n (pc := 810) C dL_law_810 rfl rfl ?_
  refine z_iconst (pc := 811) C dL_law_811 ?_
  refine z_iadd (pc := 812) C dL_law_812 ?_
  refine z_sld (pc := 813) C X hL (by omega) dL_law_813 ?_
  refine z_callVi (pc := 814) (rest := [ziv r1]) C (C_X6_append E σ1 hR1 ((xs (i + 1).toNat).toInt) (zRg_of _) s1.1.2) vL_113 (by decide) sh31 rfl rfl rfl (Nat.le_of_ble_eq_true rfl) dL_law_814 (fun r2 σ2 g2 hR2 h2 => ?_)
  have e8 := (sim_append (a := ((xs (i + 1).toNat).toInt)) s1)
  rw [← h1.1, ← h1.2, ← h2.1, ← h2.2] at e8
  have e9 : r1 = r2 := e8.1.symm
  exact z_icmp_eq (pc := 817) C 887 g1 g2 dL_law_817 rfl (fun _ => back σ2 hR2 (e8.2.ml (fun c hc => by rw [h2.2]; exact lo_append hc))) (fun q => absurd e9 q)
theorem law_24 {E : ZE} {Γ : ZT} {b L : Nat} {xs : Nat → Int32} (C : ZC E Γ 220 RL cL_law) (X : LX Γ b L xs) (hL : L ≤ 2048) {i : Int} (hi : 0 ≤ i ∧ i + 4 ≤ L) {ρ : ZSt} (hR : zRs ρ) (hs : Sim ρ ρ) (back : ∀ ρ, zRs ρ → Sim ρ ρ → ZG E Γ 887 [some (.ref b), some (zrf E 0), some (zrf E 31), some (ziv i)] [] ρ) : ZG E Γ 822 [some (.ref b), some (zrf E 0), some (zrf E 31), some (ziv i)] [] ρ := by
  refine z_aload_nZ (pc := 822) C dL_law_822 rfl rfl ?_
  refine z_callVi (pc := 823) (rest := []) C (C_X5_copyOutput E ρ hR  hs.1.1) vL_114 (by decide) sh0 rfl rfl rfl (Nat.le_of_ble_eq_true rfl) dL_law_823 (fun r1 σ1 g1 hR1 h1 => ?_)
  have s1 : Sim ρ σ1 := hs.cl (fun c hc => by rw [h1.2]; exact hi_copy hc)
  refine z_aload_nZ (pc := 826) C dL_law_826 rfl rfl ?_
  refine z_callVi (pc := 827) (rest := [ziv r1]) C (C_X6_copyOutput E σ1 hR1  s1.1.2) vL_117 (by decide) sh31 rfl rfl rfl (Nat.le_of_ble_eq_true rfl) dL_law_827 (fun r2 σ2 g2 hR2 h2 => ?_)
  have e8 := sim_copy s1
  rw [← h1.2, ← h2.2] at e8
  have e9 : r1 = r2 := by rw [h1.1, h2.1, s1.cnt.2.2.2.2.1.1]
  exact z_icmp_eq (pc := 830) C 887 g1 g2 dL_law_830 rfl (fun _ => back σ2 hR2 (e8.ml (fun c hc => by rw [h2.2]; exact lo_copy hc))) (fun q => absurd e9 q)
theorem law_25 {E : ZE} {Γ : ZT} {b L : Nat} {xs : Nat → Int32} (C : ZC E Γ 220 RL cL_law) (X : LX Γ b L xs) (hL : L ≤ 2048) {i : Int} (hi : 0 ≤ i ∧ i + 4 ≤ L) {ρ : ZSt} (hR : zRs ρ) (hs : Sim ρ ρ) (back : ∀ ρ, zRs ρ → Sim ρ ρ → ZG E Γ 887 [some (.ref b), some (zrf E 0), some (zrf E 31), some (ziv i)] [] ρ) : ZG E Γ 835 [some (.ref b), some (zrf E 0), some (zrf E 31), some (ziv i)] [] ρ := by
  refine z_aload_nZ (pc := 835) C dL_law_835 rfl rfl ?_
  refine z_callVi (pc := 836) (rest := []) C (C_X5_clearInput E ρ hR  hs.1.1) vL_118 (by decide) sh0 rfl rfl rfl (Nat.le_of_ble_eq_true rfl) dL_law_836 (fun r1 σ1 g1 hR1 h1 => ?_)
  have s1 : Sim ρ σ1 := hs.cl (fun c hc => by rw [h1.2, zup_row (by omega)])
  refine z_aload_nZ (pc := 839) C dL_law_839 rfl rfl ?_
  refine z_callVi (pc := 840) (rest := [ziv r1]) C (C_X6_clearInput E σ1 hR1  s1.1.2) vL_121 (by decide) sh31 rfl rfl rfl (Nat.le_of_ble_eq_true rfl) dL_law_840 (fun r2 σ2 g2 hR2 h2 => ?_)
  have e8 := sim_clear s1
  rw [← h1.2, ← h2.2] at e8
  have e9 : r1 = r2 := by rw [h1.1, h2.1, s1.cnt.2.2.2.2.2.1]
  exact z_icmp_eq (pc := 843) C 887 g1 g2 dL_law_843 rfl (fun _ => back σ2 hR2 (e8.ml (fun c hc => by rw [h2.2, zup_row (by omega)]))) (fun q => absurd e9 q)
theorem law_26 {E : ZE} {Γ : ZT} {b L : Nat} {xs : Nat → Int32} (C : ZC E Γ 220 RL cL_law) (X : LX Γ b L xs) (hL : L ≤ 2048) {i : Int} (hi : 0 ≤ i ∧ i + 4 ≤ L) {ρ : ZSt} (hR : zRs ρ) (hs : Sim ρ ρ) (back : ∀ ρ, zRs ρ → Sim ρ ρ → ZG E Γ 887 [some (.ref b), some (zrf E 0), some (zrf E 31), some (ziv i)] [] ρ) : ZG E Γ 848 [some (.ref b), some (zrf E 0), some (zrf E 31), some (ziv i)] [] ρ := by
  refine z_aload_nZ (pc := 848) C dL_law_848 rfl rfl ?_
  refine z_callVi (pc := 849) (rest := []) C (C_X5_parse E ρ hR  hs.1.1) vL_122 (by decide) sh0 rfl rfl rfl (Nat.le_of_ble_eq_true rfl) dL_law_849 (fun r1 σ1 g1 hR1 h1 => ?_)
  have s1 : Sim ρ σ1 := hs.cl (fun c hc => by rw [h1.2]; exact hi_parse hc)
  refine z_aload_nZ (pc := 852) C dL_law_852 rfl rfl ?_
  refine z_callVi (pc := 853) (rest := [ziv r1]) C (C_X6_parse E σ1 hR1  ρ s1.1.2 s1.in0 s1.2.2.2.2.2.2.1) vL_125 (by decide) sh31 rfl rfl rfl (Nat.le_of_ble_eq_true rfl) dL_law_853 (fun r2 σ2 g2 hR2 h2 => ?_)
  have e8 := sim_parse s1 h2.2 h2.1
  rw [← h1.1, ← h1.2] at e8
  have e9 : r1 = r2 := e8.1.symm
  exact z_icmp_eq (pc := 856) C 887 g1 g2 dL_law_856 rfl (fun _ => back σ2 hR2 (e8.2.ml (fun c hc => h2.1.2.2.2.2.2.1 c (by omega)))) (fun q => absurd e9 q)
theorem law_27 {E : ZE} {Γ : ZT} {b L : Nat} {xs : Nat → Int32} (C : ZC E Γ 220 RL cL_law) (X : LX Γ b L xs) (hL : L ≤ 2048) {i : Int} (hi : 0 ≤ i ∧ i + 4 ≤ L) {ρ : ZSt} (hR : zRs ρ) (hs : Sim ρ ρ) (back : ∀ ρ, zRs ρ → Sim ρ ρ → ZG E Γ 887 [some (.ref b), some (zrf E 0), some (zrf E 31), some (ziv i)] [] ρ) : ZG E Γ 861 [some (.ref b), some (zrf E 0), some (zrf E 31), some (ziv i)] [] ρ := by
  refine z_aload_nZ (pc := 861) C dL_law_861 rfl rfl ?_
  refine z_callVp (pc := 862) (rest := []) C (C_X5_errorKind E ρ hR ) vL_126 (by decide) sh0 rfl rfl rfl (Nat.le_of_ble_eq_true rfl) dL_law_862 (fun r1 g1 h1 => ?_)
  refine z_aload_nZ (pc := 865) C dL_law_865 rfl rfl ?_
  refine z_callVp (pc := 866) (rest := [ziv r1]) C (C_X6_errorKind E ρ hR ) vL_129 (by decide) sh31 rfl rfl rfl (Nat.le_of_ble_eq_true rfl) dL_law_866 (fun r2 g2 h2 => ?_)
  have e9 : r1 = r2 := by rw [h1, h2]; exact (hs.2.2.2.2.2.2.1.1).symm
  exact z_icmp_eq (pc := 869) C 887 g1 g2 dL_law_869 rfl (fun _ => back ρ hR hs) (fun q => absurd e9 q)
theorem law_28 {E : ZE} {Γ : ZT} {b L : Nat} {xs : Nat → Int32} (C : ZC E Γ 220 RL cL_law) (X : LX Γ b L xs) (hL : L ≤ 2048) {i : Int} (hi : 0 ≤ i ∧ i + 4 ≤ L) {ρ : ZSt} (hR : zRs ρ) (hs : Sim ρ ρ) (back : ∀ ρ, zRs ρ → Sim ρ ρ → ZG E Γ 887 [some (.ref b), some (zrf E 0), some (zrf E 31), some (ziv i)] [] ρ) : ZG E Γ 874 [some (.ref b), some (zrf E 0), some (zrf E 31), some (ziv i)] [] ρ := by
  refine z_aload_nZ (pc := 874) C dL_law_874 rfl rfl ?_
  refine z_callVp (pc := 875) (rest := []) C (C_X5_errorPosition E ρ hR ) vL_130 (by decide) sh0 rfl rfl rfl (Nat.le_of_ble_eq_true rfl) dL_law_875 (fun r1 g1 h1 => ?_)
  refine z_aload_nZ (pc := 878) C dL_law_878 rfl rfl ?_
  refine z_callVp (pc := 879) (rest := [ziv r1]) C (C_X6_errorPosition E ρ hR ) vL_133 (by decide) sh31 rfl rfl rfl (Nat.le_of_ble_eq_true rfl) dL_law_879 (fun r2 g2 h2 => ?_)
  have e9 : r1 = r2 := by rw [h1, h2]; exact (hs.2.2.2.2.2.2.1.2).symm
  exact z_icmp_eq (pc := 882) C 887 g1 g2 dL_law_882 rfl (fun _ => back ρ hR hs) (fun q => absurd e9 q)
theorem law_loop {E : ZE} {Γ : ZT} {b L : Nat} {xs : Nat → Int32} (C : ZC E Γ 220 RL cL_law) (hN : ZN Γ 4) (X : LX Γ b L xs) (hL : L ≤ 2048) (hend : ∀ (pc : Nat) (lv : List (Option Value)) (σ : ZSt), decode cL_law pc = .ok (.ireturn, 1) → ZG E Γ pc lv [ziv 1] σ) : ∀ (n : Nat) (i : Int) (ρ : ZSt), (0 ≤ i ∧ i ≤ L + 4) → zRs ρ → Sim ρ ρ → ((L : Int) + 4 - i).toNat < n → ZG E Γ 18 [some (.ref b), some (zrf E 0), some (zrf E 31), some (ziv i)] [] ρ := by
  intro n
  induction n with
  | zero => intro i ρ _ _ _ hm; exact absurd hm (by omega)
  | succ n ih =>
    intro i ρ hi hR hs hm
    refine z_iload_n (pc := 18) C dL_law_18 rfl rfl ?_
    refine z_aload_n (pc := 19) C dL_law_19 rfl rfl ?_
    refine z_slen (pc := 20) C X dL_law_20 ?_
    refine z_iconst (pc := 21) C dL_law_21 ?_
    refine z_isub (pc := 22) C dL_law_22 ?_
    refine z_icmp_gt (pc := 23) C 893 (by unfold zRg; omega) (by unfold zRg; omega) dL_law_23 rfl (fun c_23 => ?_) (fun c_23 => ?_)
    · refine z_iconst (pc := 893) C dL_law_893 ?_
      exact hend 894 _ ρ dL_law_894
    · have hi4 : 0 ≤ i ∧ i + 4 ≤ L := by omega
      have back : ∀ ρ, zRs ρ → Sim ρ ρ → ZG E Γ 887 [some (.ref b), some (zrf E 0), some (zrf E 31), some (ziv i)] [] ρ := by
        intro ρ1 hR1 hs1
        refine z_iinc (pc := 887) (lv' := [some (.ref b), some (zrf E 0), some (zrf E 31), some (ziv (i + 4))]) C hN dL_law_887 (by decide) rfl rfl ?_
        refine z_goto (pc := 890) C 18 dL_law_890 rfl ?_
        exact ih (i + 4) ρ1 (by omega) hR1 hs1 (by omega)
      refine z_aload_n (pc := 26) C dL_law_26 rfl rfl ?_
      refine z_iload_n (pc := 27) C dL_law_27 rfl rfl ?_
      refine z_sld (pc := 28) C X hL (by omega) dL_law_28 ?_
      refine z_bipush (pc := 29) C dL_law_29 (by decide) ?_
      refine z_iand31 (pc := 31) C dL_law_31 (fun t ht => ?_)
      have tg : zRg t := by unfold zRg; omega
      by_cases h29 : 28 < t
      · exact z_tableOut (pc := 32) (tgt := 887) C tg dL_law_32 (Or.inr h29) rfl (back ρ hR hs)
      by_cases h0 : t = 0
      · subst h0
        exact z_tableIn (pc := 32) (tgt := 164) C tg dL_law_32 (by decide) rfl rfl (law_0 C X hL hi4 hR hs back)
      by_cases h1 : t = 1
      · subst h1
        exact z_tableIn (pc := 32) (tgt := 197) C tg dL_law_32 (by decide) rfl rfl (law_1 C X hL hi4 hR hs back)
      by_cases h2 : t = 2
      · subst h2
        exact z_tableIn (pc := 32) (tgt := 230) C tg dL_law_32 (by decide) rfl rfl (law_2 C X hL hi4 hR hs back)
      by_cases h3 : t = 3
      · subst h3
        exact z_tableIn (pc := 32) (tgt := 263) C tg dL_law_32 (by decide) rfl rfl (law_3 C X hL hi4 hR hs back)
      by_cases h4 : t = 4
      · subst h4
        exact z_tableIn (pc := 32) (tgt := 276) C tg dL_law_32 (by decide) rfl rfl (law_4 C X hL hi4 hR hs back)
      by_cases h5 : t = 5
      · subst h5
        exact z_tableIn (pc := 32) (tgt := 299) C tg dL_law_32 (by decide) rfl rfl (law_5 C X hL hi4 hR hs back)
      by_cases h6 : t = 6
      · subst h6
        exact z_tableIn (pc := 32) (tgt := 322) C tg dL_law_32 (by decide) rfl rfl (law_6 C X hL hi4 hR hs back)
      by_cases h7 : t = 7
      · subst h7
        exact z_tableIn (pc := 32) (tgt := 355) C tg dL_law_32 (by decide) rfl rfl (law_7 C X hL hi4 hR hs back)
      by_cases h8 : t = 8
      · subst h8
        exact z_tableIn (pc := 32) (tgt := 388) C tg dL_law_32 (by decide) rfl rfl (law_8 C X hL hi4 hR hs back)
      by_cases h9 : t = 9
      · subst h9
        exact z_tableIn (pc := 32) (tgt := 447) C tg dL_law_32 (by decide) rfl rfl (law_9 C X hL hi4 hR hs back)
      by_cases h10 : t = 10
      · subst h10
        exact z_tableIn (pc := 32) (tgt := 470) C tg dL_law_32 (by decide) rfl rfl (law_10 C X hL hi4 hR hs back)
      by_cases h11 : t = 11
      · subst h11
        exact z_tableIn (pc := 32) (tgt := 503) C tg dL_law_32 (by decide) rfl rfl (law_11 C X hL hi4 hR hs back)
      by_cases h12 : t = 12
      · subst h12
        exact z_tableIn (pc := 32) (tgt := 546) C tg dL_law_32 (by decide) rfl rfl (law_12 C X hL hi4 hR hs back)
      by_cases h13 : t = 13
      · subst h13
        exact z_tableIn (pc := 32) (tgt := 559) C tg dL_law_32 (by decide) rfl rfl (law_13 C X hL hi4 hR hs back)
      by_cases h14 : t = 14
      · subst h14
        exact z_tableIn (pc := 32) (tgt := 582) C tg dL_law_32 (by decide) rfl rfl (law_14 C X hL hi4 hR hs back)
      by_cases h15 : t = 15
      · subst h15
        exact z_tableIn (pc := 32) (tgt := 605) C tg dL_law_32 (by decide) rfl rfl (law_15 C X hL hi4 hR hs back)
      by_cases h16 : t = 16
      · subst h16
        exact z_tableIn (pc := 32) (tgt := 638) C tg dL_law_32 (by decide) rfl rfl (law_16 C X hL hi4 hR hs back)
      by_cases h17 : t = 17
      · subst h17
        exact z_tableIn (pc := 32) (tgt := 661) C tg dL_law_32 (by decide) rfl rfl (law_17 C X hL hi4 hR hs back)
      by_cases h18 : t = 18
      · subst h18
        exact z_tableIn (pc := 32) (tgt := 694) C tg dL_law_32 (by decide) rfl rfl (law_18 C X hL hi4 hR hs back)
      by_cases h19 : t = 19
      · subst h19
        exact z_tableIn (pc := 32) (tgt := 717) C tg dL_law_32 (by decide) rfl rfl (law_19 C X hL hi4 hR hs back)
      by_cases h20 : t = 20
      · subst h20
        exact z_tableIn (pc := 32) (tgt := 740) C tg dL_law_32 (by decide) rfl rfl (law_20 C X hL hi4 hR hs back)
      by_cases h21 : t = 21
      · subst h21
        exact z_tableIn (pc := 32) (tgt := 763) C tg dL_law_32 (by decide) rfl rfl (law_21 C X hL hi4 hR hs back)
      by_cases h22 : t = 22
      · subst h22
        exact z_tableIn (pc := 32) (tgt := 776) C tg dL_law_32 (by decide) rfl rfl (law_22 C X hL hi4 hR hs back)
      by_cases h23 : t = 23
      · subst h23
        exact z_tableIn (pc := 32) (tgt := 799) C tg dL_law_32 (by decide) rfl rfl (law_23 C X hL hi4 hR hs back)
      by_cases h24 : t = 24
      · subst h24
        exact z_tableIn (pc := 32) (tgt := 822) C tg dL_law_32 (by decide) rfl rfl (law_24 C X hL hi4 hR hs back)
      by_cases h25 : t = 25
      · subst h25
        exact z_tableIn (pc := 32) (tgt := 835) C tg dL_law_32 (by decide) rfl rfl (law_25 C X hL hi4 hR hs back)
      by_cases h26 : t = 26
      · subst h26
        exact z_tableIn (pc := 32) (tgt := 848) C tg dL_law_32 (by decide) rfl rfl (law_26 C X hL hi4 hR hs back)
      by_cases h27 : t = 27
      · subst h27
        exact z_tableIn (pc := 32) (tgt := 861) C tg dL_law_32 (by decide) rfl rfl (law_27 C X hL hi4 hR hs back)
      by_cases h28 : t = 28
      · subst h28
        exact z_tableIn (pc := 32) (tgt := 874) C tg dL_law_32 (by decide) rfl rfl (law_28 C X hL hi4 hR hs back)
      exfalso; omega
