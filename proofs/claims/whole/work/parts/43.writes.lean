/-! ===== the class's writer, against the fewest pairs ===== -/
/-- the operators and the nodes are the same -/
def zAk (σ τ : ZSt) : Prop := ∀ c, 1 ≤ c ∧ c ≤ 12 → τ c = σ c
section ALIKE2
variable {σ τ : ZSt}
theorem zAk.nop {a : Int} (h : zAk σ τ) : xnop τ 7 a = xnop σ 7 a := by unfold xnop; rw [h 7 (by decide), h 8 (by decide)]
theorem zAk.nlet {a : Int} (h : zAk σ τ) : xnlet τ 7 a = xnlet σ 7 a := by unfold xnlet; rw [h 7 (by decide), h 9 (by decide)]
theorem zAk.nbef {a : Int} (h : zAk σ τ) : xnbef τ 7 a = xnbef σ 7 a := by unfold xnbef; rw [h 7 (by decide), h 10 (by decide)]
theorem zAk.naft {a : Int} (h : zAk σ τ) : xnaft τ 7 a = xnaft σ 7 a := by unfold xnaft; rw [h 7 (by decide), h 11 (by decide)]
theorem zAk.sym {a : Int} (h : zAk σ τ) : xsym τ a = xsym σ a := by unfold xsym; rw [h 1 (by decide), h 2 (by decide)]
theorem zAk.kind {a : Int} (h : zAk σ τ) : xkind τ a = xkind σ a := by unfold xkind; rw [h 1 (by decide), h 3 (by decide)]
theorem zAk.lev {a : Int} (h : zAk σ τ) : xlev τ a = xlev σ a := by unfold xlev; rw [h 1 (by decide), h 4 (by decide)]
theorem zAk.min {a : Int} (h : zAk σ τ) : xmin τ a = xmin σ a := by unfold xmin; rw [h 1 (by decide), h 3 (by decide), h 4 (by decide), h 5 (by decide)]
theorem zAk.asc {a : Int} (h : zAk σ τ) : xasc τ a = xasc σ a := by unfold xasc; rw [h 5 (by decide)]
theorem zAk.fb {a b : Int} (h : zAk σ τ) : xfb τ a b = xfb σ a b := by unfold xfb; rw [h 1 (by decide), h 6 (by decide)]
theorem zAk.na {a b : Int} (h : zAk σ τ) : xna τ a b = xna σ a b := by unfold xna; rw [h.kind, h.kind, h.lev, h.lev, h.asc]
theorem zAk.rw {o m x : Int} (h : zAk σ τ) : xrw τ o m x = xrw σ o m x := by unfold xrw; rw [h.kind, h.lev, h.min]
theorem zAk.pi {f : Int → Int → Int → Int} {o w m x : Int} (h : zAk σ τ) : xpi τ f o w m x = xpi σ f o w m x := by unfold xpi; rw [h.nop, h.fb, h.na]
end ALIKE2
theorem xpi_ext {τ : ZSt} {f g : Int → Int → Int → Int} {o a m x : Int} (h : f a m x = g a m x) : xpi τ f o a m x = xpi τ g o a m x := by
  unfold xpi
  rw [h]
/-- closed under operands -/
def Cl (τ : ZSt) (M : Int → Prop) : Prop := ∀ v, M v → (0 ≤ v ∧ v < τ 7 5) ∧ (xnbef τ 7 v ≠ -1 → M (xnbef τ 7 v)) ∧ (xnaft τ 7 v ≠ -1 → M (xnaft τ 7 v))
theorem xpb_in {ρ : ZSt} {a v : Int} (ha : 0 ≤ a ∧ a < 100) (e : ρ 30 a.toNat = v) (hv : 0 ≤ v ∧ v ≤ 39) : xpb ρ a = 1 + v := by
  unfold xpb
  rw [zif_pos ha, e, zw_id (by unfold zRg; omega)]
theorem xpo_yo {τ ρ : ZSt} (w : W7 τ) (wo : WO τ) (h100 : τ 7 5 ≤ 100) (al : zAk τ ρ) {f : Int → Int → Int → Int} {o a m x : Int} (ka : Kd τ a) (hf : a ≠ -1 → f a m x = YC τ a m x) (h30 : a ≠ -1 → ρ 30 a.toNat = YC τ a 0 0) : xpo ρ f o a m x = yo τ (YC τ) o a m x := by
  unfold xpo yo
  rw [al.nop]
  by_cases c : xnop τ 7 a = -1
  · rw [zif_pos c, zif_pos c]
  · have hne : a ≠ -1 := fun e => c (xn_none e).1
    have hin := ka.resolve_left hne
    rw [zif_neg c, zif_neg c, al.pi, xpi_ext (hf hne), xpb_in (by omega) (h30 hne) ⟨((YC_rg w wo hin).1 0 0).1, (YC_rg w wo hin).2⟩]
theorem xpin_yc {τ ρ : ZSt} (w : W7 τ) (wo : WO τ) (h100 : τ 7 5 ≤ 100) (al : zAk τ ρ) {M : Int → Prop} (cl : Cl τ M) : ∀ (n : Nat) (v : Int), M v → xnsz τ 7 v ≤ n → (∀ u, M u → u < v → ρ 30 u.toNat = YC τ u 0 0) → ∀ m x, xpin ρ n v m x = YC τ v m x := by
  intro n
  induction n with
  | zero => intro v hv hs; have := (w.node (cl v hv).1).1; omega
  | succ n ih =>
    intro v hv hs h30 m x
    obtain ⟨hin, c1, c2⟩ := cl v hv
    obtain ⟨k1, k2⟩ := w.kids hin
    obtain ⟨-, hz, l1, l2, -⟩ := w.node hin
    have z1 := k1.size w
    have z2 := k2.size w
    rw [YC_eq w hin]
    show zif _ _ (zif _ (zw (_ + _)) _) = _
    rw [al.nop, al.rw, al.nbef, al.naft, al.lev, al.min]
    rw [xpo_yo w wo h100 al k1 (fun h => ih _ (c1 h) (by omega) (fun u hu hl => h30 u hu (by omega)) _ _) (fun h => h30 _ (c1 h) (by omega)), xpo_yo w wo h100 al k2 (fun h => ih _ (c2 h) (by omega) (fun u hu hl => h30 u hu (by omega)) _ _) (fun h => h30 _ (c2 h) (by omega))]
    have b1 := yo_rg w wo k1 (xnop τ 7 v) m (xlev τ (xnop τ 7 v))
    have b2 := yo_rg w wo k2 (xnop τ 7 v) (xmin τ (xnop τ 7 v)) x
    rw [zw_id (by unfold zRg; omega)]
theorem xto_yto {τ ρ : ZSt} (w : W7 τ) (wo : WO τ) (h100 : τ 7 5 ≤ 100) (al : zAk τ ρ) {M : Int → Prop} (cl : Cl τ M) (h30 : ρ 29 4 = 0 → ∀ u, M u → ρ 30 u.toNat = YC τ u 0 0) {n : Nat} {f g : Int → Int → Int → List Int} {o a m x : Int} (ka : Kd τ a) (ma : a ≠ -1 → M a) (hsz : xnsz τ 7 a ≤ n) (hf : a ≠ -1 → f a = g a) : xto ρ n f o a m x = yto τ (ρ 29 4) g o a m x := by
  unfold xto yto
  by_cases ha : a = -1
  · rw [zif_pos ha, zif_pos ha]
  · rw [zif_neg ha, zif_neg ha, hf ha, al.nop]
    have hin := ka.resolve_left ha
    have e : (xnop τ 7 a ≠ -1 ∧ (ρ 29 4 ≠ 0 ∨ xpb ρ a < xpi ρ (xpin ρ n) o a m x)) = (xnop τ 7 a ≠ -1 ∧ (ρ 29 4 ≠ 0 ∨ 1 + YC τ a 0 0 < xpi τ (YC τ) o a m x)) := by
      by_cases hz : ρ 29 4 = 0
      · have h9 := h30 hz
        rw [xpb_in (by omega) (h9 a (ma ha)) ⟨((YC_rg w wo hin).1 0 0).1, (YC_rg w wo hin).2⟩, al.pi, xpi_ext (xpin_yc w wo h100 al cl n a (ma ha) hsz (fun u hu _ => h9 u hu) m x)]
      · exact propext ⟨fun q => ⟨q.1, Or.inl hz⟩, fun q => ⟨q.1, Or.inl hz⟩⟩
    rw [e]
theorem xtext_yt {τ ρ : ZSt} (w : W7 τ) (wo : WO τ) (h100 : τ 7 5 ≤ 100) (al : zAk τ ρ) {M : Int → Prop} (cl : Cl τ M) (h30 : ρ 29 4 = 0 → ∀ u, M u → ρ 30 u.toNat = YC τ u 0 0) : ∀ (n : Nat) (v : Int), M v → xnsz τ 7 v ≤ n → xtext ρ n v = yt τ (ρ 29 4) n v := by
  intro n
  induction n with
  | zero => intro v hv hs; have := (w.node (cl v hv).1).1; omega
  | succ n ih =>
    intro v hv hs
    obtain ⟨hin, c1, c2⟩ := cl v hv
    obtain ⟨k1, k2⟩ := w.kids hin
    obtain ⟨-, hz, l1, l2, -⟩ := w.node hin
    have z1 := k1.size w
    have z2 := k2.size w
    funext m x
    show zif _ _ (_ ++ _ ++ _) = zif _ _ (_ ++ _ ++ _)
    rw [al.nop, al.nlet, al.nbef, al.naft, al.lev, al.min, al.sym]
    rw [xto_yto w wo h100 al cl h30 k1 c1 (by omega) (fun h => ih _ (c1 h) (by omega)), xto_yto w wo h100 al cl h30 k2 c2 (by omega) (fun h => ih _ (c2 h) (by omega))]
-- marking
theorem xmark_at {σ : ZSt} {a : Int} {j : Nat} : xmark σ a 30 j = σ 30 j ∨ (xmark σ a 30 j = -1 ∧ (j : Int) = a) := by
  unfold xmark
  by_cases hc : 0 ≤ a ∧ a < 100
  · rw [zif_pos hc]
    by_cases e : j = a.toNat
    · right; rw [e, zup_same]; exact ⟨rfl, by omega⟩
    · left; rw [zup_place e]
  · left; rw [zif_neg hc]
theorem xmark_hit {σ : ZSt} {a : Int} (ha : 0 ≤ a ∧ a < 100) : xmark σ a 30 a.toNat = -1 := by
  unfold xmark
  rw [zif_pos ha, zup_same]
theorem xmark_keep {σ : ZSt} {a : Int} {j : Nat} (h : σ 30 j = -1) : xmark σ a 30 j = -1 := by
  rcases xmark_at (σ := σ) (a := a) (j := j) with e | e
  · rw [e, h]
  · exact e.1
/-- the marks, above n, are closed -/
def MkC (τ ρ : ZSt) (n : Nat) : Prop := ∀ v : Nat, n ≤ v → ρ 30 v = -1 → (xnbef τ 7 v ≠ -1 → ρ 30 (xnbef τ 7 v).toNat = -1) ∧ (xnaft τ 7 v ≠ -1 → ρ 30 (xnaft τ 7 v).toNat = -1)
theorem xmarks_ok {τ : ZSt} (w : W7 τ) (h100 : τ 7 5 ≤ 100) : ∀ (n : Nat) (ρ : ZSt), (n : Int) ≤ τ 7 5 → zAk τ ρ → (∀ v : Nat, n ≤ v → (v : Int) < τ 7 5 → True) → MkC τ ρ n → (∀ v : Nat, ρ 30 v = -1 → (v : Int) < τ 7 5) →
    MkC τ (xmarks n ρ) 0 ∧ zAk τ (xmarks n ρ) ∧ (∀ v : Nat, ρ 30 v = -1 → xmarks n ρ 30 v = -1) ∧ (∀ v : Nat, n ≤ v → xmarks n ρ 30 v = ρ 30 v) ∧ (∀ v : Nat, xmarks n ρ 30 v = -1 ∨ xmarks n ρ 30 v = ρ 30 v) ∧ (∀ v : Nat, xmarks n ρ 30 v = -1 → (v : Int) < τ 7 5) := by
  intro n
  induction n with
  | zero => intro ρ _ al _ h hb; exact ⟨h, al, fun _ h => h, fun _ _ => rfl, fun _ => Or.inr rfl, hb⟩
  | succ n ih =>
    intro ρ hn al _ h hb
    show MkC τ (xmarks n (zif _ _ _)) 0 ∧ zAk τ (xmarks n (zif _ _ _)) ∧ (∀ v : Nat, ρ 30 v = -1 → xmarks n (zif _ _ _) 30 v = -1) ∧ (∀ v : Nat, n + 1 ≤ v → xmarks n (zif _ _ _) 30 v = ρ 30 v) ∧ (∀ v : Nat, xmarks n (zif _ _ _) 30 v = -1 ∨ xmarks n (zif _ _ _) 30 v = ρ 30 v) ∧ (∀ v : Nat, xmarks n (zif _ _ _) 30 v = -1 → (v : Int) < τ 7 5)
    have hin : 0 ≤ (n : Int) ∧ (n : Int) < τ 7 5 := by omega
    obtain ⟨-, -, l1, l2, -⟩ := w.node hin
    by_cases c : ρ 30 n = -1
    · rw [zif_pos c]
      obtain ⟨μ, hμ⟩ : ∃ μ, μ = xmark (xmark ρ (xnbef ρ 7 n)) (xnaft ρ 7 n) := ⟨_, rfl⟩
      rw [al.nbef, al.naft] at hμ
      rw [al.nbef, al.naft, ← hμ]
      have a1 : zAk τ μ := fun c hc => by rw [hμ, xmark_row (by omega), xmark_row (by omega)]; exact al c hc
      have a2 : ∀ v : Nat, ρ 30 v = -1 → μ 30 v = -1 := fun v hv => by rw [hμ]; exact xmark_keep (xmark_keep hv)
      have a3 : ∀ v : Nat, μ 30 v = ρ 30 v ∨ (μ 30 v = -1 ∧ (v : Int) < n) := by
        intro v
        rw [hμ]
        rcases xmark_at (σ := xmark ρ (xnbef τ 7 n)) (a := xnaft τ 7 n) (j := v) with e | e
        · rw [e]
          rcases xmark_at (σ := ρ) (a := xnbef τ 7 n) (j := v) with e2 | e2
          · exact Or.inl e2
          · exact Or.inr ⟨e2.1, by omega⟩
        · exact Or.inr ⟨e.1, by omega⟩
      have a4 : MkC τ μ n := by
        intro v hv hm
        by_cases e : v = n
        · subst e
          refine ⟨fun h1 => ?_, fun h1 => ?_⟩
          · rw [hμ]; exact xmark_keep (xmark_hit (by omega))
          · rw [hμ]; exact xmark_hit (by omega)
        · have hm2 : ρ 30 v = -1 := by rcases a3 v with q | q; · rw [← q]; exact hm
                                       · omega
          obtain ⟨q1, q2⟩ := h v (by omega) hm2
          exact ⟨fun h1 => a2 _ (q1 h1), fun h1 => a2 _ (q2 h1)⟩
      have a5 : ∀ v : Nat, μ 30 v = -1 → (v : Int) < τ 7 5 := by
        intro v hv
        rcases a3 v with q | q
        · exact hb v (by rw [← q]; exact hv)
        · omega
      obtain ⟨i1, i2, i3, i4, i5, i6⟩ := ih μ (by omega) a1 (fun _ _ _ => trivial) a4 a5
      refine ⟨i1, i2, fun v hv => i3 v (a2 v hv), fun v hv => ?_, fun v => ?_, i6⟩
      · rw [i4 v (by omega)]
        rcases a3 v with q | q
        · exact q
        · omega
      · rcases i5 v with q | q
        · exact Or.inl q
        · rcases a3 v with p | p
          · exact Or.inr (by rw [q, p])
          · exact Or.inl (by rw [q, p.1])
    · rw [zif_neg c]
      have a4 : MkC τ ρ n := by
        intro v hv hm
        by_cases e : v = n
        · subst e; exact absurd hm c
        · exact h v (by omega) hm
      obtain ⟨i1, i2, i3, i4, i5, i6⟩ := ih ρ (by omega) al (fun _ _ _ => trivial) a4 hb
      exact ⟨i1, i2, i3, fun v hv => i4 v (by omega), i5, i6⟩
theorem xmarks_row {c : Nat} (hc : c ≠ 30) : ∀ (n : Nat) (ρ : ZSt), xmarks n ρ c = ρ c := by
  intro n
  induction n with
  | zero => intro ρ; rfl
  | succ n ih =>
    intro ρ
    show xmarks n (zif _ _ _) c = _
    rw [ih]
    by_cases h : ρ 30 n = -1
    · rw [zif_pos h, xmark_row hc, xmark_row hc]
    · rw [zif_neg h]
theorem xcnt_row {c : Nat} (hc : c ≠ 30) (ρ : ZSt) : ∀ n : Nat, xcnt ρ n c = ρ c := by
  intro n
  induction n with
  | zero => rfl
  | succ n ih =>
    show (zif (xcnt ρ n 30 n = -1) (zup (xcnt ρ n) 30 n (xpin (xcnt ρ n) 40 n 0 0)) (xcnt ρ n) : ZSt) c = _
    by_cases h : xcnt ρ n 30 n = -1
    · rw [zif_pos h, zup_row hc, ih]
    · rw [zif_neg h, ih]
theorem xcnt_ok {τ μ : ZSt} (w : W7 τ) (wo : WO τ) (h100 : τ 7 5 ≤ 100) (al : zAk τ μ) (mk : MkC τ μ 0) (hb : ∀ v : Nat, μ 30 v = -1 → (v : Int) < τ 7 5) : ∀ n : Nat, (∀ v : Nat, v < n → μ 30 v = -1 → xcnt μ n 30 v = YC τ v 0 0) ∧ (∀ v : Nat, n ≤ v ∨ μ 30 v ≠ -1 → xcnt μ n 30 v = μ 30 v) := by
  have cl : Cl τ (fun v => 0 ≤ v ∧ μ 30 v.toNat = -1) := by
    intro v hv
    have hin : 0 ≤ v ∧ v < τ 7 5 := ⟨hv.1, by have := hb _ hv.2; omega⟩
    obtain ⟨-, -, l1, l2, -⟩ := w.node hin
    have m := mk v.toNat (Nat.zero_le _) hv.2
    rw [show ((v.toNat : Nat) : Int) = v by omega] at m
    exact ⟨hin, fun h => ⟨by omega, m.1 h⟩, fun h => ⟨by omega, m.2 h⟩⟩
  intro n
  induction n with
  | zero => exact ⟨fun v hv => absurd hv (Nat.not_lt_zero _), fun v _ => rfl⟩
  | succ n ih =>
    obtain ⟨i1, i2⟩ := ih
    have an : zAk τ (xcnt μ n) := fun c hc => by rw [xcnt_row (by omega)]; exact al c hc
    have e0 : xcnt μ (n + 1) = zif (xcnt μ n 30 n = -1) (zup (xcnt μ n) 30 n (xpin (xcnt μ n) 40 n 0 0)) (xcnt μ n) := rfl
    by_cases h : xcnt μ n 30 n = -1
    · have hm : μ 30 n = -1 := by rw [← i2 n (Or.inl (Nat.le_refl _))]; exact h
      rw [e0, zif_pos h]
      have hin : 0 ≤ (n : Int) ∧ (n : Int) < τ 7 5 := ⟨by omega, hb n hm⟩
      have hx : xpin (xcnt μ n) 40 n 0 0 = YC τ n 0 0 := by
        refine xpin_yc w wo h100 an cl 40 n ⟨by omega, hm⟩ (w.node hin).1.2 (fun u hu hl => ?_) 0 0
        have := i1 u.toNat (by omega) hu.2
        rw [show ((u.toNat : Nat) : Int) = u by have := hu.1; omega] at this
        exact this
      refine ⟨fun v hv hmv => ?_, fun v hv => ?_⟩
      · by_cases e : v = n
        · rw [e, zup_same, hx]
        · rw [zup_place e]; exact i1 v (by omega) hmv
      · have e : v ≠ n := by rcases hv with hv | hv; · omega
                             · exact fun q => hv (by rw [q]; exact hm)
        rw [zup_place e]
        exact i2 v (by omega)
    · rw [e0, zif_neg h]
      have hm : μ 30 n ≠ -1 := by rw [← i2 n (Or.inl (Nat.le_refl _))]; exact h
      refine ⟨fun v hv hmv => ?_, fun v hv => ?_⟩
      · by_cases e : v = n
        · rw [e] at hmv; exact absurd hmv hm
        · exact i1 v (by omega) hmv
      · by_cases e : v = n
        · rw [e]; exact i2 n (Or.inl (Nat.le_refl _))
        · exact i2 v (by omega)
/-- the class's text is the one on its tables; what a printing leaves -/
theorem xprep_ok {τ σ : ZSt} (w : W7 τ) (wo : WO τ) (h100 : τ 7 5 ≤ 100) (al : zAk τ σ) (h30 : ∀ i, 0 ≤ σ 30 i) {a z : Int} (ha : 0 ≤ a ∧ a < τ 7 5) : xtext (xprep σ a z) 40 a = YT τ z a ∧ (∀ i, 0 ≤ xprep σ a z 30 i) ∧ (∀ c, c ≠ 29 ∧ c ≠ 30 → xprep σ a z c = σ c) ∧ (∀ j, j ≠ 4 → xprep σ a z 29 j = σ 29 j) := by
  unfold xprep
  by_cases hz : z = 0
  · rw [zif_pos hz]
    obtain ⟨σ1, h1⟩ : ∃ s, s = zup σ 29 4 z := ⟨_, rfl⟩
    rw [← h1]
    have al1 : zAk τ (xmark σ1 a) := fun c hc => by rw [xmark_row (by omega), h1, zup_row (by omega)]; exact al c hc
    have r30 : σ1 30 = σ 30 := by rw [h1, zup_row (by decide)]
    have mk0 : ∀ v : Nat, xmark σ1 a 30 v = -1 → (v : Int) = a := by
      intro v hv
      rcases xmark_at (σ := σ1) (a := a) (j := v) with e | e
      · rw [e, r30] at hv; have := h30 v; omega
      · exact e.2
    have en : (min a 99 + 1).toNat = a.toNat + 1 := by omega
    have em : (min (a + 1) 100).toNat = a.toNat + 1 := by omega
    obtain ⟨i1, i2, i3, i4, i5, i6⟩ := xmarks_ok w h100 (a.toNat + 1) (xmark σ1 a) (by omega) al1 (fun _ _ _ => trivial) (fun v hv hm => by have := mk0 v hm; omega) (fun v hm => by have := mk0 v hm; omega)
    have eN : xmarkN σ1 a = xmarks (a.toNat + 1) (xmark σ1 a) := by unfold xmarkN; rw [en]
    rw [eN, em]
    obtain ⟨μ, hμ⟩ : ∃ μ, μ = xmarks (a.toNat + 1) (xmark σ1 a) := ⟨_, rfl⟩
    rw [← hμ] at i1 i2 i3 i4 i5 i6 ⊢
    have rμ : ∀ c, c ≠ 30 → μ c = σ1 c := fun c hc => by rw [hμ, xmarks_row hc, xmark_row hc]
    have hle : ∀ v : Nat, μ 30 v = -1 → v < a.toNat + 1 := by
      intro v hv
      rcases Nat.lt_or_ge v (a.toNat + 1) with q | q
      · exact q
      · rw [i4 v q] at hv
        have := mk0 v hv
        omega
    obtain ⟨c1, c2⟩ := xcnt_ok w wo h100 i2 i1 i6 (a.toNat + 1)
    have rc : ∀ c, c ≠ 30 → xcnt μ (a.toNat + 1) c = σ1 c := fun c hc => by rw [xcnt_row hc, rμ c hc]
    have z4 : xcnt μ (a.toNat + 1) 29 4 = z := by rw [rc 29 (by decide), h1, zup_same]
    have alc : zAk τ (xcnt μ (a.toNat + 1)) := fun c hc => by rw [rc c (by omega), h1, zup_row (by omega)]; exact al c hc
    refine ⟨?_, ?_, ?_, ?_⟩
    · have cl : Cl τ (fun v => 0 ≤ v ∧ μ 30 v.toNat = -1) := by
        intro v hv
        have hin : 0 ≤ v ∧ v < τ 7 5 := ⟨hv.1, by have := i6 _ hv.2; omega⟩
        obtain ⟨-, -, l1, l2, -⟩ := w.node hin
        have m := i1 v.toNat (Nat.zero_le _) hv.2
        rw [show ((v.toNat : Nat) : Int) = v by omega] at m
        exact ⟨hin, fun h => ⟨by omega, m.1 h⟩, fun h => ⟨by omega, m.2 h⟩⟩
      have ha9 : μ 30 a.toNat = -1 := i3 _ (xmark_hit (by omega))
      have := xtext_yt w wo h100 alc cl (fun _ u hu => by
        have q := c1 u.toNat (hle _ hu.2) hu.2
        rw [show ((u.toNat : Nat) : Int) = u by have := hu.1; omega] at q
        exact q) 40 a ⟨ha.1, ha9⟩ (w.node ha).1.2
      rw [this, z4]
      rfl
    · intro i
      by_cases hm : μ 30 i = -1
      · rw [c1 i (hle i hm) hm]
        exact ((YC_rg w wo ⟨by omega, i6 i hm⟩).1 0 0).1
      · rw [c2 i (Or.inr hm)]
        rcases i5 i with q | q
        · exact absurd q hm
        · rw [q]
          rw [q] at hm
          rcases xmark_at (σ := σ1) (a := a) (j := i) with e | e
          · rw [e, r30]; exact h30 i
          · exact absurd e.1 hm
    · intro c hc
      rw [rc c (by omega), h1, zup_row (by omega)]
    · intro j hj
      rw [rc 29 (by decide), h1, zup_place hj]
  · rw [zif_neg hz]
    have alc : zAk τ (zup σ 29 4 z) := fun c hc => by rw [zup_row (by omega)]; exact al c hc
    have z4 : zup σ 29 4 z 29 4 = z := zup_same _ _ _ _
    refine ⟨?_, fun i => by rw [zup_row (by decide)]; exact h30 i, fun c hc => zup_row (by omega), fun j hj => zup_place hj⟩
    have cl : Cl τ (fun v => 0 ≤ v ∧ v < τ 7 5) := by
      intro v hv
      obtain ⟨-, -, l1, l2, -⟩ := w.node hv
      exact ⟨hv, fun h => by omega, fun h => by omega⟩
    have := xtext_yt w wo h100 alc cl (fun h => absurd (z4.symm.trans h) hz) 40 a ha (w.node ha).1.2
    rw [this, z4]
    rfl
