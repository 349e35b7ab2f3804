/-! ===== the class and the reference, side by side ===== -/
def OutB (τ : ZSt) : Prop := (∀ j : Nat, (j : Int) < τ 21 1 → 0 < τ 22 j) ∧ ∀ p : Nat, (p : Int) < τ 21 1 → τ 22 p = 40 → zclo (τ 22) (p + 1) (τ 21 1 - (p + 1)).toNat 1 ≠ -1
def OutS (τ σ : ZSt) : Prop := (σ 31 13 = τ 21 1 ∧ σ 42 = τ 22) ∧ OutB τ
def InS (τ σ : ZSt) : Prop := (σ 31 16 = τ 19 1 ∧ σ 43 = τ 20) ∧ ∀ j : Nat, (j : Int) < τ 19 1 → 0 < τ 20 j
def PrS (τ σ : ZSt) : Prop := σ 31 14 = zd (τ 0 8) ∧ (τ 0 8 = -1 ∨ (0 ≤ τ 0 8 ∧ τ 0 8 < τ 7 5))
def ErS (τ σ : ZSt) : Prop := σ 31 17 = τ 0 9 ∧ σ 31 18 = τ 0 10
def NdS (τ σ : ZSt) : Prop := SN τ σ ∧ W7 τ ∧ τ 7 5 ≤ 100
def OpS (τ σ : ZSt) : Prop := WO τ ∧ SO τ σ
def Sim (τ σ : ZSt) : Prop := (IX τ ∧ IM σ) ∧ OpS τ σ ∧ NdS τ σ ∧ OutS τ σ ∧ InS τ σ ∧ PrS τ σ ∧ ErS τ σ ∧ ∀ i, 0 ≤ τ 30 i
section SIM
variable {τ σ ρ ς : ZSt}
theorem OpS.same (h : OpS τ σ) (x : ∀ c, 1 ≤ c ∧ c ≤ 6 → ρ c = τ c) (m3 : ς 31 3 = σ 31 3) (m : ∀ c, 32 ≤ c ∧ c ≤ 36 → ς c = σ c) : OpS ρ ς := by
  unfold OpS WO SO at h ⊢
  rw [x 1 (by decide), x 2 (by decide), x 3 (by decide), x 4 (by decide), x 5 (by decide), x 6 (by decide), m3, m 32 (by decide), m 33 (by decide), m 34 (by decide), m 35 (by decide), m 36 (by decide)]
  exact h
theorem NdS.same (h : NdS τ σ) (x : ∀ c, c = 1 ∨ c = 3 ∨ (7 ≤ c ∧ c ≤ 12) → ρ c = τ c) (m11 : ς 31 11 = σ 31 11) (m : ∀ c, 37 ≤ c ∧ c ≤ 41 → ς c = σ c) : NdS ρ ς :=
  ⟨h.1.same (fun c hc => x c (by omega)) m11 m, h.2.1.same (x 1 (by decide)) (x 3 (by decide)) (fun c hc => x c (by omega)), by rw [x 7 (by decide)]; exact h.2.2⟩
theorem OutS.same (h : OutS τ σ) (x1 : ρ 21 1 = τ 21 1) (x2 : ρ 22 = τ 22) (m1 : ς 31 13 = σ 31 13) (m2 : ς 42 = σ 42) : OutS ρ ς := by
  unfold OutS OutB at h ⊢
  rw [x1, x2, m1, m2]
  exact h
theorem InS.same (h : InS τ σ) (x1 : ρ 19 1 = τ 19 1) (x2 : ρ 20 = τ 20) (m1 : ς 31 16 = σ 31 16) (m2 : ς 43 = σ 43) : InS ρ ς := by
  unfold InS at h ⊢
  rw [x1, x2, m1, m2]
  exact h
theorem PrS.same (h : PrS τ σ) (x1 : ρ 0 8 = τ 0 8) (x2 : τ 7 5 ≤ ρ 7 5) (m1 : ς 31 14 = σ 31 14) : PrS ρ ς := by
  unfold PrS at h ⊢
  rw [x1, m1]
  exact ⟨h.1, by have := h.2; omega⟩
theorem ErS.same (h : ErS τ σ) (x1 : ρ 0 9 = τ 0 9) (x2 : ρ 0 10 = τ 0 10) (m1 : ς 31 17 = σ 31 17) (m2 : ς 31 18 = σ 31 18) : ErS ρ ς := by
  unfold ErS at h ⊢
  rw [x1, x2, m1, m2]
  exact h
/-- the reference stands as it stood -/
theorem Sim.cl (h : Sim τ σ) (m : ∀ c, 31 ≤ c → ς c = σ c) : Sim τ ς := by
  obtain ⟨⟨h0, h1⟩, h2, h3, h4, h5, h6, h7, h8⟩ := h
  refine ⟨⟨h0, h1.of ?_ ?_ ?_ ?_ ?_ ?_⟩, h2.same (fun _ _ => rfl) ?_ (fun c hc => m c (by omega)), h3.same (fun _ _ => rfl) ?_ (fun c hc => m c (by omega)), h4.same rfl rfl ?_ (m 42 (by decide)), h5.same rfl rfl ?_ (m 43 (by decide)), h6.same rfl (Int.le_refl _) ?_, h7.same rfl rfl ?_ ?_, h8⟩
  all_goals first | rw [m 31 (by decide)] | (intro i; rw [m 34 (by decide)])
/-- the class stands as it stood -/
theorem Sim.ml (h : Sim τ σ) (x : ∀ c, c < 31 → ρ c = τ c) : Sim ρ σ := by
  obtain ⟨⟨h0, h1⟩, h2, h3, h4, h5, h6, h7, h8⟩ := h
  refine ⟨⟨?_, h1⟩, h2.same (fun c hc => x c (by omega)) rfl (fun _ _ => rfl), h3.same (fun c hc => x c (by omega)) rfl (fun _ _ => rfl), h4.same (by rw [x 21 (by decide)]) (x 22 (by decide)) rfl rfl, h5.same (by rw [x 19 (by decide)]) (x 20 (by decide)) rfl rfl, h6.same (by rw [x 0 (by decide)]) (by rw [x 7 (by decide)]; exact Int.le_refl _) rfl, h7.same (by rw [x 0 (by decide)]) (by rw [x 0 (by decide)]) rfl rfl, ?_⟩
  · unfold IX at h0 ⊢
    rw [x 1 (by decide), x 7 (by decide), x 13 (by decide), x 19 (by decide), x 21 (by decide), x 23 (by decide), x 25 (by decide), x 4 (by decide)]
    exact h0
  · rw [x 30 (by decide)]; exact h8
end SIM
-- a text of paired brackets, in a row
def zdf (f : Nat → Int) : Nat → Nat → Int
  | _, 0 => 0
  | p, n + 1 => zdl (f p) + zdf f (p + 1) n
theorem zclo_ne {f : Nat → Int} : ∀ (n p : Nat) (d : Int), 0 < d → d + zdf f p n ≤ 0 → zclo f p n d ≠ -1 := by
  intro n
  induction n with
  | zero => intro p d h1 h2; exact absurd h2 (by show ¬ d + 0 ≤ 0; omega)
  | succ n ih =>
    intro p d h1 h2
    have e : zdf f p (n + 1) = zdl (f p) + zdf f (p + 1) n := rfl
    show (if f p = 40 then zclo f (p + 1) n (d + 1) else if f p = 41 then (if d - 1 = 0 then (p : Int) else zclo f (p + 1) n (d - 1)) else zclo f (p + 1) n d) ≠ -1
    unfold zdl at e
    by_cases c1 : f p = 40
    · rw [if_pos c1] at e ⊢
      exact ih _ _ (by omega) (by omega)
    · rw [if_neg c1] at e ⊢
      by_cases c2 : f p = 41
      · rw [if_pos c2] at e ⊢
        by_cases c3 : d - 1 = 0
        · rw [if_pos c3]; omega
        · rw [if_neg c3]; exact ih _ _ (by omega) (by omega)
      · rw [if_neg c2] at e ⊢
        exact ih _ _ (by omega) (by omega)
theorem putf_in {f : Nat → Int} {T : List Int} {p : Nat} (h : p < T.length) : putf f T p = T[p] := by
  unfold putf
  rw [List.getElem?_eq_getElem h]
  rfl
theorem zdf_drop (g : Nat → Int) (T : List Int) : ∀ (n p : Nat), p + n = T.length → zdf (putf g T) p n = zdep (T.drop p) := by
  intro n
  induction n with
  | zero => intro p h; rw [List.drop_eq_nil_of_le (by omega)]; rfl
  | succ n ih =>
    intro p h
    have hp : p < T.length := by omega
    rw [List.drop_eq_getElem_cons hp]
    show zdl (putf g T p) + zdf (putf g T) (p + 1) n = zdl T[p] + zdep (T.drop (p + 1))
    rw [putf_in hp, ih (p + 1) (by omega)]
theorem outB_put {ρ : ZSt} {g : Nat → Int} {T : List Int} (h1 : ρ 22 = putf g T) (h2 : ρ 21 1 = T.length) (hd : Dy T) (hp : ∀ a, a ∈ T → 0 < a) : OutB ρ := by
  refine ⟨fun j hj => ?_, fun p hj h40 => ?_⟩
  · rw [h1, putf_in (by omega)]
    exact hp _ (List.getElem_mem _)
  · have hl : p < T.length := by omega
    rw [h1]
    rw [h1, putf_in hl] at h40
    apply zclo_ne
    · decide
    · rw [zdf_drop g T _ (p + 1) (by omega)]
      have e1 : zdep T = zdep (T.take (p + 1)) + zdep (T.drop (p + 1)) := by rw [← zdep_app, List.take_append_drop]
      have e2 : zdep (T.take (p + 1)) = zdep (T.take p) + 1 := by
        rw [List.take_succ_eq_append_getElem hl, zdep_app, h40]
        rfl
      have e3 := hd.2 p
      rw [hd.1] at e1
      omega
theorem xputs_put {f : Nat → Int} : ∀ (L dn : List Int) (ρ : ZSt), ρ 22 = putf f dn → ρ 21 1 = dn.length → dn.length + L.length ≤ 120 → xputs ρ L 22 = putf f (dn ++ L) ∧ xputs ρ L 21 1 = (dn ++ L).length ∧ (∀ c, c ≠ 21 ∧ c ≠ 22 → xputs ρ L c = ρ c) ∧ ∀ j, j ≠ 1 → xputs ρ L 21 j = ρ 21 j := by
  intro L
  induction L with
  | nil => intro dn ρ h1 h2 _; rw [List.append_nil]; exact ⟨h1, h2, fun _ _ => rfl, fun _ _ => rfl⟩
  | cons a L ih =>
    intro dn ρ h1 h2 h3
    have hl : (a :: L).length = L.length + 1 := rfl
    have e0 : xput ρ 21 a = zup (zup ρ 22 (ρ 21 1).toNat a) 21 1 (ρ 21 1 + 1) := by unfold xput; rw [if_neg (by omega)]
    have e1 : xput ρ 21 a 22 = putf f (dn ++ [a]) := by
      rw [e0, zup_row (by decide), h2, show ((dn.length : Nat) : Int).toNat = dn.length by omega]
      exact putf_st _ _ _ _ _ h1
    have e2 : xput ρ 21 a 21 1 = (dn ++ [a]).length := by rw [e0, zup_same, h2, List.length_append]; simp
    obtain ⟨i1, i2, i3, i4⟩ := ih (dn ++ [a]) (xput ρ 21 a) e1 e2 (by rw [List.length_append]; simp only [List.length_cons, List.length_nil]; omega)
    rw [List.append_assoc] at i1 i2
    refine ⟨i1, i2, fun c hc => ?_, fun j hj => ?_⟩
    · show xputs (xput ρ 21 a) L c = ρ c
      rw [i3 c hc, xput_row hc]
    · show xputs (xput ρ 21 a) L 21 j = ρ 21 j
      rw [i4 j hj, e0, zup_place hj, zup_row (by decide)]
