/-- the row of pairs that wait -/
def zwt (τ : ZSt) (F : Nat → Int) : Nat → Int
  | 0 => 0
  | n + 1 => zwt τ F n + τ 12 (F n).toNat
def fup (f : Nat → Int) (k : Nat) (v : Int) : Nat → Int := fun j => if j = k then v else f j
theorem zup_fup (σ : ZSt) (k j : Nat) (v : Int) : zup σ k j v k = fup (σ k) j v := by
  funext j'
  unfold zup fup
  by_cases h : j' = j
  · simp [h]
  · simp [h]
theorem fup_same (f : Nat → Int) (k : Nat) (v : Int) : fup f k v k = v := if_pos rfl
theorem fup_ne {f : Nat → Int} {k j : Nat} {v : Int} (h : j ≠ k) : fup f k v j = f j := if_neg h
theorem zwt_congr {τ : ZSt} {F G : Nat → Int} : ∀ n : Nat, (∀ i, i < n → F i = G i) → zwt τ F n = zwt τ G n := by
  intro n
  induction n with
  | zero => intro _; rfl
  | succ n ih =>
    intro h
    show zwt τ F n + _ = zwt τ G n + _
    rw [ih (fun i hi => h i (by omega)), h n (by omega)]
def EJ (τ : ZSt) (q : Nat) (F G : Nat → Int) (n : Int) (R : Prop) : Prop := 0 ≤ n ∧ (∀ i : Nat, (i : Int) < n → (0 ≤ F i ∧ F i < τ 7 5) ∧ (0 ≤ G i ∧ G i < τ q 5)) ∧ zwt τ F n.toNat ≤ 40 ∧ (R ↔ ∀ i : Nat, (i : Int) < n → SM τ q (F i) (G i))
theorem zwt_ge {τ : ZSt} (w : W7 τ) {F : Nat → Int} : ∀ n : Nat, (∀ i, i < n → 0 ≤ F i ∧ F i < τ 7 5) → (n : Int) ≤ zwt τ F n := by
  intro n
  induction n with
  | zero => intro _; exact Int.le_refl 0
  | succ n ih =>
    intro h
    have h1 := ih (fun i hi => h i (by omega))
    have h2 := h n (by omega)
    have h3 := (w.1.2 (F n).toNat (by omega)).2.1
    show _ ≤ zwt τ F n + τ 12 (F n).toNat
    have h4 : 1 ≤ τ 12 (F n).toNat := h3
    omega
theorem EJ.small {τ : ZSt} {q : Nat} {F G : Nat → Int} {n : Int} {R : Prop} (w : W7 τ) (h : EJ τ q F G n R) : n ≤ 40 := by
  have := zwt_ge w (F := F) n.toNat (fun i hi => (h.2.1 i (by have := h.1; omega)).1)
  have h1 := h.1
  have h2 := h.2.2.1
  omega
theorem EJ.top {τ : ZSt} {q : Nat} {F G : Nat → Int} {n : Int} {R : Prop} (h : EJ τ q F G n R) (hn : 0 < n) : (0 ≤ F (n - 1).toNat ∧ F (n - 1).toNat < τ 7 5) ∧ (0 ≤ G (n - 1).toNat ∧ G (n - 1).toNat < τ q 5) := h.2.1 _ (by omega)
theorem zwt_top {τ : ZSt} {F : Nat → Int} {n : Int} (hn : 0 < n) : zwt τ F n.toNat = zwt τ F (n - 1).toNat + τ 12 (F (n - 1).toNat).toNat := by
  rw [show n.toNat = (n - 1).toNat + 1 by omega]
  rfl
theorem EJ.no {τ : ZSt} {q : Nat} {F G : Nat → Int} {n : Int} {R : Prop} (h : EJ τ q F G n R) (hn : 0 < n) (hs : ¬ SM τ q (F (n - 1).toNat) (G (n - 1).toNat)) : ¬ R := fun r => hs (h.2.2.2.mp r _ (by omega))
theorem EJ.done {τ : ZSt} {q : Nat} {F G : Nat → Int} {n : Int} {R : Prop} (h : EJ τ q F G n R) (hn : n ≤ 0) : R := h.2.2.2.mpr (fun i hi => by omega)
theorem EJ.leaf {τ : ZSt} {q : Nat} {F G : Nat → Int} {n : Int} {R : Prop} (w : W7 τ) (h : EJ τ q F G n R) (hn : 0 < n) (hs : SM τ q (F (n - 1).toNat) (G (n - 1).toNat)) : EJ τ q F G (n - 1) R ∧ zwt τ F (n - 1).toNat < zwt τ F n.toNat := by
  have ht := h.top hn
  have hw := (w.1.2 (F (n - 1).toNat).toNat (by omega)).2.1
  have hw2 : 1 ≤ τ 12 (F (n - 1).toNat).toNat := hw
  have e := zwt_top (τ := τ) (F := F) hn
  obtain ⟨h1, h2, h3, h4⟩ := h
  refine ⟨⟨by omega, fun i hi => h2 i (by omega), by omega, ?_⟩, by omega⟩
  rw [h4]
  constructor
  · intro g i hi; exact g i (by omega)
  · intro g i hi
    by_cases hin : i = (n - 1).toNat
    · rw [hin]; exact hs
    · exact g i (by omega)
theorem EJ.one {τ : ZSt} {q : Nat} {F G : Nat → Int} {n c d : Int} {R : Prop} (h : EJ τ q F G n R) (hn : 0 < n) (hc : 0 ≤ c ∧ c < τ 7 5) (hd : 0 ≤ d ∧ d < τ q 5) (hs : SM τ q (F (n - 1).toNat) (G (n - 1).toNat) ↔ SM τ q c d) (hz : τ 12 (F (n - 1).toNat).toNat = 1 + τ 12 c.toNat) :
    EJ τ q (fup F (n - 1).toNat c) (fup G (n - 1).toNat d) n R ∧ zwt τ (fup F (n - 1).toNat c) n.toNat < zwt τ F n.toNat := by
  have e := zwt_top (τ := τ) (F := F) hn
  have e2 := zwt_top (τ := τ) (F := fup F (n - 1).toNat c) hn
  rw [fup_same, zwt_congr (G := F) (n - 1).toNat (fun i hi => fup_ne (by omega))] at e2
  obtain ⟨h1, h2, h3, h4⟩ := h
  refine ⟨⟨h1, fun i hi => ?_, by omega, ?_⟩, by omega⟩
  · by_cases hin : i = (n - 1).toNat
    · rw [hin, fup_same, fup_same]; exact ⟨hc, hd⟩
    · rw [fup_ne hin, fup_ne hin]; exact h2 i hi
  · rw [h4]
    constructor
    · intro g i hi
      by_cases hin : i = (n - 1).toNat
      · rw [hin, fup_same, fup_same]; exact hs.mp (g _ (by omega))
      · rw [fup_ne hin, fup_ne hin]; exact g i hi
    · intro g i hi
      have gi := g i hi
      by_cases hin : i = (n - 1).toNat
      · rw [hin, fup_same, fup_same] at gi; rw [hin]; exact hs.mpr gi
      · rw [fup_ne hin, fup_ne hin] at gi; exact gi
theorem EJ.two {τ : ZSt} {q : Nat} {F G : Nat → Int} {n c d c2 d2 : Int} {R : Prop} (h : EJ τ q F G n R) (hn : 0 < n) (hc : 0 ≤ c ∧ c < τ 7 5) (hd : 0 ≤ d ∧ d < τ q 5) (hc2 : 0 ≤ c2 ∧ c2 < τ 7 5) (hd2 : 0 ≤ d2 ∧ d2 < τ q 5) (hs : SM τ q (F (n - 1).toNat) (G (n - 1).toNat) ↔ (SM τ q c d ∧ SM τ q c2 d2)) (hz : τ 12 (F (n - 1).toNat).toNat = 1 + τ 12 c.toNat + τ 12 c2.toNat) :
    EJ τ q (fup (fup F (n - 1).toNat c) n.toNat c2) (fup (fup G (n - 1).toNat d) n.toNat d2) (n + 1) R ∧ zwt τ (fup (fup F (n - 1).toNat c) n.toNat c2) (n + 1).toNat < zwt τ F n.toNat := by
  have e := zwt_top (τ := τ) (F := F) hn
  have e2 := zwt_top (τ := τ) (F := fup F (n - 1).toNat c) hn
  rw [fup_same, zwt_congr (G := F) (n - 1).toNat (fun i hi => fup_ne (by omega))] at e2
  have e3 := zwt_top (τ := τ) (F := fup (fup F (n - 1).toNat c) n.toNat c2) (n := n + 1) (by omega)
  rw [show n + 1 - 1 = n by omega, fup_same, zwt_congr (G := fup F (n - 1).toNat c) n.toNat (fun i hi => fup_ne (by omega))] at e3
  obtain ⟨h1, h2, h3, h4⟩ := h
  refine ⟨⟨by omega, fun i hi => ?_, by omega, ?_⟩, by omega⟩
  · by_cases hi2 : i = n.toNat
    · rw [hi2, fup_same, fup_same]; exact ⟨hc2, hd2⟩
    · rw [fup_ne hi2, fup_ne hi2]
      by_cases hin : i = (n - 1).toNat
      · rw [hin, fup_same, fup_same]; exact ⟨hc, hd⟩
      · rw [fup_ne hin, fup_ne hin]; exact h2 i (by omega)
  · rw [h4]
    constructor
    · intro g i hi
      have gt := hs.mp (g (n - 1).toNat (by omega))
      by_cases hi2 : i = n.toNat
      · rw [hi2, fup_same, fup_same]; exact gt.2
      · rw [fup_ne hi2, fup_ne hi2]
        by_cases hin : i = (n - 1).toNat
        · rw [hin, fup_same, fup_same]; exact gt.1
        · rw [fup_ne hin, fup_ne hin]; exact g i (by omega)
    · intro g i hi
      by_cases hin : i = (n - 1).toNat
      · have g1 := g (n - 1).toNat (by omega)
        have g2 := g n.toNat (by omega)
        have n1 : (n - 1).toNat ≠ n.toNat := by omega
        rw [fup_ne n1, fup_ne n1, fup_same, fup_same] at g1
        rw [fup_same, fup_same] at g2
        rw [hin]
        exact hs.mpr ⟨g1, g2⟩
      · have gi := g i (by omega)
        have n2 : i ≠ n.toNat := by omega
        rw [fup_ne n2, fup_ne n2, fup_ne hin, fup_ne hin] at gi
        exact gi
/-- the rows that the comparing writes -/
def Only45 (σ ρ : ZSt) : Prop := ∀ c, c ≠ 44 ∧ c ≠ 45 → ρ c = σ c
theorem Only45.up {σ ρ : ZSt} (h : Only45 σ ρ) {k j : Nat} {v : Int} (hk : k = 44 ∨ k = 45) : Only45 σ (zup ρ k j v) := fun c hc => (zup_row (by omega)).trans (h c hc)
theorem Only45.rf {σ : ZSt} : Only45 σ σ := fun _ _ => rfl
theorem IM.only {σ ρ : ZSt} (h : IM σ) (o : Only45 σ ρ) : IM ρ := h.of (by rw [o 31 (by decide)]) (by rw [o 31 (by decide)]) (by rw [o 31 (by decide)]) (by rw [o 31 (by decide)]) (by rw [o 31 (by decide)]) (fun i => by rw [o 34 (by decide)])
/-- the start: one pair -/
theorem EJ.start {τ : ZSt} {q : Nat} (w : W7 τ) {a b : Int} (ha : 0 ≤ a ∧ a < τ 7 5) (hb : 0 ≤ b ∧ b < τ q 5) {F G : Nat → Int} (hF : F 0 = a) (hG : G 0 = b) : EJ τ q F G 1 (SM τ q a b) := by
  refine ⟨by decide, fun i hi => ?_, ?_, ?_⟩
  · have : i = 0 := by omega
    rw [this, hF, hG]
    exact ⟨ha, hb⟩
  · show 0 + τ 12 (F 0).toNat ≤ 40
    rw [hF]
    have := w.2 a.toNat (by omega)
    omega
  · constructor
    · intro g i hi
      have : i = 0 := by omega
      rw [this, hF, hG]
      exact g
    · intro g
      have := g 0 (by decide)
      rw [hF, hG] at this
      exact this
/-- fewer of the locals are known -/
def zsub : List (Option Value) → List (Option Value) → Prop
  | [], _ => True
  | _ :: _, [] => False
  | none :: r, _ :: s => zsub r s
  | some v :: r, y :: s => y = some v ∧ zsub r s
theorem zsub_get : ∀ {l m : List (Option Value)} {i : Nat} {v : Value}, zsub l m → l[i]? = some (some v) → m[i]? = some (some v) := by
  intro l
  induction l with
  | nil => intro m i v _ h; simp at h
  | cons a r ih =>
    intro m i v hs h
    cases m with
    | nil => cases a <;> exact absurd hs (by simp [zsub])
    | cons y s =>
      cases a with
      | none =>
        cases i with
        | zero => simp at h
        | succ i => simpa using ih (m := s) (i := i) hs (by simpa using h)
      | some v0 =>
        obtain ⟨h1, h2⟩ := hs
        cases i with
        | zero => simp at h; subst h; simp [h1]
        | succ i => simpa using ih (m := s) (i := i) h2 (by simpa using h)
theorem z_weak {E : ZE} {Γ : ZT} {pc : Nat} {lv lv' : List (Option Value)} {st : List Value} {σ : ZSt} (hs : zsub lv' lv) (kk : ZG E Γ pc lv' st σ) : ZG E Γ pc lv st σ := by
  obtain ⟨p, l, e, R, s, m, args, below, meth, c, A, Q, nL, cells, slots⟩ := Γ
  intro H locs ls hP hS hl
  refine kk H locs ls hP hS ⟨hl.1, hl.2.1, fun q hq => ?_⟩
  obtain ⟨j, h1, h2, h3⟩ := zlp_mem.mp hq
  exact hl.2.2 q (zlp_mem.mpr ⟨j, h1, zsub_get hs h2, h3⟩)
