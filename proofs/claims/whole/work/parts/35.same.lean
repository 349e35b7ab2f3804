/-! ===== trees compared: with a row of pairs, and by the class's recursion ===== -/
def WN (τ : ZSt) (q : Nat) : Prop := (0 ≤ τ q 5 ∧ τ q 5 ≤ 120) ∧ ∀ i : Nat, (i : Int) < τ q 5 → NdOK τ q i ∧ 1 ≤ τ (q + 5) i ∧ τ (q + 5) i ≤ 120
def SNd (τ σ : ZSt) (q o : Nat) : Prop := ∀ i : Nat, (i : Int) < τ q 5 → σ o i = zd (τ (q + 1) i) ∧ σ (o + 1) i = zd (τ (q + 2) i) ∧ σ (o + 2) i = yfst (τ (q + 3) i) (τ (q + 4) i) ∧ σ (o + 3) i = ysnd (τ (q + 3) i) (τ (q + 4) i)
theorem xn_in {τ : ZSt} {q : Nat} {a : Int} (h : 0 ≤ a ∧ a < τ q 5) : xnop τ q a = τ (q + 1) a.toNat ∧ xnlet τ q a = τ (q + 2) a.toNat ∧ xnbef τ q a = τ (q + 3) a.toNat ∧ xnaft τ q a = τ (q + 4) a.toNat ∧ xnsz τ q a = τ (q + 5) a.toNat := ⟨zget_in h, zget_in h, zget_in h, zget_in h, zget_in h⟩
theorem WN.szb {τ : ZSt} {q : Nat} (w : WN τ q) (a : Int) : 0 ≤ xnsz τ q a := by
  by_cases h : 0 ≤ a ∧ a < τ q 5
  · rw [(xn_in h).2.2.2.2]
    have := (w.2 a.toNat (by omega)).2
    omega
  · rw [show xnsz τ q a = 0 from zget_out h]
    omega
theorem xsame_fuel {τ : ZSt} {q : Nat} (w : WN τ 7) : ∀ (s : Nat) (a : Int), (a = -1 ∨ ((0 ≤ a ∧ a < τ 7 5) ∧ xnsz τ 7 a ≤ s)) → ∀ (b : Int) (n : Nat), s ≤ n → (xsame τ 7 q n a b ↔ xsame τ 7 q s a b) := by
  intro s
  induction s with
  | zero =>
    intro a ha b n hn
    rcases ha with ha | ⟨ha, hs⟩
    · rw [xsame_end (Or.inl ha), xsame_end (Or.inl ha)]
    · have := (w.2 a.toNat (by omega)).2
      rw [(xn_in ha).2.2.2.2] at hs
      simp only [Nat.reduceAdd] at this hs
      omega
  | succ s ih =>
    intro a ha b n hn
    rcases ha with ha | ⟨ha, hs⟩
    · rw [xsame_end (Or.inl ha), xsame_end (Or.inl ha)]
    · by_cases hb : b = -1
      · rw [xsame_end (Or.inr hb), xsame_end (Or.inr hb)]
      · rw [xsame_go ⟨by omega, hb⟩, xsame_go ⟨by omega, hb⟩]
        obtain ⟨e1, e2, e3, e4, e5⟩ := xn_in ha
        have hnd := (w.2 a.toNat (by omega)).1
        have hsz := hnd.2
        have s1 := w.szb (τ (7 + 3) a.toNat)
        have s2 := w.szb (τ (7 + 4) a.toNat)
        rw [e5, hsz] at hs
        have i3 := ih (τ (7 + 3) a.toNat) (by
          by_cases g : τ (7 + 3) a.toNat = -1
          · left; exact g
          · right
            have := hnd.1
            exact ⟨by omega, by omega⟩) (xnbef τ q b) (n - 1) (by omega)
        have i4 := ih (τ (7 + 4) a.toNat) (by
          by_cases g : τ (7 + 4) a.toNat = -1
          · left; exact g
          · right
            have := hnd.1
            exact ⟨by omega, by omega⟩) (xnaft τ q b) (n - 1) (by omega)
        rw [e3, e4, i3, i4]
        show (0 < n ∧ _) ↔ (0 < s + 1 ∧ _)
        rw [show s + 1 - 1 = s from rfl]
        constructor
        · rintro ⟨-, g⟩; exact ⟨by omega, g⟩
        · rintro ⟨-, g⟩; exact ⟨by omega, g⟩
/-- the same tree, a node of the nodes against one of the table q -/
def SM (τ : ZSt) (q : Nat) (a b : Int) : Prop := xsame τ 7 q 40 a b
def W7 (τ : ZSt) : Prop := WN τ 7 ∧ ∀ i : Nat, (i : Int) < τ 7 5 → τ 12 i ≤ 40
theorem zd_inj {a b : Int} (ha : -1 ≤ a) (hb : -1 ≤ b) : zd a = zd b ↔ a = b := by
  unfold zd
  split <;> split <;> omega
/-- what a pair's comparing comes to -/
theorem pop_cases {τ σ : ZSt} {q o : Nat} (w : W7 τ) (wq : WN τ q) (s7 : SNd τ σ 7 37) (sq : SNd τ σ q o) {a b : Int} (ha : 0 ≤ a ∧ a < τ 7 5) (hb : 0 ≤ b ∧ b < τ q 5) :
    ((σ 37 a.toNat ≠ σ o b.toNat ∨ σ 38 a.toNat ≠ σ (o + 1) b.toNat) → ¬ SM τ q a b) ∧
    ((σ 37 a.toNat = σ o b.toNat ∧ σ 38 a.toNat = σ (o + 1) b.toNat) →
      (σ 39 a.toNat < 0 ∧ σ 40 a.toNat < 0 ∧ SM τ q a b) ∨
      (σ 40 a.toNat < 0 ∧ (0 ≤ σ 39 a.toNat ∧ σ 39 a.toNat < τ 7 5) ∧ (0 ≤ σ (o + 2) b.toNat ∧ σ (o + 2) b.toNat < τ q 5) ∧ (SM τ q a b ↔ SM τ q (σ 39 a.toNat) (σ (o + 2) b.toNat)) ∧ τ 12 a.toNat = 1 + τ 12 (σ 39 a.toNat).toNat) ∨
      ((0 ≤ σ 39 a.toNat ∧ σ 39 a.toNat < τ 7 5) ∧ (0 ≤ σ 40 a.toNat ∧ σ 40 a.toNat < τ 7 5) ∧ (0 ≤ σ (o + 2) b.toNat ∧ σ (o + 2) b.toNat < τ q 5) ∧ (0 ≤ σ (o + 3) b.toNat ∧ σ (o + 3) b.toNat < τ q 5) ∧ (SM τ q a b ↔ (SM τ q (σ 39 a.toNat) (σ (o + 2) b.toNat) ∧ SM τ q (σ 40 a.toNat) (σ (o + 3) b.toNat))) ∧ τ 12 a.toNat = 1 + τ 12 (σ 39 a.toNat).toNat + τ 12 (σ 40 a.toNat).toNat)) := by
  obtain ⟨n1, n2⟩ := w.1.2 a.toNat (by omega)
  obtain ⟨m1, m2⟩ := wq.2 b.toNat (by omega)
  obtain ⟨x1, x2, x3, x4⟩ := s7 a.toNat (by omega)
  obtain ⟨y1, y2, y3, y4⟩ := sq b.toNat (by omega)
  obtain ⟨e1, e2, e3, e4, e5⟩ := xn_in ha
  obtain ⟨d1, d2, d3, d4, d5⟩ := xn_in hb
  have h40 := w.2 a.toNat (by omega)
  have hgo : SM τ q a b = (0 < 40 ∧ (xnop τ 7 a = xnop τ q b ∧ xnlet τ 7 a = xnlet τ q b) ∧ xsame τ 7 q 39 (xnbef τ 7 a) (xnbef τ q b) ∧ xsame τ 7 q 39 (xnaft τ 7 a) (xnaft τ q b)) := xsame_go ⟨by omega, by omega⟩
  rw [e1, e2, e3, e4, d1, d2, d3, d4] at hgo
  have hsz := n1.2
  have s1 := w.1.szb (τ (7 + 3) a.toNat)
  have s2 := w.1.szb (τ (7 + 4) a.toNat)
  have fuel : ∀ c d : Int, (c = -1 ∨ ((0 ≤ c ∧ c < τ 7 5) ∧ xnsz τ 7 c ≤ 39)) → (xsame τ 7 q 39 c d ↔ SM τ q c d) := by
    intro c d hc
    exact (xsame_fuel w.1 39 c (by rcases hc with g | g; · left; exact g
                                   · right; exact ⟨g.1, by omega⟩) d 40 (by omega)).symm
  have k1 := n1.1
  have k2 := m1.1
  have ho : (σ 37 a.toNat = σ o b.toNat) ↔ τ (7 + 1) a.toNat = τ (q + 1) b.toNat := by
    rw [y1, show σ 37 a.toNat = zd (τ (7 + 1) a.toNat) from x1]
    exact zd_inj (by omega) (by omega)
  have hl : (σ 38 a.toNat = σ (o + 1) b.toNat) ↔ τ (7 + 2) a.toNat = τ (q + 2) b.toNat := by
    rw [y2, show σ 38 a.toNat = zd (τ (7 + 2) a.toNat) from x2]
    exact zd_inj (by omega) (by omega)
  have x3' : σ 39 a.toNat = yfst (τ (7 + 3) a.toNat) (τ (7 + 4) a.toNat) := x3
  have x4' : σ 40 a.toNat = ysnd (τ (7 + 3) a.toNat) (τ (7 + 4) a.toNat) := x4
  have m1x : xsame τ 7 q 39 (-1) (-1) := by rw [xsame_end (Or.inl rfl)]
  constructor
  · intro g hh
    rw [hgo] at hh
    rcases g with g | g
    · exact g (ho.mpr hh.2.1.1)
    · exact g (hl.mpr hh.2.1.2)
  · rintro ⟨g1, g2⟩
    have go := ho.mp g1
    have gl := hl.mp g2
    rw [x3', x4', y3, y4]
    have hsza : τ 12 a.toNat = 1 + xnsz τ 7 (τ (7 + 3) a.toNat) + xnsz τ 7 (τ (7 + 4) a.toNat) := hsz
    have z1 : xnsz τ 7 (-1) = 0 := xnsz_m1 w.1.1.1
    rcases k1 with ⟨p1, p2, p3, p4⟩ | ⟨p1, p2, p3⟩
    · left
      have q3 : τ (q + 3) b.toNat = -1 ∧ τ (q + 4) b.toNat = -1 := by omega
      rw [p3, p4]
      refine ⟨by decide, by decide, ?_⟩
      rw [hgo, p3, p4, q3.1, q3.2]
      exact ⟨by decide, ⟨go, gl⟩, m1x, m1x⟩
    · right
      rw [← go] at k2
      rcases p3 with ⟨j1, j2, j3⟩ | ⟨j1, j2, j3⟩ | ⟨j1, j2, j3⟩
      · right
        have k3 : (0 ≤ τ (q + 3) b.toNat ∧ τ (q + 3) b.toNat < b.toNat) ∧ (0 ≤ τ (q + 4) b.toNat ∧ τ (q + 4) b.toNat < b.toNat) := by omega
        have f1 : yfst (τ (7 + 3) a.toNat) (τ (7 + 4) a.toNat) = τ (7 + 3) a.toNat := if_neg (by omega)
        have f2 : ysnd (τ (7 + 3) a.toNat) (τ (7 + 4) a.toNat) = τ (7 + 4) a.toNat := by unfold ysnd zd; rw [if_neg (by omega), if_neg (by omega)]
        have f3 : yfst (τ (q + 3) b.toNat) (τ (q + 4) b.toNat) = τ (q + 3) b.toNat := if_neg (by omega)
        have f4 : ysnd (τ (q + 3) b.toNat) (τ (q + 4) b.toNat) = τ (q + 4) b.toNat := by unfold ysnd zd; rw [if_neg (by omega), if_neg (by omega)]
        have v1 : 0 ≤ τ (7 + 3) a.toNat ∧ τ (7 + 3) a.toNat < τ 7 5 := by omega
        have v2 : 0 ≤ τ (7 + 4) a.toNat ∧ τ (7 + 4) a.toNat < τ 7 5 := by omega
        rw [f1, f2, f3, f4]
        refine ⟨v1, v2, by omega, by omega, ?_, ?_⟩
        · rw [hgo, fuel _ _ (Or.inr ⟨v1, by omega⟩), fuel _ _ (Or.inr ⟨v2, by omega⟩)]
          constructor
          · rintro ⟨-, -, g⟩; exact g
          · intro g; exact ⟨by decide, ⟨go, gl⟩, g⟩
        · rw [hsza, (xn_in v1).2.2.2.2, (xn_in v2).2.2.2.2]
      · left
        have k3 : τ (q + 3) b.toNat = -1 ∧ (0 ≤ τ (q + 4) b.toNat ∧ τ (q + 4) b.toNat < b.toNat) := by omega
        have f1 : yfst (τ (7 + 3) a.toNat) (τ (7 + 4) a.toNat) = τ (7 + 4) a.toNat := by unfold yfst zd; rw [if_pos j2, if_neg (by omega)]
        have f2 : ysnd (τ (7 + 3) a.toNat) (τ (7 + 4) a.toNat) = -10 := if_pos j2
        have f3 : yfst (τ (q + 3) b.toNat) (τ (q + 4) b.toNat) = τ (q + 4) b.toNat := by unfold yfst zd; rw [if_pos k3.1, if_neg (by omega)]
        have v2 : 0 ≤ τ (7 + 4) a.toNat ∧ τ (7 + 4) a.toNat < τ 7 5 := by omega
        rw [f1, f2, f3]
        refine ⟨by decide, v2, by omega, ?_, ?_⟩
        · rw [j2] at hsza
          rw [hgo, j2, k3.1, fuel (τ (7 + 4) a.toNat) _ (Or.inr ⟨v2, by omega⟩)]
          constructor
          · rintro ⟨-, -, -, g⟩; exact g
          · intro g; exact ⟨by decide, ⟨go, gl⟩, m1x, g⟩
        · rw [hsza, j2, z1, (xn_in v2).2.2.2.2]
          show 1 + 0 + τ 12 _ = 1 + τ 12 _
          omega
      · left
        have k3 : (0 ≤ τ (q + 3) b.toNat ∧ τ (q + 3) b.toNat < b.toNat) ∧ τ (q + 4) b.toNat = -1 := by omega
        have f1 : yfst (τ (7 + 3) a.toNat) (τ (7 + 4) a.toNat) = τ (7 + 3) a.toNat := if_neg (by omega)
        have f2 : ysnd (τ (7 + 3) a.toNat) (τ (7 + 4) a.toNat) = -10 := by unfold ysnd zd; rw [if_neg (by omega), if_pos j3]
        have f3 : yfst (τ (q + 3) b.toNat) (τ (q + 4) b.toNat) = τ (q + 3) b.toNat := if_neg (by omega)
        have v1 : 0 ≤ τ (7 + 3) a.toNat ∧ τ (7 + 3) a.toNat < τ 7 5 := by omega
        rw [f1, f2, f3]
        refine ⟨by decide, v1, by omega, ?_, ?_⟩
        · rw [hgo, j3, k3.2, fuel (τ (7 + 3) a.toNat) _ (Or.inr ⟨v1, by omega⟩)]
          constructor
          · rintro ⟨-, -, g, -⟩; exact g
          · intro g; exact ⟨by decide, ⟨go, gl⟩, g, m1x⟩
        · rw [hsza, j3, z1, (xn_in v1).2.2.2.2]
          show 1 + τ 12 _ + 0 = 1 + τ 12 _
          omega
