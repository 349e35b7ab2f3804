/-! ===== the class's cells (of τ) against the reference's cells (of σ) ===== -/
/-- the operators are well formed -/
def WO (τ : ZSt) : Prop := (0 ≤ τ 1 5 ∧ τ 1 5 ≤ 16) ∧ (∀ i, τ 2 i = 0 ∨ xcan (τ 2 i)) ∧ (∀ i, 0 ≤ τ 3 i ∧ τ 3 i ≤ 2) ∧ (∀ i, 0 ≤ τ 4 i ∧ τ 4 i ≤ 9) ∧ (∀ i : Nat, (i : Int) < τ 1 5 → 1 ≤ τ 4 i ∧ xcan (τ 2 i)) ∧ (∀ i, 0 ≤ τ 5 i ∧ τ 5 i ≤ 2) ∧ (∀ i, τ 6 i = 0 ∨ τ 6 i = 1)
def SO (τ σ : ZSt) : Prop := σ 31 3 = τ 1 5 ∧ σ 32 = τ 2 ∧ σ 33 = τ 3 ∧ σ 34 = τ 4 ∧ σ 35 = τ 5 ∧ σ 36 = τ 6
theorem zfnd_no {sym kind : Nat → Int} {s b : Int} (h : ∀ i, sym i ≠ s) : ∀ n i, zfnd sym kind s b i n = -1 := by
  intro n
  induction n with
  | zero => intro i; rfl
  | succ n ih =>
    intro i
    unfold zfnd
    rw [if_neg (fun q => h i q.1)]
    exact ih (i + 1)
theorem SO.find {τ σ : ZSt} (h : SO τ σ) (a b : Int) : mfind σ a b = xfind τ a b := by
  obtain ⟨h1, h2, h3, -⟩ := h
  unfold mfind xfind
  rw [h1, h2, h3]
theorem WO.nofind {τ : ZSt} (h : WO τ) {a b : Int} (ha : a ≠ 0) (hc : ¬ xcan a) : xfind τ a b = -1 := by
  apply zfnd_no
  intro i hi
  rcases h.2.1 i with q | q
  · rw [q] at hi; exact ha hi.symm
  · rw [hi] at q; exact hc q
theorem xfind_b {τ : ZSt} (h : 0 ≤ τ 1 5) (a b : Int) : xfind τ a b = -1 ∨ (0 ≤ xfind τ a b ∧ xfind τ a b < τ 1 5) := by
  rcases zfnd_b (τ 2) (τ 3) a b (τ 1 5).toNat 0 with h2 | h2
  · left; exact h2
  · right; unfold xfind; omega
theorem zfnd_hit {sym kind : Nat → Int} {s b : Int} : ∀ n i, zfnd sym kind s b i n ≠ -1 → sym (zfnd sym kind s b i n).toNat = s ∧ (if kind (zfnd sym kind s b i n).toNat = 1 then (1 : Int) else 0) = b := by
  intro n
  induction n with
  | zero => intro i hi; exact absurd rfl hi
  | succ n ih =>
    intro i hi
    by_cases hc : sym i = s ∧ (if kind i = 1 then (1 : Int) else 0) = b
    · have e : zfnd sym kind s b i (n + 1) = (i : Int) := if_pos hc
      rw [e, Int.toNat_natCast]
      exact hc
    · have e : zfnd sym kind s b i (n + 1) = zfnd sym kind s b (i + 1) n := if_neg hc
      rw [e] at hi ⊢
      exact ih (i + 1) hi
theorem xfind_kind {τ : ZSt} {a b : Int} (h : xfind τ a b ≠ -1) : (if τ 3 (xfind τ a b).toNat = 1 then (1 : Int) else 0) = b := (zfnd_hit (τ 1 5).toNat 0 h).2
theorem xlev_in {τ : ZSt} {o : Int} (h : 0 ≤ o ∧ o < τ 1 5) : xlev τ o = τ 4 o.toNat := zget_in h
theorem xkind_in {τ : ZSt} {o : Int} (h : 0 ≤ o ∧ o < τ 1 5) : xkind τ o = τ 3 o.toNat := zget_in h
theorem xsym_in {τ : ZSt} {o : Int} (h : 0 ≤ o ∧ o < τ 1 5) : xsym τ o = τ 2 o.toNat := zget_in h
theorem xmin_in {τ : ZSt} (w : WO τ) {o : Int} (h : 0 ≤ o ∧ o < τ 1 5) : xmin τ o = if τ 3 o.toNat = 0 ∧ τ 5 (τ 4 o.toNat).toNat ≠ 1 then τ 4 o.toNat + 1 else τ 4 o.toNat := by
  have hl := (w.2.2.2.2.1 o.toNat (by omega)).1
  have hl2 := w.2.2.2.1 o.toNat
  unfold xmin
  rw [if_pos h]
  by_cases h1 : τ 3 o.toNat = 0 ∧ τ 5 (τ 4 o.toNat).toNat ≠ 1
  · rw [if_pos h1, if_pos ⟨h1.1, fun q => h1.2 q.2⟩]
  · rw [if_neg h1, if_neg (fun q => h1 ⟨q.1, fun q2 => q.2 ⟨⟨hl, hl2.2⟩, q2⟩⟩)]
theorem xmin_m1 {τ : ZSt} : xmin τ (-1) = 0 := if_neg (by omega)
theorem SO.right {τ σ : ZSt} (h : SO τ σ) (w : WO τ) {o : Int} (ho : 0 ≤ o ∧ o < τ 1 5) (hk : τ 3 o.toNat = 0) : mright σ o = xmin τ o := by
  obtain ⟨h1, h2, h3, h4, h5, h6⟩ := h
  rw [xmin_in w ho]
  unfold mright
  rw [h4, h5]
  by_cases hq : τ 5 (τ 4 o.toNat).toNat = 1
  · rw [if_pos hq, if_neg (fun q => q.2 hq)]
  · rw [if_neg hq, if_pos ⟨hk, hq⟩]
theorem xmin_pre {τ : ZSt} (w : WO τ) {o : Int} (ho : 0 ≤ o ∧ o < τ 1 5) (hk : τ 3 o.toNat ≠ 0) : xmin τ o = τ 4 o.toNat := by
  rw [xmin_in w ho, if_neg (fun q => hk q.1)]
theorem SO.clash {τ σ : ZSt} (h : SO τ σ) (w : WO τ) {o l : Int} (ho : 0 ≤ o ∧ o < τ 1 5) (hk : τ 3 o.toNat = 0) (hl : l = -1 ∨ (0 ≤ l ∧ l < τ 1 5)) : mclash σ o (zd l) ↔ xna τ o l := by
  obtain ⟨h1, h2, h3, h4, h5, h6⟩ := h
  have hlv := (w.2.2.2.2.1 o.toNat (by omega)).1
  have hl2 := w.2.2.2.1 o.toNat
  unfold mclash xna zd
  rw [h3, h4, h5, xkind_in ho, xlev_in ho]
  rcases hl with rfl | hl
  · rw [if_pos rfl]
    constructor
    · intro q; omega
    · intro q
      have : xkind τ (-1) = -1 := zget_out (by omega)
      omega
  · rw [if_neg (by omega), xkind_in hl, xlev_in hl]
    unfold xasc
    rw [if_pos ⟨hlv, hl2.2⟩]
    constructor
    · rintro ⟨-, q1, q2, q3⟩; exact ⟨hk, q1, q2, q3⟩
    · rintro ⟨-, q1, q2, q3⟩; exact ⟨hl.1, q1, q2, q3⟩
theorem SO.bar {τ σ : ZSt} (h : SO τ σ) {o l : Int} (ho : 0 ≤ o ∧ o < τ 1 5) (hl : l = -1 ∨ (0 ≤ l ∧ l < τ 1 5)) : mbar σ o (zd l) ↔ xfb τ o l := by
  obtain ⟨h1, h2, h3, h4, h5, h6⟩ := h
  unfold mbar xfb zd
  rw [h6]
  rcases hl with rfl | hl
  · rw [if_pos rfl]
    constructor
    · intro q; omega
    · intro q; omega
  · rw [if_neg (by omega), Int.mul_comm 16 o]
    constructor
    · intro q; exact ⟨ho, hl, q.2⟩
    · intro q; exact ⟨hl.1, q.2.2⟩
/-- the operands of a node, by their number -/
def yfst (b a : Int) : Int := if b = -1 then zd a else b
def ysnd (b a : Int) : Int := if b = -1 then -10 else zd a
/-- node i of the table k is well formed -/
def NdOK (τ : ZSt) (k i : Nat) : Prop :=
  ((τ (k + 1) i = -1 ∧ (97 ≤ τ (k + 2) i ∧ τ (k + 2) i ≤ 122) ∧ τ (k + 3) i = -1 ∧ τ (k + 4) i = -1) ∨
   ((0 ≤ τ (k + 1) i ∧ τ (k + 1) i < τ 1 5) ∧ τ (k + 2) i = -1 ∧
     ((τ 3 (τ (k + 1) i).toNat = 0 ∧ (0 ≤ τ (k + 3) i ∧ τ (k + 3) i < i) ∧ (0 ≤ τ (k + 4) i ∧ τ (k + 4) i < i)) ∨
      (τ 3 (τ (k + 1) i).toNat = 1 ∧ τ (k + 3) i = -1 ∧ (0 ≤ τ (k + 4) i ∧ τ (k + 4) i < i)) ∨
      (τ 3 (τ (k + 1) i).toNat = 2 ∧ (0 ≤ τ (k + 3) i ∧ τ (k + 3) i < i) ∧ τ (k + 4) i = -1)))) ∧
  τ (k + 5) i = 1 + xnsz τ k (τ (k + 3) i) + xnsz τ k (τ (k + 4) i)
/-- the reader's state is well formed -/
def FrOK (τ : ZSt) (i : Nat) : Prop := (τ 26 i = -1 ∧ τ 28 i = -1) ∨ ((0 ≤ τ 26 i ∧ τ 26 i < τ 1 5) ∧ ((τ 3 (τ 26 i).toNat = 1 ∧ τ 28 i = -1) ∨ (τ 3 (τ 26 i).toNat = 0 ∧ 0 ≤ τ 28 i ∧ τ 28 i < τ 13 5)))
def zlive (τ : ZSt) : Nat → Int
  | 0 => 0
  | n + 1 => zlive τ n + xnsz τ 13 (τ 28 n)
def RX (τ : ZSt) : Prop :=
  (0 ≤ τ 25 7 ∧ τ 25 7 ≤ τ 23 1 ∧ τ 23 1 ≤ 120) ∧ (0 ≤ τ 25 6 ∧ 0 ≤ τ 13 5 ∧ τ 13 5 + τ 25 6 ≤ τ 25 7) ∧
  (τ 25 8 = 1 ∨ (τ 25 8 = 0 ∧ 0 < τ 13 5 ∧ τ 25 9 = τ 13 5 - 1)) ∧ (τ 25 10 = 0 ∨ τ 25 10 = 1) ∧
  (∀ i : Nat, (i : Int) < τ 25 6 → FrOK τ i) ∧ (∀ i : Nat, (i : Int) < τ 13 5 → NdOK τ 13 i ∧ 1 ≤ τ 18 i ∧ τ 18 i ≤ τ 13 5) ∧
  zif (τ 25 8 = 0) (xnsz τ 13 (τ 25 9)) 0 + zlive τ (τ 25 6).toNat = τ 13 5
/-- the nodes read, the frames, the rest of the reading -/
def SRd (τ σ : ZSt) : Prop := σ 31 30 = τ 13 5 ∧ ∀ i : Nat, (i : Int) < τ 13 5 → σ 49 i = zd (τ 14 i) ∧ σ 50 i = zd (τ 15 i) ∧ σ 51 i = yfst (τ 16 i) (τ 17 i) ∧ σ 52 i = ysnd (τ 16 i) (τ 17 i)
def SFr (τ σ : ZSt) (i : Nat) : Prop := σ 53 (5 * i) = (if τ 26 i = -1 then 40 else τ 3 (τ 26 i).toNat) ∧ σ 53 (5 * i + 1) = zd (τ 26 i) ∧ σ 53 (5 * i + 2) = τ 27 i ∧ σ 53 (5 * i + 3) = zd (τ 28 i) ∧ σ 53 (5 * i + 4) = (if i = 0 then 0 else xmin τ (τ 26 (i - 1)))
def SQ (τ σ : ZSt) : Prop :=
  (σ 31 25 = τ 23 1 ∧ ∀ j : Nat, (j : Int) < τ 23 1 → σ 48 j = τ 24 j) ∧ σ 31 35 = τ 25 7 ∧ σ 31 39 = τ 25 8 ∧ (τ 25 8 = 0 → σ 31 37 = τ 25 9) ∧ σ 31 38 = τ 25 10 ∧ σ 31 32 = τ 25 6 ∧ σ 31 36 = xfmin τ ∧ SRd τ σ ∧ (∀ i : Nat, (i : Int) < τ 25 6 → SFr τ σ i)
theorem xtop_eq {τ : ZSt} (h : 0 ≤ τ 25 6 ∧ τ 25 6 ≤ 120) : xtop τ = τ 25 6 - 1 := by
  unfold xtop
  by_cases hc : 0 < τ 25 6 ∧ τ 25 6 ≤ 120
  · rw [zif_pos hc]
  · rw [zif_neg hc]; omega
