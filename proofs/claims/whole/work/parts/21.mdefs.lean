/-! ===== the reference, as functions of the state ===== -/
def IM (σ : ZSt) : Prop := (0 ≤ σ 31 3 ∧ σ 31 3 ≤ 16) ∧ (0 ≤ σ 31 11 ∧ σ 31 11 ≤ 100) ∧ (0 ≤ σ 31 13 ∧ σ 31 13 ≤ 120) ∧ (0 ≤ σ 31 16 ∧ σ 31 16 ≤ 120) ∧ (0 ≤ σ 31 25 ∧ σ 31 25 ≤ 120) ∧ ∀ i, 0 ≤ σ 34 i ∧ σ 34 i ≤ 9
theorem IM.of {σ τ : ZSt} (h : IM σ) (h1 : τ 31 3 = σ 31 3) (h2 : τ 31 11 = σ 31 11) (h3 : τ 31 13 = σ 31 13) (h4 : τ 31 16 = σ 31 16) (h5 : τ 31 25 = σ 31 25) (h6 : ∀ i, τ 34 i = σ 34 i) : IM τ := by
  unfold IM at h ⊢
  rw [h1, h2, h3, h4, h5]
  simp only [h6]
  exact h
theorem IM.upF {σ : ZSt} (h : IM σ) {j : Nat} {v : Int} (hf : (j == 3 || j == 11 || j == 13 || j == 16 || j == 25) = false) : IM (zup σ 31 j v) := by
  simp only [Bool.or_eq_false_iff, beq_eq_false_iff_ne] at hf
  refine h.of ?_ ?_ ?_ ?_ ?_ (fun i => ?_) <;> (unfold zup; rw [if_neg (by omega)])
theorem IM.upA {σ : ZSt} (h : IM σ) {k j : Nat} {v : Int} (hf : (k == 31 || k == 34) = false) : IM (zup σ k j v) := by
  simp only [Bool.or_eq_false_iff, beq_eq_false_iff_ne] at hf
  refine h.of ?_ ?_ ?_ ?_ ?_ (fun i => ?_) <;> (unfold zup; rw [if_neg (by omega)])
theorem IM.up3 {σ : ZSt} (h : IM σ) {v : Int} (hv : 0 ≤ v ∧ v ≤ 16) : IM (zup σ 31 3 v) := by
  obtain ⟨h1, h2, h3, h4, h5, h6⟩ := h
  exact ⟨hv, h2, h3, h4, h5, h6⟩
theorem IM.up11 {σ : ZSt} (h : IM σ) {v : Int} (hv : 0 ≤ v ∧ v ≤ 100) : IM (zup σ 31 11 v) := by
  obtain ⟨h1, h2, h3, h4, h5, h6⟩ := h
  exact ⟨h1, hv, h3, h4, h5, h6⟩
theorem IM.up13 {σ : ZSt} (h : IM σ) {v : Int} (hv : 0 ≤ v ∧ v ≤ 120) : IM (zup σ 31 13 v) := by
  obtain ⟨h1, h2, h3, h4, h5, h6⟩ := h
  exact ⟨h1, h2, hv, h4, h5, h6⟩
theorem IM.up16 {σ : ZSt} (h : IM σ) {v : Int} (hv : 0 ≤ v ∧ v ≤ 120) : IM (zup σ 31 16 v) := by
  obtain ⟨h1, h2, h3, h4, h5, h6⟩ := h
  exact ⟨h1, h2, h3, hv, h5, h6⟩
theorem IM.up25 {σ : ZSt} (h : IM σ) {v : Int} (hv : 0 ≤ v ∧ v ≤ 120) : IM (zup σ 31 25 v) := by
  obtain ⟨h1, h2, h3, h4, h5, h6⟩ := h
  exact ⟨h1, h2, h3, h4, hv, h6⟩
theorem IM.up34 {σ : ZSt} (h : IM σ) {j : Nat} {v : Int} (hv : 0 ≤ v ∧ v ≤ 9) : IM (zup σ 34 j v) := by
  obtain ⟨h1, h2, h3, h4, h5, h6⟩ := h
  refine ⟨h1, h2, h3, h4, h5, fun i => ?_⟩
  by_cases hi : i = j
  · rw [hi, zup_same]; exact hv
  · rw [zup_place hi]; exact h6 i
theorem IM.lev {σ : ZSt} (h : IM σ) (i : Nat) : 0 ≤ σ 34 i ∧ σ 34 i ≤ 9 := h.2.2.2.2.2 i
theorem IM.ops {σ : ZSt} (h : IM σ) : 0 ≤ σ 31 3 ∧ σ 31 3 ≤ 16 := h.1
theorem IM.nds {σ : ZSt} (h : IM σ) : 0 ≤ σ 31 11 ∧ σ 31 11 ≤ 100 := h.2.1
theorem IM.out {σ : ZSt} (h : IM σ) : 0 ≤ σ 31 13 ∧ σ 31 13 ≤ 120 := h.2.2.1
theorem IM.inp {σ : ZSt} (h : IM σ) : 0 ≤ σ 31 16 ∧ σ 31 16 ≤ 120 := h.2.2.2.1
theorem IM.len {σ : ZSt} (h : IM σ) : 0 ≤ σ 31 25 ∧ σ 31 25 ≤ 120 := h.2.2.2.2.1
-- -1 of the class is -10 here
def zd (a : Int) : Int := if a = -1 then -10 else a
def mfind (σ : ZSt) (a b : Int) : Int := zfnd (σ 32) (σ 33) a b 0 (σ 31 3).toNat
theorem zfnd_b (sym kind : Nat → Int) (s b : Int) : ∀ (n i : Nat), zfnd sym kind s b i n = -1 ∨ ((i : Int) ≤ zfnd sym kind s b i n ∧ zfnd sym kind s b i n < (i + n : Nat)) := by
  intro n
  induction n with
  | zero => intro i; left; rfl
  | succ n ih =>
    intro i
    unfold zfnd
    by_cases hc : sym i = s ∧ (if kind i = 1 then (1 : Int) else 0) = b
    · rw [if_pos hc]; right; omega
    · rw [if_neg hc]
      rcases ih (i + 1) with h | h
      · left; exact h
      · right; omega
theorem zfnd_st {sym kind : Nat → Int} {a b i l : Int} (h : 0 ≤ i ∧ i < l) : zfnd sym kind a b i.toNat (l - i).toNat = if sym i.toNat = a ∧ (if kind i.toNat = 1 then (1 : Int) else 0) = b then i else zfnd sym kind a b (i + 1).toNat (l - (i + 1)).toNat := by
  obtain ⟨n, hn⟩ : ∃ n : Nat, (l - i).toNat = n + 1 := ⟨(l - i).toNat - 1, by omega⟩
  rw [hn]
  show (if _ then ((i.toNat : Nat) : Int) else _) = _
  rw [show (l - (i + 1)).toNat = n by omega, show (i + 1).toNat = i.toNat + 1 by omega, show ((i.toNat : Nat) : Int) = i by omega]
theorem mfind_b {σ : ZSt} (h : IM σ) (a b : Int) : mfind σ a b = -1 ∨ (0 ≤ mfind σ a b ∧ mfind σ a b < σ 31 3) := by
  have h1 := h.ops
  rcases zfnd_b (σ 32) (σ 33) a b (σ 31 3).toNat 0 with h2 | h2
  · left; exact h2
  · right; unfold mfind; omega
def mopadd (σ : ZSt) (a b c : Int) : ZSt := zup (zup (zup (zup σ 32 (σ 31 3).toNat a) 33 (σ 31 3).toNat b) 34 (σ 31 3).toNat c) 31 3 (σ 31 3 + 1)
def mdefine (σ : ZSt) (a b c : Int) : Int × ZSt := if ¬ xcan a then (-3, σ) else if ¬ (1 ≤ c ∧ c ≤ 9) then (-4, σ) else if mfind σ a (if b = 1 then 1 else 0) ≠ -1 then (-5, σ) else if 16 ≤ σ 31 3 then (-6, σ) else (σ 31 3, mopadd σ a b c)
def msetlev (σ : ZSt) (a b : Int) : Int × ZSt := if ¬ (0 ≤ a ∧ a < σ 31 3) then (-2, σ) else if ¬ (1 ≤ b ∧ b ≤ 9) then (-4, σ) else (σ 34 a.toNat, zup σ 34 a.toNat b)
def msetasc (σ : ZSt) (a b : Int) : Int × ZSt := if ¬ ((1 ≤ a ∧ a ≤ 9) ∧ 0 ≤ b ∧ b ≤ 2) then (-4, σ) else (σ 35 a.toNat, zup σ 35 a.toNat b)
noncomputable def msetforb (σ : ZSt) (a b c : Int) : Int × ZSt := if ¬ ((0 ≤ a ∧ a < σ 31 3) ∧ (0 ≤ b ∧ b < σ 31 3)) then (-2, σ) else (zb (σ 36 (16 * a + b).toNat ≠ 0), zup σ 36 (16 * a + b).toNat c)
def mright (σ : ZSt) (o : Int) : Int := if σ 35 (σ 34 o.toNat).toNat = 1 then σ 34 o.toNat else σ 34 o.toNat + 1
def mclash (σ : ZSt) (o l : Int) : Prop := 0 ≤ l ∧ σ 33 l.toNat = 0 ∧ σ 34 l.toNat = σ 34 o.toNat ∧ σ 35 (σ 34 o.toNat).toNat = 2
def mbar (σ : ZSt) (o i : Int) : Prop := 0 ≤ i ∧ σ 36 (16 * o + i).toNat ≠ 0
def msz (σ : ZSt) (a : Int) : Int := if 0 ≤ a then σ 41 a.toNat else 0
def mnadd (σ : ZSt) (o l a b : Int) : ZSt := zup (zup (zup (zup (zup (zup σ 37 (σ 31 11).toNat o) 38 (σ 31 11).toNat l) 39 (σ 31 11).toNat a) 40 (σ 31 11).toNat b) 41 (σ 31 11).toNat (zw (1 + msz σ a + msz σ b))) 31 11 (σ 31 11 + 1)
def mleaf (σ : ZSt) (a : Int) : Int × ZSt := if ¬ (97 ≤ a ∧ a ≤ 122) then (-3, σ) else if 100 ≤ σ 31 11 then (-6, σ) else (σ 31 11, mnadd σ (-10) a (-10) (-10))
def munary (σ : ZSt) (o n : Int) : Int × ZSt := if ¬ (0 ≤ o ∧ o < σ 31 3) then (-2, σ) else if σ 33 o.toNat = 0 then (-8, σ) else if ¬ (0 ≤ n ∧ n < σ 31 11) then (-1, σ) else if 40 < σ 41 n.toNat + 1 then (-7, σ) else if 100 ≤ σ 31 11 then (-6, σ) else (σ 31 11, mnadd σ o (-10) n (-10))
def mbinary (σ : ZSt) (o a b : Int) : Int × ZSt := if ¬ (0 ≤ o ∧ o < σ 31 3) then (-2, σ) else if σ 33 o.toNat ≠ 0 then (-8, σ) else if ¬ ((0 ≤ a ∧ a < σ 31 11) ∧ (0 ≤ b ∧ b < σ 31 11)) then (-1, σ) else if 40 < σ 41 a.toNat + σ 41 b.toNat + 1 then (-7, σ) else if 100 ≤ σ 31 11 then (-6, σ) else (σ 31 11, mnadd σ o (-10) a b)
def mappend (σ : ZSt) (a : Int) : Int × ZSt := if ¬ (33 ≤ a ∧ a ≤ 126) then (-3, σ) else if 120 ≤ σ 31 16 then (-7, σ) else (σ 31 16 + 1, zup (zup σ 43 (σ 31 16).toNat a) 31 16 (σ 31 16 + 1))
/-- the first i places of the row a are those of f -/
def mrow (σ : ZSt) (a : Nat) (f : Nat → Int) (i : Nat) : ZSt := fun c j => if c = a ∧ j < i then f j else σ c j
theorem mrow_0 (σ : ZSt) (a : Nat) (f : Nat → Int) : mrow σ a f 0 = σ := by
  funext c j
  unfold mrow
  rw [if_neg (by omega)]
theorem mrow_st (σ : ZSt) (a : Nat) (f : Nat → Int) (i : Nat) : zup (mrow σ a f i) a i (f i) = mrow σ a f (i + 1) := by
  funext c j
  unfold zup mrow
  by_cases h1 : c = a
  · subst h1
    by_cases h2 : j = i
    · subst h2; simp
    · simp [h2]
      by_cases h3 : j < i
      · rw [if_pos h3, if_pos (by omega)]
      · rw [if_neg h3, if_neg (by omega)]
  · simp [h1]
theorem mrow_row {σ : ZSt} {a c : Nat} {f : Nat → Int} {i : Nat} (h : c ≠ a) : mrow σ a f i c = σ c := by
  funext j
  unfold mrow
  rw [if_neg (by omega)]
theorem IM.mrow {σ : ZSt} (h : IM σ) {a i : Nat} {f : Nat → Int} (ha : a ≠ 31 ∧ a ≠ 34) : IM (mrow σ a f i) := by
  refine h.of ?_ ?_ ?_ ?_ ?_ (fun j => ?_) <;> rw [mrow_row (by omega)]
def mcopyOut (σ : ZSt) : ZSt := mrow (zup σ 31 16 (σ 31 13)) 43 (σ 42) (σ 31 13).toNat
def zcI (f : Nat → Int) (l R d i : Int) : Prop := (0 < d ∧ R = zclo f (i + 1).toNat (l - (i + 1)).toNat d) ∨ (d = 0 ∧ R = i)
theorem zclo_in {f : Nat → Int} {l R d i : Int} (h : zcI f l R d i) (hd : 0 < d) (hR : R ≠ -1) : i + 1 < l := by
  rcases Int.lt_or_le (i + 1) l with w | w
  · exact w
  · obtain ⟨-, h1⟩ := h.resolve_right (fun w => by omega)
    rw [show (l - (i + 1)).toNat = 0 by omega] at h1
    exact absurd h1 hR
theorem zclo_40 {f : Nat → Int} {l R d i : Int} (h : zcI f l R d i) (hd : 0 < d) (h0 : 0 ≤ i ∧ i + 1 < l) (hf : f (i + 1).toNat = 40) : zcI f l R (d + 1) (i + 1) := by
  obtain ⟨-, h1⟩ := h.resolve_right (fun w => by omega)
  rw [zclo_st (by omega), if_pos hf] at h1
  exact Or.inl ⟨by omega, h1⟩
theorem zclo_41 {f : Nat → Int} {l R d i : Int} (h : zcI f l R d i) (hd : 0 < d) (h0 : 0 ≤ i ∧ i + 1 < l) (hf : f (i + 1).toNat = 41) : zcI f l R (d + -1) (i + 1) := by
  obtain ⟨-, h1⟩ := h.resolve_right (fun w => by omega)
  rw [zclo_st (by omega), if_neg (by omega), if_pos hf] at h1
  by_cases hd1 : d - 1 = 0
  · rw [if_pos hd1] at h1; exact Or.inr ⟨by omega, h1⟩
  · rw [if_neg hd1] at h1; exact Or.inl ⟨by omega, h1⟩
theorem zclo_no {f : Nat → Int} {l R d i : Int} (h : zcI f l R d i) (hd : 0 < d) (h0 : 0 ≤ i ∧ i + 1 < l) (hf : f (i + 1).toNat ≠ 40) (hf2 : f (i + 1).toNat ≠ 41) : zcI f l R (d + 0) (i + 1) := by
  obtain ⟨-, h1⟩ := h.resolve_right (fun w => by omega)
  rw [zclo_st (by omega), if_neg hf, if_neg hf2] at h1
  rw [Int.add_zero]
  exact Or.inl ⟨by omega, h1⟩
