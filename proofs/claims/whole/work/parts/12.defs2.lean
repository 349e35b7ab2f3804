/-! ===== texts and tables copied ===== -/
theorem z_norm {E : ZE} {Γ : ZT} {pc : Nat} {lv : List (Option Value)} {st : List Value} {σ : ZSt} {v : Int} (kk : ZG E Γ pc lv (ziv (zw v) :: st) σ) : ZG E Γ pc lv (ziv v :: st) σ := by rw [← zw_iv v]; exact kk
/-- the text k is the first n signs of f -/
def zst (σ : ZSt) (k : Nat) (f : Nat → Int) (n : Nat) : ZSt := fun c j => if c = k + 1 ∧ j < n then f j else if c = k ∧ j = 1 then (n : Int) else σ c j
theorem zst_len (σ : ZSt) (k : Nat) (f : Nat → Int) (n : Nat) : zst σ k f n k 1 = n := by unfold zst; rw [if_neg (by omega), if_pos ⟨rfl, rfl⟩]
theorem zst_in {σ : ZSt} {k : Nat} {f : Nat → Int} {n j : Nat} (h : j < n) : zst σ k f n (k + 1) j = f j := by unfold zst; rw [if_pos ⟨rfl, h⟩]
theorem zst_row {σ : ZSt} {k : Nat} {f : Nat → Int} {n c : Nat} (h : c ≠ k ∧ c ≠ k + 1) : zst σ k f n c = σ c := by
  funext j
  unfold zst
  rw [if_neg (by omega), if_neg (by omega)]
theorem xput_zst {σ : ZSt} {k : Nat} {f : Nat → Int} {n : Nat} {v : Int} (hn : n < 120) : xput (zst σ k f n) k v = zst σ k (fun j => if j = n then v else f j) (n + 1) := by
  unfold xput
  rw [zst_len, if_neg (by omega)]
  funext c j
  unfold zup zst
  by_cases h1 : c = k
  · subst h1
    by_cases h2 : j = 1
    · subst h2; simp
    · simp [h2]
  · by_cases h2 : c = k + 1
    · subst h2
      by_cases h3 : j = n
      · subst h3; simp
      · simp [h3]
        by_cases h4 : j < n
        · rw [if_pos h4, if_pos (by omega)]
        · rw [if_neg h4, if_neg (by omega)]
    · simp [h1, h2]
theorem zst_congr {σ : ZSt} {k n : Nat} {f g : Nat → Int} (h : ∀ j, j < n → f j = g j) : zst σ k f n = zst σ k g n := by
  funext c j
  unfold zst
  by_cases h1 : c = k + 1 ∧ j < n
  · rw [if_pos h1, if_pos h1, h j h1.2]
  · rw [if_neg h1, if_neg h1]
theorem zst_empty (σ : ZSt) (k : Nat) (f : Nat → Int) : zup σ k 1 0 = zst σ k f 0 := by
  funext c j
  unfold zup zst
  by_cases h1 : c = k ∧ j = 1
  · rw [if_pos h1, if_neg (by omega), if_pos h1]; rfl
  · rw [if_neg h1, if_neg (by omega), if_neg h1]
theorem IX.zst {σ : ZSt} (h : IX σ) {k n : Nat} {f : Nat → Int} (hk : k = 19 ∨ k = 21 ∨ k = 23) (hn : n ≤ 120) : IX (zst σ k f n) := by
  obtain ⟨h1, h2, h3, h4, h5, h6, h7, h8⟩ := h
  have r : ∀ c, c ≠ k ∧ c ≠ k + 1 → _root_.Jvm.Pilot.CExpressionPrinterLaw_law_r3704_c6d7ee.zst σ k f n c = σ c := fun c hc => zst_row hc
  have l := zst_len σ k f n
  refine ⟨?_, ?_, ?_, ?_, ?_, ?_, ?_, ?_⟩
  · rw [r 1 (by omega)]; exact h1
  · rw [r 7 (by omega)]; exact h2
  · rw [r 13 (by omega)]; exact h3
  · rcases hk with rfl | rfl | rfl
    · rw [l]; omega
    · rw [r 19 (by omega)]; exact h4
    · rw [r 19 (by omega)]; exact h4
  · rcases hk with rfl | rfl | rfl
    · rw [r 21 (by omega)]; exact h5
    · rw [l]; omega
    · rw [r 21 (by omega)]; exact h5
  · rcases hk with rfl | rfl | rfl
    · rw [r 23 (by omega)]; exact h6
    · rw [r 23 (by omega)]; exact h6
    · rw [l]; omega
  · rw [r 25 (by omega)]; exact h7
  · rw [r 4 (by omega)]; exact h8
/-- how many of the first n signs are s -/
def zcnt (f : Nat → Int) (s : Int) : Nat → Int
  | 0 => 0
  | n + 1 => zcnt f s n + (if f n = s then 1 else 0)
theorem zcnt_b (f : Nat → Int) (s : Int) (n : Nat) : 0 ≤ zcnt f s n ∧ zcnt f s n ≤ n := by
  induction n with
  | zero => exact ⟨Int.le_refl 0, Int.le_refl 0⟩
  | succ n ih =>
    unfold zcnt
    split <;> omega
/-- the place of the opening bracket number a, from p on, n far, q passed -/
def zopn (f : Nat → Int) (a : Int) : Nat → Nat → Int → Int
  | _, 0, _ => -1
  | p, n + 1, q => if f p = 40 then (if q = a then (p : Int) else zopn f a (p + 1) n (q + 1)) else zopn f a (p + 1) n q
/-- the place of the closing bracket, from p on, n far, d deep -/
def zclo (f : Nat → Int) : Nat → Nat → Int → Int
  | _, 0, _ => -1
  | p, n + 1, d => if f p = 40 then zclo f (p + 1) n (d + 1) else if f p = 41 then (if d - 1 = 0 then (p : Int) else zclo f (p + 1) n (d - 1)) else zclo f (p + 1) n d
theorem zopn_st {f : Nat → Int} {a q p l : Int} (h : 0 ≤ p ∧ p < l) : zopn f a p.toNat (l - p).toNat q = if f p.toNat = 40 then (if q = a then p else zopn f a (p + 1).toNat (l - (p + 1)).toNat (q + 1)) else zopn f a (p + 1).toNat (l - (p + 1)).toNat q := by
  obtain ⟨n, hn⟩ : ∃ n : Nat, (l - p).toNat = n + 1 := ⟨(l - p).toNat - 1, by omega⟩
  rw [hn]
  show (if _ then (if _ then ((p.toNat : Nat) : Int) else _) else _) = _
  rw [show (l - (p + 1)).toNat = n by omega, show (p + 1).toNat = p.toNat + 1 by omega, show ((p.toNat : Nat) : Int) = p by omega]
theorem zclo_st {f : Nat → Int} {d p l : Int} (h : 0 ≤ p ∧ p < l) : zclo f p.toNat (l - p).toNat d = if f p.toNat = 40 then zclo f (p + 1).toNat (l - (p + 1)).toNat (d + 1) else if f p.toNat = 41 then (if d - 1 = 0 then p else zclo f (p + 1).toNat (l - (p + 1)).toNat (d - 1)) else zclo f (p + 1).toNat (l - (p + 1)).toNat d := by
  obtain ⟨n, hn⟩ : ∃ n : Nat, (l - p).toNat = n + 1 := ⟨(l - p).toNat - 1, by omega⟩
  rw [hn]
  show (if _ then _ else if _ then (if _ then ((p.toNat : Nat) : Int) else _) else _) = _
  rw [show (l - (p + 1)).toNat = n by omega, show (p + 1).toNat = p.toNat + 1 by omega, show ((p.toNat : Nat) : Int) = p by omega]
/-- the text without the places o and c: how long, and its signs, of the first p -/
def zskn (o c : Int) : Nat → Nat
  | 0 => 0
  | p + 1 => if (p : Int) ≠ o ∧ (p : Int) ≠ c then zskn o c p + 1 else zskn o c p
def zskf (f : Nat → Int) (o c : Int) : Nat → Nat → Int
  | 0 => fun _ => 0
  | p + 1 => if (p : Int) ≠ o ∧ (p : Int) ≠ c then fun j => if j = zskn o c p then f p else zskf f o c p j else zskf f o c p
theorem zsk_keep {f : Nat → Int} {o c : Int} {p : Nat} (h : (p : Int) ≠ o ∧ (p : Int) ≠ c) : zskf f o c (p + 1) = (fun j => if j = zskn o c p then f p else zskf f o c p j) ∧ zskn o c (p + 1) = zskn o c p + 1 := ⟨if_pos h, if_pos h⟩
theorem zsk_drop {f : Nat → Int} {o c : Int} {p : Nat} (h : ¬ ((p : Int) ≠ o ∧ (p : Int) ≠ c)) : zskf f o c (p + 1) = zskf f o c p ∧ zskn o c (p + 1) = zskn o c p := ⟨if_neg h, if_neg h⟩
theorem zskn_le (o c : Int) (p : Nat) : zskn o c p ≤ p := by
  induction p with
  | zero => exact Nat.le_refl 0
  | succ p ih => unfold zskn; split <;> omega
def xopen (σ : ZSt) (k : Nat) (a : Int) : Int := zopn (σ (k + 1)) a 0 (σ k 1).toNat 0
def xclose (σ : ZSt) (k : Nat) (a : Int) : Int := zclo (σ (k + 1)) (max a 0).toNat (σ k 1 - max a 0).toNat 0
def xcopy (σ : ZSt) (k o : Nat) : ZSt := zst σ k (σ (o + 1)) (σ o 1).toNat
def xskip (σ : ZSt) (k o : Nat) (a : Int) : ZSt := zst σ k (zskf (σ (o + 1)) (xopen σ o a) (xclose σ o (xopen σ o a)) (σ o 1).toNat) (zskn (xopen σ o a) (xclose σ o (xopen σ o a)) (σ o 1).toNat)
-- the nodes that were read, added to the nodes
theorem xnadd_row {σ : ZSt} {k c : Nat} {o l b a : Int} (h : ¬ (k ≤ c ∧ c ≤ k + 5)) : xnadd σ k o l b a c = σ c := by
  unfold xnadd
  split
  · rfl
  · repeat rw [zup_row (by omega)]
def xadds (σ : ZSt) : Nat → ZSt
  | 0 => σ
  | p + 1 => xnadd (xadds σ p) 7 (σ 14 p) (σ 15 p) (if σ 16 p = -1 then -1 else zw (σ 16 p + σ 7 5)) (if σ 17 p = -1 then -1 else zw (σ 17 p + σ 7 5))
theorem xadds_row {σ : ZSt} {c : Nat} (h : ¬ (7 ≤ c ∧ c ≤ 12)) : ∀ p, xadds σ p c = σ c
  | 0 => rfl
  | p + 1 => by unfold xadds; rw [xnadd_row (by omega)]; exact xadds_row h p
theorem xnadd_cnt {σ : ZSt} {k : Nat} {o l b a : Int} (h : σ k 5 < 120) : xnadd σ k o l b a k 5 = σ k 5 + 1 := by
  unfold xnadd
  rw [if_neg (by omega), zup_same]
theorem IX.nadd {σ : ZSt} (h : IX σ) {k : Nat} (hk : k = 7 ∨ k = 13) {o l b a : Int} : IX (xnadd σ k o l b a) := by
  have hb := h.nt hk
  unfold xnadd
  split
  · exact h
  · exact ((((((h.upNTa hk (by decide)).upNTa hk (by decide)).upNTa hk (by decide)).upNTa hk (by decide)).upNTa hk (by decide)).upNT hk (by omega))
/-- two trees are the same, to the depth n -/
def xsame (σ : ZSt) (k q : Nat) : Nat → Int → Int → Prop
  | 0, a, b => (a = -1 ∨ b = -1) ∧ a = b
  | n + 1, a, b => if a = -1 ∨ b = -1 then a = b else ((xnop σ k a = xnop σ q b ∧ xnlet σ k a = xnlet σ q b) ∧ xsame σ k q n (xnbef σ k a) (xnbef σ q b) ∧ xsame σ k q n (xnaft σ k a) (xnaft σ q b))
