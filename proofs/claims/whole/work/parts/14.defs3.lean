/-! ===== the class's own calls, as functions ===== -/
abbrev xcan (a : Int) : Prop := 33 ≤ a ∧ a ≤ 126 ∧ ¬ (97 ≤ a ∧ a ≤ 122) ∧ a ≠ 40 ∧ a ≠ 41
def xdefine (σ : ZSt) (a b c : Int) : Int × ZSt := if ¬ xcan a then (-3, σ) else if ¬ (1 ≤ c ∧ c ≤ 9) then (-4, σ) else if xfind σ a (if b = 1 then 1 else 0) ≠ -1 then (-5, σ) else if 16 ≤ σ 1 5 then (-6, σ) else (σ 1 5, xopadd σ a b c)
def xsetlev (σ : ZSt) (a b : Int) : Int × ZSt := if ¬ (0 ≤ a ∧ a < σ 1 5) then (-2, σ) else if ¬ (1 ≤ b ∧ b ≤ 9) then (-4, σ) else (xlev σ a, zup σ 4 a.toNat b)
def xsetasc (σ : ZSt) (a b : Int) : Int × ZSt := if ¬ ((1 ≤ a ∧ a ≤ 9) ∧ 0 ≤ b ∧ b ≤ 2) then (-4, σ) else (xasc σ a, zup σ 5 a.toNat b)
noncomputable def xsetforb (σ : ZSt) (a b c : Int) : Int × ZSt := if ¬ ((0 ≤ a ∧ a < σ 1 5) ∧ (0 ≤ b ∧ b < σ 1 5)) then (-2, σ) else (zb (xfb σ a b), zup σ 6 (a * 16 + b).toNat c)
def xadd3 (σ : ZSt) (o b a : Int) : Int × ZSt := if 40 < 1 + xnsz σ 7 b + xnsz σ 7 a then (-7, σ) else if 100 ≤ σ 7 5 then (-6, σ) else (σ 7 5, xnadd σ 7 o (-1) b a)
def xleaf (σ : ZSt) (a : Int) : Int × ZSt := if ¬ (97 ≤ a ∧ a ≤ 122) then (-3, σ) else if 100 ≤ σ 7 5 then (-6, σ) else (σ 7 5, xnadd σ 7 (-1) a (-1) (-1))
def xunary (σ : ZSt) (o n : Int) : Int × ZSt := if ¬ (0 ≤ o ∧ o < σ 1 5) then (-2, σ) else if xkind σ o = 0 then (-8, σ) else if ¬ (0 ≤ n ∧ n < σ 7 5) then (-1, σ) else if xkind σ o = 1 then xadd3 σ o (-1) n else xadd3 σ o n (-1)
def xbinary (σ : ZSt) (o a b : Int) : Int × ZSt := if ¬ (0 ≤ o ∧ o < σ 1 5) then (-2, σ) else if xkind σ o ≠ 0 then (-8, σ) else if ¬ ((0 ≤ a ∧ a < σ 7 5) ∧ (0 ≤ b ∧ b < σ 7 5)) then (-1, σ) else xadd3 σ o a b
def xappend (σ : ZSt) (a : Int) : Int × ZSt := if ¬ (33 ≤ a ∧ a ≤ 126) then (-3, σ) else if 120 ≤ σ 19 1 then (-7, σ) else (σ 19 1 + 1, xput σ 19 a)
theorem xput_len {σ : ZSt} {k : Nat} {a : Int} (h : ¬ 120 ≤ σ k 1) : xput σ k a k 1 = σ k 1 + 1 := by unfold xput; rw [if_neg h, zup_same]
theorem xnsz_b {σ : ZSt} (h : ∀ i, 0 ≤ σ 12 i ∧ σ 12 i ≤ 40) (a : Int) : 0 ≤ xnsz σ 7 a ∧ xnsz σ 7 a ≤ 40 := by
  unfold xnsz zget
  split
  · exact h _
  · omega
theorem xnaddr_lt {σ : ZSt} {k : Nat} (h : σ k 5 < 120) : xnaddr σ k = σ k 5 := if_neg (by omega)
