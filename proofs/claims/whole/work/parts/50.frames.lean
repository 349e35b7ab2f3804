/-! ===== what the class writes is the class's ===== -/
section HI
variable {τ : ZSt} {c : Nat} (hc : 31 ≤ c)
theorem hi_opadd {a b d : Int} (hc : 31 ≤ c) : xopadd τ a b d c = τ c := by
  unfold xopadd
  split
  · rfl
  · rw [zup_row (by omega), zup_row (by omega), zup_row (by omega), zup_row (by omega)]
theorem hi_define {a b d : Int} (hc : 31 ≤ c) : (xdefine τ a b d).2 c = τ c := by
  unfold xdefine
  repeat' split
  all_goals first | rfl | exact hi_opadd hc
theorem hi_setlev {a b : Int} (hc : 31 ≤ c) : (xsetlev τ a b).2 c = τ c := by
  unfold xsetlev
  repeat' split
  all_goals first | rfl | exact zup_row (by omega)
theorem hi_setasc {a b : Int} (hc : 31 ≤ c) : (xsetasc τ a b).2 c = τ c := by
  unfold xsetasc
  repeat' split
  all_goals first | rfl | exact zup_row (by omega)
theorem hi_setforb {a b d : Int} (hc : 31 ≤ c) : (xsetforb τ a b d).2 c = τ c := by
  unfold xsetforb
  repeat' split
  all_goals first | rfl | exact zup_row (by omega)
theorem hi_leaf {a : Int} (hc : 31 ≤ c) : (xleaf τ a).2 c = τ c := by
  unfold xleaf
  repeat' split
  all_goals first | rfl | exact xnadd_row (by omega)
theorem hi_add3 {o a b : Int} (hc : 31 ≤ c) : (xadd3 τ o a b).2 c = τ c := by
  unfold xadd3
  repeat' split
  all_goals first | rfl | exact xnadd_row (by omega)
theorem hi_unary {o a : Int} (hc : 31 ≤ c) : (xunary τ o a).2 c = τ c := by
  unfold xunary
  repeat' split
  all_goals first | rfl | exact hi_add3 hc
theorem hi_binary {o a b : Int} (hc : 31 ≤ c) : (xbinary τ o a b).2 c = τ c := by
  unfold xbinary
  repeat' split
  all_goals first | rfl | exact hi_add3 hc
theorem hi_append {a : Int} (hc : 31 ≤ c) : (xappend τ a).2 c = τ c := by
  unfold xappend
  repeat' split
  all_goals first | rfl | exact xput_row (by omega)
theorem hi_parse (hc : 31 ≤ c) : (xparse τ).2 c = τ c := (xparse_row (τ := τ)).1 c (by omega)
theorem hi_without {a : Int} (hc : 31 ≤ c) : (xwithout τ a).2 c = τ c := by
  unfold xwithout
  by_cases c1 : τ 0 8 = -1
  · rw [zif_pos c1]
  · rw [zif_neg c1]
    by_cases c2 : ¬ (0 ≤ a ∧ a < zcnt (τ 22) 40 (τ 21 1).toNat)
    · rw [zif_pos c2]
    · rw [zif_neg c2]
      by_cases c3 : xreadOk (xreads (xskip τ 23 21 a))
      · rw [zif_pos c3]; exact xsk_row (by omega)
      · rw [zif_neg c3]; exact xsk_row (by omega)
theorem xprep_row {σ : ZSt} {a z : Int} {c : Nat} (hc : c ≠ 29 ∧ c ≠ 30) : xprep σ a z c = σ c := by
  unfold xprep xmarkN
  by_cases h : z = 0
  · rw [zif_pos h, xcnt_row hc.2, xmarks_row hc.2, xmark_row hc.2, zup_row hc.1]
  · rw [zif_neg h, zup_row hc.1]
theorem hi_print {a z : Int} (hc : 31 ≤ c) : (xprint τ a z).2 c = τ c := by
  unfold xprint
  by_cases h : 0 ≤ a ∧ a < τ 7 5
  · rw [zif_pos h]
    show zup (xputs (xprep (zup τ 21 1 0) a z) _) 0 8 a c = τ c
    rw [zup_row (by omega), xputs_row (by omega), xprep_row (by omega), zup_row (by omega)]
  · rw [zif_neg h]
theorem hi_copy (hc : 31 ≤ c) : xcopy τ 19 21 c = τ c := zst_row (by omega)
end HI
section LO
variable {σ : ZSt} {c : Nat}
theorem lo_opadd {a b d : Int} (hc : c < 31) : mopadd σ a b d c = σ c := by
  unfold mopadd
  rw [zup_row (by omega), zup_row (by omega), zup_row (by omega), zup_row (by omega)]
theorem lo_define {a b d : Int} (hc : c < 31) : (mdefine σ a b d).2 c = σ c := by
  unfold mdefine
  repeat' split
  all_goals first | rfl | exact lo_opadd hc
theorem lo_setlev {a b : Int} (hc : c < 31) : (msetlev σ a b).2 c = σ c := by
  unfold msetlev
  repeat' split
  all_goals first | rfl | exact zup_row (by omega)
theorem lo_setasc {a b : Int} (hc : c < 31) : (msetasc σ a b).2 c = σ c := by
  unfold msetasc
  repeat' split
  all_goals first | rfl | exact zup_row (by omega)
theorem lo_setforb {a b d : Int} (hc : c < 31) : (msetforb σ a b d).2 c = σ c := by
  unfold msetforb
  repeat' split
  all_goals first | rfl | exact zup_row (by omega)
theorem lo_leaf {a : Int} (hc : c < 31) : (mleaf σ a).2 c = σ c := by
  unfold mleaf
  repeat' split
  all_goals first | rfl | exact mnadd_row (by omega)
theorem lo_unary {o a : Int} (hc : c < 31) : (munary σ o a).2 c = σ c := by
  unfold munary
  repeat' split
  all_goals first | rfl | exact mnadd_row (by omega)
theorem lo_binary {o a b : Int} (hc : c < 31) : (mbinary σ o a b).2 c = σ c := by
  unfold mbinary
  repeat' split
  all_goals first | rfl | exact mnadd_row (by omega)
theorem lo_append {a : Int} (hc : c < 31) : (mappend σ a).2 c = σ c := by
  unfold mappend
  repeat' split
  all_goals first | rfl | (show zup (zup σ 43 _ _) 31 16 _ c = σ c; rw [zup_row (by omega), zup_row (by omega)])
theorem lo_copy (hc : c < 31) : mcopyOut σ c = σ c := by
  unfold mcopyOut
  rw [mrow_row (by omega), zup_row (by omega)]
end LO
