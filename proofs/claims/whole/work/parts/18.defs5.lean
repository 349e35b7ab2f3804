/-! ===== the writer, as functions ===== -/
def xrw (σ : ZSt) (o m x : Int) : Prop := (xkind σ o = 1 ∨ m ≤ xlev σ o) ∧ (xkind σ o = 2 ∨ x < xmin σ o)
noncomputable def xpb (σ : ZSt) (a : Int) : Int := zif (0 ≤ a ∧ a < 100) (zw (1 + σ 30 a.toNat)) 1000
noncomputable def xpi (σ : ZSt) (f : Int → Int → Int → Int) (o w m x : Int) : Int := zif (xfb σ o (xnop σ 7 w) ∨ xna σ o (xnop σ 7 w)) 1000 (f w m x)
noncomputable def xpo (σ : ZSt) (f : Int → Int → Int → Int) (o w m x : Int) : Int := zif (xnop σ 7 w = -1) 0 (min (xpi σ f o w m x) (xpb σ w))
noncomputable def xpin (σ : ZSt) : Nat → Int → Int → Int → Int
  | 0 => fun v _ _ => zif (xnop σ 7 v = -1) 0 1000
  | n + 1 => fun v m x => zif (xnop σ 7 v = -1) 0 (zif (xrw σ (xnop σ 7 v) m x) (zw (xpo σ (xpin σ n) (xnop σ 7 v) (xnbef σ 7 v) m (xlev σ (xnop σ 7 v)) + xpo σ (xpin σ n) (xnop σ 7 v) (xnaft σ 7 v) (xmin σ (xnop σ 7 v)) x)) 1000)
theorem xpin_leaf {σ : ZSt} {n : Nat} {v m x : Int} (h : xnop σ 7 v = -1) : xpin σ n v m x = 0 := by
  cases n with
  | zero => exact zif_pos h
  | succ n => exact zif_pos h
theorem xpin_far {σ : ZSt} {n : Nat} {v m x : Int} (h : xnop σ 7 v ≠ -1) (h2 : n = 0 ∨ ¬ xrw σ (xnop σ 7 v) m x) : xpin σ n v m x = 1000 := by
  cases n with
  | zero => exact zif_neg h
  | succ n =>
    show zif _ _ (zif _ _ _) = _
    rw [zif_neg h, zif_neg (by rcases h2 with h3 | h3; · omega
                               · exact h3)]
theorem xpin_go {σ : ZSt} {n : Nat} {v m x : Int} (h : xnop σ 7 v ≠ -1) (hn : 0 < n) (h2 : xrw σ (xnop σ 7 v) m x) : xpin σ n v m x = zw (xpo σ (xpin σ (n - 1)) (xnop σ 7 v) (xnbef σ 7 v) m (xlev σ (xnop σ 7 v)) + xpo σ (xpin σ (n - 1)) (xnop σ 7 v) (xnaft σ 7 v) (xmin σ (xnop σ 7 v)) x) := by
  cases n with
  | zero => omega
  | succ n =>
    show zif _ _ (zif _ _ _) = _
    rw [zif_neg h, zif_pos h2]
    rfl
def K_pin (E : ZE) (σ : ZSt) (N : Nat) : Prop := ∀ (v : Int) (_ : zRg v) (m : Int) (_ : zRg m) (x : Int) (_ : zRg x) (d : Int) (_ : zRg d), (40 - d).toNat < N → ZMi E (3 * N + 3) yX4_pairsInside cX4_pairsInside 6 (some .int) [zrf E 29, ziv v, ziv m, ziv x, ziv d] σ (fun r σ' => (r = xpin σ (40 - d).toNat v m x) ∧ σ' = σ)
-- marks and counts
noncomputable def xmark (σ : ZSt) (a : Int) : ZSt := zif (0 ≤ a ∧ a < 100) (zup σ 30 a.toNat (-1)) σ
noncomputable def xmarks : Nat → ZSt → ZSt
  | 0, τ => τ
  | n + 1, τ => xmarks n (zif (τ 30 n = -1) (xmark (xmark τ (xnbef τ 7 n)) (xnaft τ 7 n)) τ)
noncomputable def xmarkN (σ : ZSt) (a : Int) : ZSt := xmarks (min a 99 + 1).toNat (xmark σ a)
noncomputable def xcnt (σ : ZSt) : Nat → ZSt
  | 0 => σ
  | i + 1 => zif (xcnt σ i 30 i = -1) (zup (xcnt σ i) 30 i (xpin (xcnt σ i) 40 i 0 0)) (xcnt σ i)
noncomputable def xprep (σ : ZSt) (a z : Int) : ZSt := zif (z = 0) (xcnt (xmarkN (zup σ 29 4 z) a) (min (a + 1) 100).toNat) (zup σ 29 4 z)
-- the text
def xputs : ZSt → List Int → ZSt
  | σ, [] => σ
  | σ, a :: L => xputs (xput σ 21 a) L
theorem xputs_app (σ : ZSt) (L M : List Int) : xputs σ (L ++ M) = xputs (xputs σ L) M := by
  induction L generalizing σ with
  | nil => rfl
  | cons a L ih => exact ih _
theorem xput_row {σ : ZSt} {k c : Nat} {a : Int} (h : c ≠ k ∧ c ≠ k + 1) : xput σ k a c = σ c := by
  unfold xput
  split
  · rfl
  · rw [zup_row h.1, zup_row h.2]
theorem xputs_row {c : Nat} (h : c ≠ 21 ∧ c ≠ 22) (L : List Int) : ∀ σ : ZSt, xputs σ L c = σ c := by
  induction L with
  | nil => intro σ; rfl
  | cons a L ih => intro σ; exact (ih _).trans (xput_row h)
theorem IX.xput {σ : ZSt} (h : IX σ) {k : Nat} (hk : k = 19 ∨ k = 21 ∨ k = 23) {a : Int} : IX (xput σ k a) := by
  have hb := h.tx hk
  unfold Jvm.Pilot.CExpressionPrinterLaw_law_r3704_c6d7ee.xput
  split
  · exact h
  · exact (h.upTXa hk).upTX hk (by omega)
theorem IX.xputs (L : List Int) : ∀ {σ : ZSt}, IX σ → IX (xputs σ L) := by
  induction L with
  | nil => intro σ h; exact h
  | cons a L ih => intro σ h; exact ih (h.xput (Or.inr (Or.inl rfl)))
noncomputable def xto (σ : ZSt) (n : Nat) (f : Int → Int → Int → List Int) (o w m x : Int) : List Int := zif (w = -1) [] (zif (xnop σ 7 w ≠ -1 ∧ (σ 29 4 ≠ 0 ∨ xpb σ w < xpi σ (xpin σ n) o w m x)) ([40] ++ f w 0 0 ++ [41]) (f w m x))
noncomputable def xtext (σ : ZSt) : Nat → Int → Int → Int → List Int
  | 0 => fun _ _ _ => []
  | n + 1 => fun v m x => zif (xnop σ 7 v = -1) [xnlet σ 7 v] (xto σ n (xtext σ n) (xnop σ 7 v) (xnbef σ 7 v) m (xlev σ (xnop σ 7 v)) ++ [xsym σ (xnop σ 7 v)] ++ xto σ n (xtext σ n) (xnop σ 7 v) (xnaft σ 7 v) (xmin σ (xnop σ 7 v)) x)
-- what reads the tables, not the output
def zAl (σ τ : ZSt) : Prop := ∀ c, c ≠ 21 ∧ c ≠ 22 → τ c = σ c
theorem zAl_puts (σ : ZSt) (L : List Int) : zAl σ (xputs σ L) := fun _ h => xputs_row h L σ
section ALIKE
variable {σ τ : ZSt} (h : zAl σ τ)
theorem zAl.nop {a : Int} (h : zAl σ τ) : xnop τ 7 a = xnop σ 7 a := by unfold xnop; rw [h 7 (by decide), h 8 (by decide)]
theorem zAl.nlet {a : Int} (h : zAl σ τ) : xnlet τ 7 a = xnlet σ 7 a := by unfold xnlet; rw [h 7 (by decide), h 9 (by decide)]
theorem zAl.nbef {a : Int} (h : zAl σ τ) : xnbef τ 7 a = xnbef σ 7 a := by unfold xnbef; rw [h 7 (by decide), h 10 (by decide)]
theorem zAl.naft {a : Int} (h : zAl σ τ) : xnaft τ 7 a = xnaft σ 7 a := by unfold xnaft; rw [h 7 (by decide), h 11 (by decide)]
theorem zAl.sym {a : Int} (h : zAl σ τ) : xsym τ a = xsym σ a := by unfold xsym; rw [h 1 (by decide), h 2 (by decide)]
theorem zAl.kind {a : Int} (h : zAl σ τ) : xkind τ a = xkind σ a := by unfold xkind; rw [h 1 (by decide), h 3 (by decide)]
theorem zAl.lev {a : Int} (h : zAl σ τ) : xlev τ a = xlev σ a := by unfold xlev; rw [h 1 (by decide), h 4 (by decide)]
theorem zAl.min {a : Int} (h : zAl σ τ) : xmin τ a = xmin σ a := by unfold xmin; rw [h 1 (by decide), h 3 (by decide), h 4 (by decide), h 5 (by decide)]
theorem zAl.asc {a : Int} (h : zAl σ τ) : xasc τ a = xasc σ a := by unfold xasc; rw [h 5 (by decide)]
theorem zAl.fb {a b : Int} (h : zAl σ τ) : xfb τ a b = xfb σ a b := by unfold xfb; rw [h 1 (by decide), h 6 (by decide)]
theorem zAl.na {a b : Int} (h : zAl σ τ) : xna τ a b = xna σ a b := by unfold xna; rw [h.kind, h.kind, h.lev, h.lev, h.asc]
theorem zAl.rw {o m x : Int} (h : zAl σ τ) : xrw τ o m x = xrw σ o m x := by unfold xrw; rw [h.kind, h.lev, h.min]
theorem zAl.pb {a : Int} (h : zAl σ τ) : xpb τ a = xpb σ a := by unfold xpb; rw [h 30 (by decide)]
theorem zAl.pi {f : Int → Int → Int → Int} {o w m x : Int} (h : zAl σ τ) : xpi τ f o w m x = xpi σ f o w m x := by unfold xpi; rw [h.nop, h.fb, h.na]
theorem zAl.po {f : Int → Int → Int → Int} {o w m x : Int} (h : zAl σ τ) : xpo τ f o w m x = xpo σ f o w m x := by unfold xpo; rw [h.nop, h.pi, h.pb]
theorem zAl.pin (h : zAl σ τ) : ∀ n : Nat, xpin τ n = xpin σ n := by
  intro n
  induction n with
  | zero => funext v m x; show zif _ _ _ = zif _ _ _; rw [h.nop]
  | succ n ih => funext v m x; show zif _ _ (zif _ _ _) = zif _ _ (zif _ _ _); rw [h.nop, h.rw, ih, h.po, h.po, h.nbef, h.naft, h.lev, h.min]
theorem zAl.to {n : Nat} {f : Int → Int → Int → List Int} {o w m x : Int} (h : zAl σ τ) : xto τ n f o w m x = xto σ n f o w m x := by unfold xto; rw [h.nop, h.pin, h.pi, h.pb, h 29 (by decide)]
theorem zAl.text (h : zAl σ τ) : ∀ n : Nat, xtext τ n = xtext σ n := by
  intro n
  induction n with
  | zero => rfl
  | succ n ih => funext v m x; show zif _ _ _ = zif _ _ _; rw [h.nop, h.nlet, ih, h.to, h.to, h.nbef, h.naft, h.lev, h.min, h.sym]
end ALIKE
def K_wn (E : ZE) (N : Nat) : Prop := ∀ (σ : ZSt) (_ : zRs σ) (_ : IX σ) (v : Int) (_ : zRg v) (m : Int) (_ : zRg m) (x : Int) (_ : zRg x) (d : Int) (_ : zRg d) (_ : 0 ≤ d), (40 - d).toNat < N → ZMv E (2 * N + 130) yX4_writeNode cX4_writeNode 6 [zrf E 29, ziv v, ziv m, ziv x, ziv d] σ (fun σ' => σ' = xputs σ (xtext σ (40 - d).toNat v m x))
theorem xtext_go {σ : ZSt} {n : Nat} {v m x : Int} (hn : 0 < n) : xtext σ n v m x = zif (xnop σ 7 v = -1) [xnlet σ 7 v] (xto σ (n - 1) (xtext σ (n - 1)) (xnop σ 7 v) (xnbef σ 7 v) m (xlev σ (xnop σ 7 v)) ++ [xsym σ (xnop σ 7 v)] ++ xto σ (n - 1) (xtext σ (n - 1)) (xnop σ 7 v) (xnaft σ 7 v) (xmin σ (xnop σ 7 v)) x) := by
  cases n with
  | zero => omega
  | succ n => rfl
-- the three calls
noncomputable def xprint (σ : ZSt) (a z : Int) : Int × ZSt := zif (0 ≤ a ∧ a < σ 7 5) ((zup (xputs (xprep (zup σ 21 1 0) a z) (xtext (xprep (zup σ 21 1 0) a z) 40 a 0 0)) 0 8 a) 21 1, zup (xputs (xprep (zup σ 21 1 0) a z) (xtext (xprep (zup σ 21 1 0) a z) 40 a 0 0)) 0 8 a) (-1, σ)
noncomputable def xwithout (σ : ZSt) (a : Int) : Int × ZSt := zif (σ 0 8 = -1) (-11, σ) (zif (¬ (0 ≤ a ∧ a < zcnt (σ 22) 40 (σ 21 1).toNat)) (-9, σ) (zif (xreadOk (xreads (xskip σ 23 21 a))) (zif (xsame (xreads (xskip σ 23 21 a)) 13 7 40 (xreads (xskip σ 23 21 a) 13 5 - 1) (xreads (xskip σ 23 21 a) 0 8)) 0 1, xreads (xskip σ 23 21 a)) (2, xreads (xskip σ 23 21 a))))
noncomputable def xparse (σ : ZSt) : Int × ZSt := zif (xreadOk (xreads (xcopy σ 23 19)))
  (zif (40 < xreads (xcopy σ 23 19) 13 5) (-7, xreads (xcopy σ 23 19)) (zif (100 < xreads (xcopy σ 23 19) 7 5 + xreads (xcopy σ 23 19) 13 5) (-6, xreads (xcopy σ 23 19)) (xadds (xreads (xcopy σ 23 19)) (xreads (xcopy σ 23 19) 13 5).toNat 7 5 - 1, xadds (xreads (xcopy σ 23 19)) (xreads (xcopy σ 23 19) 13 5).toNat)))
  (-12, zup (zup (xreads (xcopy σ 23 19)) 0 9 (xreads (xcopy σ 23 19) 25 12)) 0 10 (xreads (xcopy σ 23 19) 25 13))
theorem IX.xrun : ∀ (n : Nat) {σ : ZSt}, IX σ → IX (xrun n σ) := by
  intro n
  induction n with
  | zero => intro σ h; exact h
  | succ n ih =>
    intro σ h
    show IX (zif _ _ _)
    by_cases hc : σ 25 11 = 0
    · rw [zif_pos hc]; exact ih h.xstep
    · rw [zif_neg hc]; exact h
theorem IX.xreads {σ : ZSt} (h : IX σ) : IX (xreads σ) := IX.xrun 242 (xstart_IX h)
theorem IX.xadds {σ : ZSt} (h : IX σ) : ∀ n : Nat, IX (xadds σ n)
  | 0 => h
  | n + 1 => (IX.xadds h n).nadd (Or.inl rfl)
theorem xmark_row {σ : ZSt} {a : Int} {c : Nat} (h : c ≠ 30) : xmark σ a c = σ c := by
  unfold xmark
  by_cases hc : 0 ≤ a ∧ a < 100
  · rw [zif_pos hc, zup_row h]
  · rw [zif_neg hc]
theorem IX.xmark {σ : ZSt} (h : IX σ) {a : Int} : IX (xmark σ a) := by
  unfold Jvm.Pilot.CExpressionPrinterLaw_law_r3704_c6d7ee.xmark
  by_cases hc : 0 ≤ a ∧ a < 100
  · rw [zif_pos hc]; exact h.upA rfl
  · rw [zif_neg hc]; exact h
theorem IX.xcnt {σ : ZSt} (h : IX σ) : ∀ n : Nat, IX (xcnt σ n) := by
  intro n
  induction n with
  | zero => exact h
  | succ n ih =>
    show IX (zif _ _ _)
    by_cases hc : Jvm.Pilot.CExpressionPrinterLaw_law_r3704_c6d7ee.xcnt σ n 30 n = -1
    · rw [zif_pos hc]; exact ih.upA rfl
    · rw [zif_neg hc]; exact ih
theorem IX.xmarks : ∀ (n : Nat) {σ : ZSt}, IX σ → IX (xmarks n σ) := by
  intro n
  induction n with
  | zero => intro σ h; exact h
  | succ n ih =>
    intro σ h
    show IX (Jvm.Pilot.CExpressionPrinterLaw_law_r3704_c6d7ee.xmarks n (zif _ _ _))
    apply ih
    by_cases hc : σ 30 n = -1
    · rw [zif_pos hc]; exact h.xmark.xmark
    · rw [zif_neg hc]; exact h
theorem IX.xprep {σ : ZSt} (h : IX σ) {a z : Int} : IX (xprep σ a z) := by
  unfold Jvm.Pilot.CExpressionPrinterLaw_law_r3704_c6d7ee.xprep
  have h1 : IX (zup σ 29 4 z) := h.upF (by decide)
  by_cases hc : z = 0
  · rw [zif_pos hc]; exact IX.xcnt (IX.xmarks _ h1.xmark) _
  · rw [zif_neg hc]; exact h1
