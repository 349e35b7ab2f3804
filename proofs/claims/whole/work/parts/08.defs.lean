/-! ===== the class, read as functions of the state ===== -/
theorem zup_row {σ : ZSt} {k k' j : Nat} {v : Int} (h : k' ≠ k) : zup σ k j v k' = σ k' := funext (fun _ => zup_cell h)
def zget (n : Int) (f : Nat → Int) (a df : Int) : Int := if 0 ≤ a ∧ a < n then f a.toNat else df
theorem zget_in {n : Int} {f : Nat → Int} {a df : Int} (h : 0 ≤ a ∧ a < n) : zget n f a df = f a.toNat := if_pos h
theorem zget_out {n : Int} {f : Nat → Int} {a df : Int} (h : ¬ (0 ≤ a ∧ a < n)) : zget n f a df = df := if_neg h
/-- the first place, from i on and n places far, with a symbol of a kind (b = 1: a prefix); -1: none -/
def zfnd (sym kind : Nat → Int) (s b : Int) : Nat → Nat → Int
  | _, 0 => -1
  | i, n + 1 => if sym i = s ∧ (if kind i = 1 then (1 : Int) else 0) = b then (i : Int) else zfnd sym kind s b (i + 1) n
/-- the bounds that the class's rows keep: how many operators, nodes, nodes read, signs, frames; the levels -/
def IX (σ : ZSt) : Prop := (0 ≤ σ 1 5 ∧ σ 1 5 ≤ 16) ∧ (0 ≤ σ 7 5 ∧ σ 7 5 ≤ 120) ∧ (0 ≤ σ 13 5 ∧ σ 13 5 ≤ 120) ∧ (0 ≤ σ 19 1 ∧ σ 19 1 ≤ 120) ∧ (0 ≤ σ 21 1 ∧ σ 21 1 ≤ 120) ∧ (0 ≤ σ 23 1 ∧ σ 23 1 ≤ 120) ∧ (0 ≤ σ 25 6 ∧ σ 25 6 ≤ 120) ∧ ∀ i, 0 ≤ σ 4 i ∧ σ 4 i ≤ 9
theorem IX.nt {σ : ZSt} (h : IX σ) {k : Nat} (hk : k = 7 ∨ k = 13) : 0 ≤ σ k 5 ∧ σ k 5 ≤ 120 := by
  obtain ⟨h1, h2, h3, h4⟩ := h
  rcases hk with rfl | rfl
  · exact h2
  · exact h3
theorem IX.tx {σ : ZSt} (h : IX σ) {k : Nat} (hk : k = 19 ∨ k = 21 ∨ k = 23) : 0 ≤ σ k 1 ∧ σ k 1 ≤ 120 := by
  obtain ⟨h1, h2, h3, h4, h5, h6, h7⟩ := h
  rcases hk with rfl | rfl | rfl
  · exact h4
  · exact h5
  · exact h6
theorem IX.lev {σ : ZSt} (h : IX σ) (i : Nat) : 0 ≤ σ 4 i ∧ σ 4 i ≤ 9 := h.2.2.2.2.2.2.2 i
theorem IX.ops {σ : ZSt} (h : IX σ) : 0 ≤ σ 1 5 ∧ σ 1 5 ≤ 16 := h.1
theorem IX.frm {σ : ZSt} (h : IX σ) : 0 ≤ σ 25 6 ∧ σ 25 6 ≤ 120 := h.2.2.2.2.2.2.1
/-- a write elsewhere -/
def zfree (k j : Nat) : Bool := !((k == 1 && j == 5) || (k == 7 && j == 5) || (k == 13 && j == 5) || (k == 19 && j == 1) || (k == 21 && j == 1) || (k == 23 && j == 1) || (k == 25 && j == 6) || k == 4)
theorem IX.of {σ τ : ZSt} (h : IX σ) (h1 : τ 1 5 = σ 1 5) (h2 : τ 7 5 = σ 7 5) (h3 : τ 13 5 = σ 13 5) (h4 : τ 19 1 = σ 19 1) (h5 : τ 21 1 = σ 21 1) (h6 : τ 23 1 = σ 23 1) (h7 : τ 25 6 = σ 25 6) (h8 : ∀ i, τ 4 i = σ 4 i) : IX τ := by
  unfold IX at h ⊢
  rw [h1, h2, h3, h4, h5, h6, h7]
  simp only [h8]
  exact h
theorem IX.upF {σ : ZSt} (h : IX σ) {k j : Nat} {v : Int} (hf : zfree k j = true) : IX (zup σ k j v) := by
  simp only [zfree, Bool.not_eq_true', Bool.or_eq_false_iff, Bool.and_eq_false_iff, beq_eq_false_iff_ne] at hf
  refine h.of ?_ ?_ ?_ ?_ ?_ ?_ ?_ (fun i => ?_) <;> (unfold zup; rw [if_neg (by omega)])
theorem IX.upA {σ : ZSt} (h : IX σ) {k j : Nat} {v : Int} (hf : (k == 1 || k == 4 || k == 7 || k == 13 || k == 19 || k == 21 || k == 23 || k == 25) = false) : IX (zup σ k j v) := by
  simp only [Bool.or_eq_false_iff, beq_eq_false_iff_ne] at hf
  refine h.of ?_ ?_ ?_ ?_ ?_ ?_ ?_ (fun i => ?_) <;> (unfold zup; rw [if_neg (by omega)])
theorem IX.upNTa {σ : ZSt} (h : IX σ) {k d j : Nat} {v : Int} (hk : k = 7 ∨ k = 13) (hd : 1 ≤ d ∧ d ≤ 5) : IX (zup σ (k + d) j v) := by
  refine h.of ?_ ?_ ?_ ?_ ?_ ?_ ?_ (fun i => ?_) <;> (unfold zup; rw [if_neg (by omega)])
theorem IX.upTXa {σ : ZSt} (h : IX σ) {k j : Nat} {v : Int} (hk : k = 19 ∨ k = 21 ∨ k = 23) : IX (zup σ (k + 1) j v) := by
  refine h.of ?_ ?_ ?_ ?_ ?_ ?_ ?_ (fun i => ?_) <;> (unfold zup; rw [if_neg (by omega)])
theorem IX.upNT {σ : ZSt} (h : IX σ) {k : Nat} {v : Int} (hk : k = 7 ∨ k = 13) (hv : 0 ≤ v ∧ v ≤ 120) : IX (zup σ k 5 v) := by
  obtain ⟨h1, h2, h3, h4, h5, h6, h7, h8⟩ := h
  rcases hk with rfl | rfl
  · exact ⟨h1, hv, h3, h4, h5, h6, h7, h8⟩
  · exact ⟨h1, h2, hv, h4, h5, h6, h7, h8⟩
theorem IX.upTX {σ : ZSt} (h : IX σ) {k : Nat} {v : Int} (hk : k = 19 ∨ k = 21 ∨ k = 23) (hv : 0 ≤ v ∧ v ≤ 120) : IX (zup σ k 1 v) := by
  obtain ⟨h1, h2, h3, h4, h5, h6, h7, h8⟩ := h
  rcases hk with rfl | rfl | rfl
  · exact ⟨h1, h2, h3, hv, h5, h6, h7, h8⟩
  · exact ⟨h1, h2, h3, h4, hv, h6, h7, h8⟩
  · exact ⟨h1, h2, h3, h4, h5, hv, h7, h8⟩
theorem IX.up15 {σ : ZSt} (h : IX σ) {v : Int} (hv : 0 ≤ v ∧ v ≤ 16) : IX (zup σ 1 5 v) := by
  obtain ⟨h1, h2, h3, h4, h5, h6, h7, h8⟩ := h
  exact ⟨hv, h2, h3, h4, h5, h6, h7, h8⟩
theorem IX.upfr {σ : ZSt} (h : IX σ) {v : Int} (hv : 0 ≤ v ∧ v ≤ 120) : IX (zup σ 25 6 v) := by
  obtain ⟨h1, h2, h3, h4, h5, h6, h7, h8⟩ := h
  exact ⟨h1, h2, h3, h4, h5, h6, hv, h8⟩
theorem IX.up4 {σ : ZSt} (h : IX σ) {j : Nat} {v : Int} (hv : 0 ≤ v ∧ v ≤ 9) : IX (zup σ 4 j v) := by
  obtain ⟨h1, h2, h3, h4, h5, h6, h7, h8⟩ := h
  refine ⟨h1, h2, h3, h4, h5, h6, h7, fun i => ?_⟩
  by_cases hi : i = j
  · rw [hi, zup_same]; exact hv
  · rw [zup_place hi]; exact h8 i
-- the operators
def xasc (σ : ZSt) (a : Int) : Int := if 1 ≤ a ∧ a ≤ 9 then σ 5 a.toNat else 0
def xsym (σ : ZSt) (a : Int) : Int := zget (σ 1 5) (σ 2) a (-1)
def xkind (σ : ZSt) (a : Int) : Int := zget (σ 1 5) (σ 3) a (-1)
def xlev (σ : ZSt) (a : Int) : Int := zget (σ 1 5) (σ 4) a 0
def xfind (σ : ZSt) (a b : Int) : Int := zfnd (σ 2) (σ 3) a b 0 (σ 1 5).toNat
def xfb (σ : ZSt) (o i : Int) : Prop := (0 ≤ o ∧ o < σ 1 5) ∧ (0 ≤ i ∧ i < σ 1 5) ∧ σ 6 (o * 16 + i).toNat ≠ 0
def xna (σ : ZSt) (o l : Int) : Prop := xkind σ o = 0 ∧ xkind σ l = 0 ∧ xlev σ l = xlev σ o ∧ xasc σ (xlev σ o) = 2
def xmin (σ : ZSt) (o : Int) : Int := if 0 ≤ o ∧ o < σ 1 5 then (if σ 3 o.toNat = 0 ∧ ¬ ((1 ≤ σ 4 o.toNat ∧ σ 4 o.toNat ≤ 9) ∧ σ 5 (σ 4 o.toNat).toNat = 1) then σ 4 o.toNat + 1 else σ 4 o.toNat) else 0
def xopadd (σ : ZSt) (a b c : Int) : ZSt := if 16 ≤ σ 1 5 then σ else zup (zup (zup (zup σ 2 (σ 1 5).toNat a) 3 (σ 1 5).toNat b) 4 (σ 1 5).toNat c) 1 5 (σ 1 5 + 1)
-- the nodes of a table k
def xnop (σ : ZSt) (k : Nat) (a : Int) : Int := zget (σ k 5) (σ (k + 1)) a (-1)
def xnlet (σ : ZSt) (k : Nat) (a : Int) : Int := zget (σ k 5) (σ (k + 2)) a (-1)
def xnbef (σ : ZSt) (k : Nat) (a : Int) : Int := zget (σ k 5) (σ (k + 3)) a (-1)
def xnaft (σ : ZSt) (k : Nat) (a : Int) : Int := zget (σ k 5) (σ (k + 4)) a (-1)
def xnsz (σ : ZSt) (k : Nat) (a : Int) : Int := zget (σ k 5) (σ (k + 5)) a 0
def zw (v : Int) : Int := (zi v).toInt
theorem zw_rg (v : Int) : zRg (zw v) := zRg_of _
theorem zw_id {v : Int} (h : zRg v) : zw v = v := zi_toInt h
theorem zw_iv (v : Int) : ziv (zw v) = ziv v := by unfold ziv zw; rw [zi_of]
def xnadd (σ : ZSt) (k : Nat) (o l b a : Int) : ZSt := if 120 ≤ σ k 5 then σ else
  zup (zup (zup (zup (zup (zup σ (k + 1) (σ k 5).toNat o) (k + 2) (σ k 5).toNat l) (k + 3) (σ k 5).toNat b) (k + 4) (σ k 5).toNat a) (k + 5) (σ k 5).toNat (zw (1 + xnsz σ k b + xnsz σ k a))) k 5 (σ k 5 + 1)
def xnaddr (σ : ZSt) (k : Nat) : Int := if 120 ≤ σ k 5 then -1 else σ k 5
def xshift (a b : Int) : Int := if a = -1 then -1 else a + b
-- texts
def xat (σ : ZSt) (k : Nat) (a : Int) : Int := zget (σ k 1) (σ (k + 1)) a (-1)
def xput (σ : ZSt) (k : Nat) (a : Int) : ZSt := if 120 ≤ σ k 1 then σ else zup (zup σ (k + 1) (σ k 1).toNat a) k 1 (σ k 1 + 1)
-- further rows: a read that is told otherwise, a write of a number out of range
section MORE
variable {E : ZE} {Γ : ZT} {h : Nat} {own : String} {cc : ByteArray} {pc : Nat} {lv : List (Option Value)} {st : List Value} {σ : ZSt}
theorem z_getIe (C : ZC E Γ h own cc) {index ci j k : Nat} {fin : Bool} {ty : FieldType} {fs : List (Option Nat)} {v : Int} (f : ZF own index ci j fin ty) (hs : zSH[k]? = some (.inr (ci, fs))) (hf : fs[j]? = some none) (hd : decode cc pc = .ok (.getfield index, 3)) (hv : σ k j = v) (kk : ZG E Γ (pc + 3) lv (ziv v :: st) σ) : ZG E Γ pc lv (zrf E k :: st) σ := z_getI C f hs hf hd (by rw [hv]; exact kk)
theorem z_ialde (C : ZC E Γ h own cc) {k n : Nat} {i v : Int} (hs : zSH[k]? = some (.inl (0, n))) (h0 : 0 ≤ i) (h1 : i < n) (hd : decode cc pc = .ok (.iaload, 1)) (hv : σ k i.toNat = v) (kk : ZG E Γ (pc + 1) lv (ziv v :: st) σ) : ZG E Γ pc lv (ziv i :: zrf E k :: st) σ := z_iald C hs h0 h1 hd (by rw [hv]; exact kk)
theorem z_zalde (C : ZC E Γ h own cc) {k n : Nat} {i v : Int} (hs : zSH[k]? = some (.inl (1, n))) (h0 : 0 ≤ i) (h1 : i < n) (hd : decode cc pc = .ok (.baload, 1)) (hv : σ k i.toNat = v) (kk : ZG E Γ (pc + 1) lv (ziv v :: st) σ) : ZG E Γ pc lv (ziv i :: zrf E k :: st) σ := z_zald C hs h0 h1 hd (by rw [hv]; exact kk)
theorem z_iastW (C : ZC E Γ h own cc) (hR : zRs σ) {k n : Nat} {i v : Int} (hs : zSH[k]? = some (.inl (0, n))) (h0 : 0 ≤ i) (h1 : i < n) (hd : decode cc pc = .ok (.iastore, 1)) (kk : ∀ σ1 : ZSt, σ1 = zup σ k i.toNat (zw v) → zRs σ1 → ZG E Γ (pc + 1) lv st σ1) : ZG E Γ pc lv (ziv v :: ziv i :: zrf E k :: st) σ := by
  rw [← zw_iv v]
  exact z_iast C hR hs h0 h1 (zw_rg v) hd kk
end MORE
