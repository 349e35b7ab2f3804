/-! ===== one world of all the cells that the law makes: values are whole numbers, a state is a table of them ===== -/
def TB : List Cond := lw_tbl.filter goodWord
theorem tb_of {w : Cond} (h : w ∈ lw_tbl) (hg : goodWord w = true) : w ∈ TB := List.mem_filter.mpr ⟨h, hg⟩
theorem tb_in {w : Cond} (h : w ∈ TB) : w ∈ lw_tbl := (List.mem_filter.mp h).1
theorem tb_good {w : Cond} (h : w ∈ TB) : goodWord w = true := (List.mem_filter.mp h).2
theorem goodIn_tb {big ws : List Cond} (hb : ∀ w ∈ TB, w ∈ big) (hw : ∀ w ∈ ws, w ∈ TB) : GoodIn big ws := fun w h => ⟨hb w (hw w h), good_of_word (tb_good (hw w h))⟩
/-- a state: cell, place, number -/
abbrev ZSt : Type := Nat → Nat → Int
def zRg (a : Int) : Prop := -2147483648 ≤ a ∧ a < 2147483648
def zRs (σ : ZSt) : Prop := ∀ k j, zRg (σ k j)
def zi (a : Int) : Int32 := Int32.ofInt a
def ziv (a : Int) : Value := .int (zi a)
def zup (σ : ZSt) (k j : Nat) (v : Int) : ZSt := fun k' j' => if k' = k ∧ j' = j then v else σ k' j'
theorem zRs.up {σ : ZSt} (h : zRs σ) {v : Int} (hv : zRg v) (k j : Nat) : zRs (zup σ k j v) := by
  intro a b
  unfold zup
  split
  · exact hv
  · exact h a b
theorem zi_toInt {a : Int} (h : zRg a) : (zi a).toInt = a := Int32.toInt_ofInt_of_le h.1 h.2
theorem zi_clamp {a : Int} (h : zRg a) : (zi a).toNatClampNeg = a.toNat := by
  show (zi a).toInt.toNat = a.toNat
  rw [zi_toInt h]
theorem zi_lt {a b : Int} (ha : zRg a) (hb : zRg b) : zi a < zi b ↔ a < b := by rw [Int32.lt_iff_toInt_lt, zi_toInt ha, zi_toInt hb]
theorem zi_le {a b : Int} (ha : zRg a) (hb : zRg b) : zi a ≤ zi b ↔ a ≤ b := by rw [Int32.le_iff_toInt_le, zi_toInt ha, zi_toInt hb]
theorem zi_eq {a b : Int} (ha : zRg a) (hb : zRg b) : zi a = zi b ↔ a = b := by rw [← Int32.toInt_inj, zi_toInt ha, zi_toInt hb]
theorem zi_0 : zi 0 = 0 := rfl
theorem zi_add (a b : Int) : zi a + zi b = zi (a + b) := (Int32.ofInt_add a b).symm
theorem zi_sub (a b : Int) : zi a - zi b = zi (a - b) := (Int32.ofInt_sub a b).symm
theorem zi_mul (a b : Int) : zi a * zi b = zi (a * b) := (Int32.ofInt_mul a b).symm
theorem zi_of (x : Int32) : zi x.toInt = x := Int32.ofInt_toInt x
theorem zRg_of (x : Int32) : zRg x.toInt := ⟨x.le_toInt, x.toInt_lt⟩
theorem zi_in {a : Int} {n : Nat} (h0 : 0 ≤ a) (h1 : a < n) (hn : n < 2147483648) : vp_in (zi a) n := by
  rw [vp_in_iff, zi_toInt ⟨by omega, by omega⟩]
  exact ⟨h0, h1⟩
/-- the shape of the world: arrays (0: of ints, 1: of booleans; how long), objects (class; a field is a cell or a number) -/
abbrev ZSh : Type := List ((Nat × Nat) ⊕ (Nat × List (Option Nat)))
def zSH : ZSh := [
  .inr (5, [some 1, some 7, some 13, some 25, some 29, some 19, some 21, some 23, none, none, none]),
  .inr (1, [some 2, some 3, some 4, some 5, some 6, none]),
  .inl (0, 16), .inl (0, 16), .inl (0, 16), .inl (0, 10), .inl (1, 256),
  .inr (0, [some 8, some 9, some 10, some 11, some 12, none]),
  .inl (0, 120), .inl (0, 120), .inl (0, 120), .inl (0, 120), .inl (0, 120),
  .inr (0, [some 14, some 15, some 16, some 17, some 18, none]),
  .inl (0, 120), .inl (0, 120), .inl (0, 120), .inl (0, 120), .inl (0, 120),
  .inr (3, [some 20, none]), .inl (0, 120),
  .inr (3, [some 22, none]), .inl (0, 120),
  .inr (3, [some 24, none]), .inl (0, 120),
  .inr (2, [some 1, some 13, some 23, some 26, some 27, some 28, none, none, none, none, none, none, none, none]),
  .inl (0, 120), .inl (0, 120), .inl (0, 120),
  .inr (4, [some 1, some 7, some 21, some 30, none]), .inl (0, 100),
  .inr (6, [some 32, some 33, some 34, none, some 35, some 36, some 37, some 38, some 39, some 40, some 41, none, some 42, none, none, some 43, none, none, none, some 44, some 45, some 46, some 47, none, some 48, none, some 49, some 50, some 51, some 52, none, some 53, none, none, none, none, none, none, none, none]),
  .inl (0, 16), .inl (0, 16), .inl (0, 16), .inl (0, 10), .inl (1, 256),
  .inl (0, 100), .inl (0, 100), .inl (0, 100), .inl (0, 100), .inl (0, 100),
  .inl (0, 120), .inl (0, 120), .inl (0, 256), .inl (0, 256), .inl (0, 12100), .inl (0, 1200), .inl (0, 120),
  .inl (0, 130), .inl (0, 130), .inl (0, 130), .inl (0, 130), .inl (0, 700)]
abbrev zcls : List vw_C := [(RX0, TX0, 6), (RX1, TX1, 6), (RX2, TX2, 14), (RX3, TX3, 2), (RX4, TX4, 5), (RX5, TX5, 11), (RX6, TX6, 40)]
/-- where all lies: the classes' numbers, the two array classes, the cells' addresses -/
abbrev ZE : Type := va_G × ClassId × ClassId × (Nat → Nat)
def zrf (E : ZE) (k : Nat) : Value := .ref (E.2.2.2 k)
def ztys (E : ZE) : List (ClassId × FieldType) := [(E.2.1, .int), (E.2.2.1, .boolean)]
def zfv (E : ZE) (σ : ZSt) (k j : Nat) : Option Nat → Value
  | some q => zrf E q
  | none => ziv (σ k j)
def zfs (E : ZE) (σ : ZSt) (k : Nat) : Nat → List (Option Nat) → List Value
  | _, [] => []
  | j, f :: r => zfv E σ k j f :: zfs E σ k (j + 1) r
def zcell (E : ZE) (σ : ZSt) (k : Nat) : (Nat × Nat) ⊕ (Nat × List (Option Nat)) → va_E
  | .inl (t, n) => .inl (if t = 0 then E.2.1 else E.2.2.1, n, .inl (fun j => zi (σ k j)))
  | .inr (ci, fs) => .inr (ci, zfs E σ k 0 fs)
def zws (E : ZE) (σ : ZSt) : Nat → ZSh → va_W
  | _, [] => []
  | k, x :: r => (E.2.2.2 k, zcell E σ k x) :: zws E σ (k + 1) r
def zworld (E : ZE) (σ : ZSt) : va_W := zws E σ 0 zSH
theorem zfs_get {E : ZE} {σ : ZSt} {k : Nat} {f : Option Nat} : ∀ {fs : List (Option Nat)} {i j : Nat}, fs[j]? = some f → (zfs E σ k i fs)[j]? = some (zfv E σ k (i + j) f) := by
  intro fs
  induction fs with
  | nil => intro i j h; simp at h
  | cons a r ih =>
    intro i j h
    cases j with
    | zero => simp at h; subst h; simp [zfs]
    | succ j =>
      have h2 : r[j]? = some f := by simpa using h
      have := ih (i := i + 1) h2
      simp only [zfs, List.getElem?_cons_succ]
      rw [this]
      congr 2
      omega
theorem zfs_len {E : ZE} {σ : ZSt} {k : Nat} : ∀ {fs : List (Option Nat)} {i : Nat}, (zfs E σ k i fs).length = fs.length := by
  intro fs
  induction fs with
  | nil => intro i; rfl
  | cons a r ih => intro i; simp [zfs, ih]
theorem zfs_other {E : ZE} {σ σ' : ZSt} {k : Nat} : ∀ {fs : List (Option Nat)} {i : Nat}, (∀ j, i ≤ j → σ' k j = σ k j) → zfs E σ' k i fs = zfs E σ k i fs := by
  intro fs
  induction fs with
  | nil => intro i h; rfl
  | cons a r ih =>
    intro i h
    simp only [zfs]
    rw [ih (fun j hj => h j (by omega))]
    congr 1
    cases a with
    | some q => rfl
    | none => simp only [zfv]; rw [h i (Nat.le_refl i)]
theorem zfs_set {E : ZE} {σ : ZSt} {k : Nat} {v : Int} : ∀ {fs : List (Option Nat)} {i j : Nat}, fs[j]? = some none → (zfs E σ k i fs).set j (ziv v) = zfs E (zup σ k (i + j) v) k i fs := by
  intro fs
  induction fs with
  | nil => intro i j h; simp at h
  | cons a r ih =>
    intro i j h
    cases j with
    | zero =>
      simp at h
      subst h
      simp only [zfs, List.set_cons_zero]
      congr 1
      · simp [zfv, zup]
      · exact (zfs_other (fun j hj => by simp [zup]; omega)).symm
    | succ j =>
      have h2 : r[j]? = some none := by simpa using h
      simp only [zfs, List.set_cons_succ]
      rw [ih h2]
      have e : i + 1 + j = i + (j + 1) := by omega
      rw [e]
      congr 1
      cases a with
      | some q => rfl
      | none =>
        simp only [zfv, zup]
        rw [if_neg (by omega)]
theorem zws_get {E : ZE} {σ : ZSt} {x : (Nat × Nat) ⊕ (Nat × List (Option Nat))} : ∀ {sh : ZSh} {i k : Nat}, sh[k]? = some x → (zws E σ i sh)[k]? = some (E.2.2.2 (i + k), zcell E σ (i + k) x) := by
  intro sh
  induction sh with
  | nil => intro i k h; simp at h
  | cons a r ih =>
    intro i k h
    cases k with
    | zero => simp at h; subst h; simp [zws]
    | succ k =>
      have h2 : r[k]? = some x := by simpa using h
      simp only [zws, List.getElem?_cons_succ]
      rw [ih h2]
      have e : i + 1 + k = i + (k + 1) := by omega
      rw [e]
theorem zws_len {E : ZE} {σ : ZSt} : ∀ {sh : ZSh} {i : Nat}, (zws E σ i sh).length = sh.length := by
  intro sh
  induction sh with
  | nil => intro i; rfl
  | cons a r ih => intro i; simp [zws, ih]
theorem zcell_other {E : ZE} {σ σ' : ZSt} {k : Nat} (h : ∀ j, σ' k j = σ k j) (x : (Nat × Nat) ⊕ (Nat × List (Option Nat))) : zcell E σ' k x = zcell E σ k x := by
  cases x with
  | inl a => obtain ⟨t, n⟩ := a; simp only [zcell, h]
  | inr o => obtain ⟨ci, fs⟩ := o; simp only [zcell]; rw [zfs_other (fun j _ => h j)]
theorem zws_other {E : ZE} {σ σ' : ZSt} : ∀ {sh : ZSh} {i : Nat}, (∀ k j, i ≤ k → σ' k j = σ k j) → zws E σ' i sh = zws E σ i sh := by
  intro sh
  induction sh with
  | nil => intro i h; rfl
  | cons a r ih =>
    intro i h
    simp only [zws]
    rw [ih (fun k j hk => h k j (by omega)), zcell_other (fun j => h i j (Nat.le_refl i))]
theorem zws_set {E : ZE} {σ : ZSt} {j : Nat} {v : Int} {x : (Nat × Nat) ⊕ (Nat × List (Option Nat))} : ∀ {sh : ZSh} {i k : Nat}, sh[k]? = some x → (zws E σ i sh).set k (E.2.2.2 (i + k), zcell E (zup σ (i + k) j v) (i + k) x) = zws E (zup σ (i + k) j v) i sh := by
  intro sh
  induction sh with
  | nil => intro i k h; simp at h
  | cons a r ih =>
    intro i k h
    cases k with
    | zero =>
      simp at h
      subst h
      simp only [zws, List.set_cons_zero, Nat.add_zero]
      congr 1
      exact (zws_other (fun k' j' hk => by simp only [zup]; rw [if_neg (by omega)])).symm
    | succ k =>
      have h2 : r[k]? = some x := by simpa using h
      have e : i + 1 + k = i + (k + 1) := by omega
      have := ih (i := i + 1) h2
      rw [e] at this
      simp only [zws, List.set_cons_succ]
      rw [this]
      congr 2
      exact (zcell_other (fun j' => by simp only [zup]; rw [if_neg (by omega)]) a).symm
theorem zw_get {E : ZE} {σ : ZSt} {x : (Nat × Nat) ⊕ (Nat × List (Option Nat))} {k : Nat} (h : zSH[k]? = some x) : (zworld E σ)[k]? = some (E.2.2.2 k, zcell E σ k x) := by
  have := zws_get (E := E) (σ := σ) (i := 0) h
  simpa [zworld] using this
theorem zw_set {E : ZE} {σ : ZSt} {j : Nat} {v : Int} {x : (Nat × Nat) ⊕ (Nat × List (Option Nat))} {k : Nat} (h : zSH[k]? = some x) : (zworld E σ).set k (E.2.2.2 k, zcell E (zup σ k j v) k x) = zworld E (zup σ k j v) := by
  have := zws_set (E := E) (σ := σ) (j := j) (v := v) (i := 0) h
  simpa [zworld] using this
theorem zw_addr {E : ZE} {σ : ZSt} {k : Nat} {q : Nat × va_E} (h : (zworld E σ)[k]? = some q) : k < zSH.length ∧ q.1 = E.2.2.2 k := by
  have hl : k < zSH.length := by
    have := (List.getElem?_eq_some_iff.mp h).1
    rwa [zworld, zws_len] at this
  refine ⟨hl, ?_⟩
  have := zw_get (E := E) (σ := σ) (List.getElem?_eq_getElem hl)
  rw [h] at this
  cases this
  rfl
def ZInj (E : ZE) : Prop := ∀ i j : Nat, i < zSH.length → j < zSH.length → E.2.2.2 i = E.2.2.2 j → i = j
theorem zD {E : ZE} {A : Nat → Prop} (hi : ZInj E) (hA : ∀ k, k < zSH.length → A (E.2.2.2 k)) (σ : ZSt) : va_D A (zworld E σ) := by
  refine ⟨fun i j p q hp hq he => ?_, fun k q hk => ?_⟩
  · obtain ⟨h1, h2⟩ := zw_addr hp
    obtain ⟨h3, h4⟩ := zw_addr hq
    exact hi i j h1 h3 (by rw [← h2, ← h4]; exact he)
  · obtain ⟨h1, h2⟩ := zw_addr hk
    rw [h2]
    exact hA k h1
