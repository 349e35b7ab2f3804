/-! ===== the judgement: a frame of a method over the world; what every method's walk knows ===== -/
def znw1 : Cond := .methodLinkNest RX1 40 yX5_isLevel RX5
def znw2 : Cond := .methodLinkNest RX2 85 yX5_isLetter RX5
def ZK (E : ZE) (U : State) : Prop := va_K E.1 zcls (ztys E) U ∧ va_Nw znw1 U ∧ va_Nw znw2 U ∧ ZInj E
theorem ZK.same {E : ZE} {u U : State} (h : ZK E u) (hv : u.vm = U.vm) : ZK E U :=
  ⟨va_K.moved (by rw [hv]; exact Vm.Alike.refl _) h.1, va_Nw.same rfl hv h.2.1, va_Nw.same rfl hv h.2.2.1, h.2.2.2⟩
theorem ZK.warm {E : ZE} {s U : State} (h : ZK E s) (hW : s.WarmedH U.vm) : ZK E U :=
  ⟨va_K.moved hW.alike h.1, va_Nw.warmM hW h.2.1, va_Nw.warmM hW h.2.2.1, h.2.2.2⟩
/-- the locals, by their places; of each only a value of one word is told -/
def zlp : Nat → List (Option Value) → List (Nat × Value)
  | _, [] => []
  | i, none :: r => zlp (i + 1) r
  | i, some v :: r => if v.category = 1 then (i, v) :: zlp (i + 1) r else zlp (i + 1) r
theorem zlp_mem {q : Nat × Value} : ∀ {lv : List (Option Value)} {i : Nat}, q ∈ zlp i lv ↔ ∃ j, q.1 = i + j ∧ lv[j]? = some (some q.2) ∧ q.2.category = 1 := by
  intro lv
  induction lv with
  | nil => intro i; simp [zlp]
  | cons a r ih =>
    intro i
    have key : (∃ j, q.1 = i + j ∧ (a :: r)[j]? = some (some q.2) ∧ q.2.category = 1) ↔ ((q.1 = i ∧ a = some q.2 ∧ q.2.category = 1) ∨ ∃ j, q.1 = (i + 1) + j ∧ r[j]? = some (some q.2) ∧ q.2.category = 1) := by
      constructor
      · rintro ⟨j, h1, h2, h3⟩
        cases j with
        | zero => left; simp at h2; exact ⟨by omega, h2, h3⟩
        | succ j => right; exact ⟨j, by omega, by simpa using h2, h3⟩
      · rintro (⟨h1, h2, h3⟩ | ⟨j, h1, h2, h3⟩)
        · exact ⟨0, by omega, by simp [h2], h3⟩
        · exact ⟨j + 1, by omega, by simpa using h2, h3⟩
    rw [key]
    cases a with
    | none => simp [zlp, ih]
    | some v =>
      simp only [zlp]
      split
      · rename_i hv
        rw [List.mem_cons, ih]
        constructor
        · rintro (h | h)
          · subst h; left; exact ⟨rfl, rfl, hv⟩
          · right; exact h
        · rintro (⟨h1, h2, h3⟩ | h)
          · left
            obtain ⟨q1, q2⟩ := q
            simp at h1 h2
            subst h1; subst h2
            rfl
          · right; exact h
      · rename_i hv
        rw [ih]
        constructor
        · intro h; right; exact h
        · rintro (⟨h1, h2, h3⟩ | h)
          · simp at h2; rw [← h2] at h3; exact absurd h3 hv
          · exact h
theorem zlp_at {ls : Array Slot} {n i : Nat} {lv : List (Option Value)} {v : Value} (hl : lv_has ls n (zlp 0 lv)) (hv : lv[i]? = some (some v)) (hc : v.category = 1) : ls[i]? = some (.val v) :=
  hl.2.2 (i, v) (zlp_mem.mpr ⟨i, by simp, hv, hc⟩)
theorem zlp_store {ls : Array Slot} {n i : Nat} {lv : List (Option Value)} {v : Value} (hl : lv_has ls n ((i, v) :: (zlp 0 lv).filter (fun q => !(q.1 == i) && !(q.1 + 1 == i && q.2.category == 2)))) : lv_has ls n (zlp 0 (lv.set i (some v))) := by
  refine ⟨hl.1, hl.2.1, fun q hq => ?_⟩
  obtain ⟨j, h1, h2, h3⟩ := zlp_mem.mp hq
  have h1' : q.1 = j := by omega
  apply hl.2.2
  rw [List.getElem?_set] at h2
  split at h2
  · rename_i hij
    split at h2
    · simp at h2
      obtain ⟨q1, q2⟩ := q
      simp at h1' h2
      subst h1'; subst hij; subst h2
      exact List.mem_cons_self
    · cases h2
  · rename_i hij
    refine List.mem_cons_of_mem _ (List.mem_filter.mpr ⟨zlp_mem.mpr ⟨j, h1, h2, h3⟩, ?_⟩)
    have : ¬ q.1 = i := by omega
    simp [this, h3]
theorem zlp_args : ∀ {As : List Value} {i n : Nat}, As.all (fun v => v.category == 1) = true → ∀ q ∈ zlp i (As.map some ++ List.replicate n none), q ∈ lv_args i As := by
  intro As
  induction As with
  | nil =>
    intro i n _ q hq
    obtain ⟨j, h1, h2, h3⟩ := zlp_mem.mp hq
    simp [List.getElem?_replicate] at h2
  | cons v r ih =>
    intro i n h q hq
    simp only [List.all_cons, Bool.and_eq_true, beq_iff_eq] at h
    simp only [List.map_cons, List.cons_append, zlp, h.1, if_true] at hq
    simp only [lv_args, h.1]
    rcases List.mem_cons.mp hq with h2 | h2
    · rw [h2]; exact List.mem_cons_self
    · exact List.mem_cons_of_mem _ (ih h.2 q h2)
theorem zlg_len : ∀ {As : List Value}, As.all (fun v => v.category == 1) = true → (lg_sl As).length = As.length := by
  intro As
  induction As with
  | nil => intro _; rfl
  | cons v r ih =>
    intro h
    simp only [List.all_cons, Bool.and_eq_true, beq_iff_eq] at h
    have := ih h.2
    unfold lg_sl at this ⊢
    rw [List.flatMap_cons]
    simp [h.1, this]
/-- what stays the same through a walk -/
abbrev ZT : Type := Program × Launch × Env × Room × State × MethodId × Array Value × List Frame × Method × Code × (Nat → Prop) × (State → Prop) × Nat × Nat × Nat
def ZG (E : ZE) (Γ : ZT) (pc : Nat) (lv : List (Option Value)) (st : List Value) (σ : ZSt) : Prop := match Γ with
  | (p, l, e, R, s, m, args, below, meth, c, A, Q, nL, cells, slots) =>
    ∀ (H : Heap) (locs : List Loc) (ls : Array Slot), va_P E.1 zcls (zworld E σ) H → va_S A s.heap H locs → lv_has ls nL (zlp 0 lv) → W p l e R s m args below meth c H locs cells slots Q (F0 m pc ls st)
def ZC (E : ZE) (Γ : ZT) (h : Nat) (own : String) (cc : ByteArray) : Prop := match Γ with
  | (p, _, _, R, s, m, args, _, _, c, A, _, nL, cells, slots) =>
    p.tables.exec = Jvm.exec ∧ c.code = cc ∧ s.vm.findClass own = some m.cls ∧ c.maxLocals = nL ∧ (∀ w ∈ TB, w.before args s = true) ∧ ZK E s ∧ (∀ k, k < zSH.length → A (E.2.2.2 k)) ∧ (∀ q, s.heap.size ≤ q → A q) ∧ (h ≤ R.frames ∧ 40 * h ≤ R.locals ∧ cells ≤ R.cells ∧ slots ≤ R.slots)
/-- as long as the locals are -/
def ZN (Γ : ZT) (n : Nat) : Prop := match Γ with
  | (_, _, _, _, _, _, _, _, _, _, _, _, nL, _, _) => nL = n
/-- the ends of a method: an int, a boolean, nothing -/
def ZRi (E : ZE) (Γ : ZT) (cc : ByteArray) (P : Int → ZSt → Prop) : Prop := ∀ (pc : Nat) (lv : List (Option Value)) (σ : ZSt) (r : Int), decode cc pc = .ok (.ireturn, 1) → zRg r → zRs σ → P r σ → ZG E Γ pc lv [ziv r] σ
def ZRz (E : ZE) (Γ : ZT) (cc : ByteArray) (P : Int → ZSt → Prop) : Prop := ∀ (pc : Nat) (lv : List (Option Value)) (σ : ZSt) (r : Int), decode cc pc = .ok (.ireturn, 1) → (r = 0 ∨ r = 1) → zRs σ → P r σ → ZG E Γ pc lv [ziv r] σ
def ZRv (E : ZE) (Γ : ZT) (cc : ByteArray) (P : ZSt → Prop) : Prop := ∀ (pc : Nat) (lv : List (Option Value)) (σ : ZSt), decode cc pc = .ok (.return_, 1) → zRs σ → P σ → ZG E Γ pc lv [] σ
def ZA (E : ZE) (sz : Nat) : Nat → Prop := fun q => (∃ k, k < zSH.length ∧ q = E.2.2.2 k) ∨ sz ≤ q
def ZQi (E : ZE) (P : Int → ZSt → Prop) (A : Nat → Prop) : Array Value → State → Outcome → State → Prop := fun _ st oc t => (∃ (r : Int) (σ' : ZSt), oc = .returned (some (ziv r)) ∧ zRg r ∧ zRs σ' ∧ P r σ' ∧ va_P E.1 zcls (zworld E σ') t.heap) ∧ va_F A st t
def ZQv (E : ZE) (P : ZSt → Prop) (A : Nat → Prop) : Array Value → State → Outcome → State → Prop := fun _ st oc t => (∃ (σ' : ZSt), oc = .returned none ∧ zRs σ' ∧ P σ' ∧ va_P E.1 zcls (zworld E σ') t.heap) ∧ va_F A st t
def ZPc (E : ZE) (As : List Value) (σ : ZSt) (sz : Nat) : Array Value → State → Prop := va_Pc As (fun U => U.heap.size = sz ∧ va_P E.1 zcls (zworld E σ) U.heap ∧ ZK E U)
def zroom (h : Nat) : Room := { frames := h, cells := 0, slots := 0, locals := 40 * h }
/-- a method's contract: it returns an int r and the state σ', with P r σ' -/
def ZMi (E : ZE) (h : Nat) (y : MethodName) (cc : ByteArray) (maxL : Nat) (ret : Option FieldType) (As : List Value) (σ : ZSt) (P : Int → ZSt → Prop) : Prop :=
  ∀ (l : Launch) (sz : Nat), Met l y (.code y cc maxL ret :: TB) (zroom h) (ZPc E As σ sz) (ZQi E P (ZA E sz)) 0 0 (ZA E sz)
def ZMv (E : ZE) (h : Nat) (y : MethodName) (cc : ByteArray) (maxL : Nat) (As : List Value) (σ : ZSt) (P : ZSt → Prop) : Prop :=
  ∀ (l : Launch) (sz : Nat), Met l y (.code y cc maxL none :: TB) (zroom h) (ZPc E As σ sz) (ZQv E P (ZA E sz)) 0 0 (ZA E sz)
theorem zblind {E : ZE} {As : List Value} {σ : ZSt} {sz : Nat} : FrameBlind (ZPc E As σ sz) := by
  intro a U g mk h
  obtain ⟨h1, h2, h3, h4⟩ := h
  exact ⟨h1, h2, h3, h4.same rfl⟩
theorem znarZ {r : Int} (h : r = 0 ∨ r = 1) : narrow .boolean (.int (zi r)) = .int (zi r) := by rcases h with rfl | rfl <;> decide
theorem zRg01 {r : Int} (h : r = 0 ∨ r = 1) : zRg r := by rcases h with rfl | rfl <;> exact ⟨by decide, by decide⟩
section INTRO
variable {E : ZE} {h : Nat} {y : MethodName} {cc : ByteArray} {maxL : Nat} {As : List Value} {σ : ZSt}
theorem zentry {p : Program} {l : Launch} {e : Env} {s : State} {m : MethodId} {below : List Frame} {meth : Method} {c : Code} {R : Room} {Q : State → Prop} {A : Nat → Prop} (hcat : As.all (fun v => v.category == 1) = true) (hlen : As.length ≤ maxL) (hP : va_P E.1 zcls (zworld E σ) s.heap)
    (k : ZG E (p, l, e, R, s, m, As.toArray, below, meth, c, A, Q, maxL, 0, 0) 0 (As.map some ++ List.replicate (maxL - As.length) none) [] σ) : W p l e R s m As.toArray below meth c s.heap [] 0 0 Q (entryFrame m As.toArray maxL) := by
  have hl := lv_entry As (n := maxL) (by rw [zlg_len hcat]; exact hlen)
  rw [lg_entry_eq]
  refine k s.heap [] _ hP va_S.rf ⟨hl.1, hl.2.1, fun q hq => hl.2.2 q (zlp_args hcat q hq)⟩
theorem ZMi.intro {P : Int → ZSt → Prop} (hy : plainName y.cls = true) (hcat : As.all (fun v => v.category == 1) = true) (hlen : As.length ≤ maxL)
    (body : ∀ Γ : ZT, ZC E Γ h y.cls cc → ZN Γ maxL → ZRi E Γ cc P → ZG E Γ 0 (As.map some ++ List.replicate (maxL - As.length) none) [] σ) : ZMi E h y cc maxL (some .int) As σ P := by
  intro l sz
  refine Met.ofW (cc := cc) (maxL := maxL) (ret := some .int) hy rfl ?_
  intro p e s m args below meth c s₁ B hml hv
  obtain ⟨rfl, hsz, hP, hK⟩ := hv
  have hx := B.exec
  have hb := B.bytes
  have hr := B.returns
  have hts := atoms_spec (ws := .code y cc maxL (some .int) :: TB) B.pre
  have hown : s.vm.findClass y.cls = some m.cls := findClass_of_methodNamed B.named
  have hlocks := B.notSynchronized
  subst hsz
  refine zentry (A := ZA E s.heap.size) hcat hlen hP (body _ ?_ rfl ?_)
  · unfold ZC
    exact ⟨hx, hb, hown, hml, fun w hw => hts w (List.mem_cons_of_mem _ hw), hK, fun k hk => Or.inl ⟨k, hk, rfl⟩, fun q hq => Or.inr hq, Nat.le_refl _, Nat.le_refl _, Nat.le_refl _, Nat.le_refl _⟩
  intro pc lv σ' r hd hrg hrs hp H locs ls hPH hS hl
  exact W.iret hx hb hr (fun t ht hW => ⟨⟨r, σ', rfl, hrg, hrs, hp, by rw [ht]; exact hPH⟩, hS.F ht⟩) hS.2.2 hd
theorem ZMi.introZ {P : Int → ZSt → Prop} (hy : plainName y.cls = true) (hcat : As.all (fun v => v.category == 1) = true) (hlen : As.length ≤ maxL)
    (body : ∀ Γ : ZT, ZC E Γ h y.cls cc → ZN Γ maxL → ZRz E Γ cc P → ZG E Γ 0 (As.map some ++ List.replicate (maxL - As.length) none) [] σ) : ZMi E h y cc maxL (some .boolean) As σ P := by
  intro l sz
  refine Met.ofW (cc := cc) (maxL := maxL) (ret := some .boolean) hy rfl ?_
  intro p e s m args below meth c s₁ B hml hv
  obtain ⟨rfl, hsz, hP, hK⟩ := hv
  have hx := B.exec
  have hb := B.bytes
  have hr := B.returns
  have hts := atoms_spec (ws := .code y cc maxL (some .boolean) :: TB) B.pre
  have hown : s.vm.findClass y.cls = some m.cls := findClass_of_methodNamed B.named
  have hlocks := B.notSynchronized
  subst hsz
  refine zentry (A := ZA E s.heap.size) hcat hlen hP (body _ ?_ rfl ?_)
  · unfold ZC
    exact ⟨hx, hb, hown, hml, fun w hw => hts w (List.mem_cons_of_mem _ hw), hK, fun k hk => Or.inl ⟨k, hk, rfl⟩, fun q hq => Or.inr hq, Nat.le_refl _, Nat.le_refl _, Nat.le_refl _, Nat.le_refl _⟩
  intro pc lv σ' r hd hrg hrs hp H locs ls hPH hS hl
  exact W.zret hx hb hr (znarZ hrg) (fun t ht hW => ⟨⟨r, σ', rfl, zRg01 hrg, hrs, hp, by rw [ht]; exact hPH⟩, hS.F ht⟩) hS.2.2 hd
theorem ZMv.intro {P : ZSt → Prop} (hy : plainName y.cls = true) (hcat : As.all (fun v => v.category == 1) = true) (hlen : As.length ≤ maxL)
    (body : ∀ Γ : ZT, ZC E Γ h y.cls cc → ZN Γ maxL → ZRv E Γ cc P → ZG E Γ 0 (As.map some ++ List.replicate (maxL - As.length) none) [] σ) : ZMv E h y cc maxL As σ P := by
  intro l sz
  refine Met.ofW (cc := cc) (maxL := maxL) (ret := none) hy rfl ?_
  intro p e s m args below meth c s₁ B hml hv
  obtain ⟨rfl, hsz, hP, hK⟩ := hv
  have hx := B.exec
  have hb := B.bytes
  have hr := B.returns
  have hts := atoms_spec (ws := .code y cc maxL none :: TB) B.pre
  have hown : s.vm.findClass y.cls = some m.cls := findClass_of_methodNamed B.named
  have hlocks := B.notSynchronized
  subst hsz
  refine zentry (A := ZA E s.heap.size) hcat hlen hP (body _ ?_ rfl ?_)
  · unfold ZC
    exact ⟨hx, hb, hown, hml, fun w hw => hts w (List.mem_cons_of_mem _ hw), hK, fun k hk => Or.inl ⟨k, hk, rfl⟩, fun q hq => Or.inr hq, Nat.le_refl _, Nat.le_refl _, Nat.le_refl _, Nat.le_refl _⟩
  intro pc lv σ' hd hrs hp H locs ls hPH hS hl
  exact W.vret hx hb hr (fun t ht hW => ⟨⟨σ', rfl, hrs, hp, by rw [ht]; exact hPH⟩, hS.F ht⟩) hS.2.2 hd
end INTRO
