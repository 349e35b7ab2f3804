/-! ===== constructors: rows over a world that grows ===== -/
def knw9 : Cond := .methodLinkNest RX5 9 yX1_init RX5
def knw18 : Cond := .methodLinkNest RX5 18 yX0_init RX5
def knw28 : Cond := .methodLinkNest RX5 28 yX3_init RX5
abbrev KD : Type := va_G × ClassId × ClassId
def ktys (D : KD) : List (ClassId × FieldType) := [(D.2.1, .int), (D.2.2, .boolean)]
def KZ (D : KD) (U : State) : Prop := va_K D.1 zcls (ktys D) U ∧ va_Nw knw9 U ∧ va_Nw knw18 U ∧ va_Nw knw28 U
theorem KZ.same {D : KD} {u U : State} (h : KZ D u) (hv : u.vm = U.vm) : KZ D U :=
  ⟨va_K.moved (by rw [hv]; exact Vm.Alike.refl _) h.1, va_Nw.same rfl hv h.2.1, va_Nw.same rfl hv h.2.2.1, va_Nw.same rfl hv h.2.2.2⟩
theorem KZ.warm {D : KD} {s U : State} (h : KZ D s) (hW : s.WarmedH U.vm) : KZ D U :=
  ⟨va_K.moved hW.alike h.1, va_Nw.warmM hW h.2.1, va_Nw.warmM hW h.2.2.1, va_Nw.warmM hW h.2.2.2⟩
abbrev KT : Type := Program × Launch × Env × Room × State × MethodId × Array Value × List Frame × Method × Code × (Nat → Prop) × (State → Prop) × Nat
def KG (D : KD) (Γ : KT) (cn sn pc : Nat) (lv : List (Option Value)) (st : List Value) (ws : va_W) : Prop := match Γ with
  | (p, l, e, R, s, m, args, below, meth, c, A, Q, nL) =>
    ∀ (H : Heap) (locs : List Loc) (ls : Array Slot), va_P D.1 zcls ws H → va_D A ws → va_S A s.heap H locs → lv_has ls nL (zlp 0 lv) → W p l e R s m args below meth c H locs cn sn Q (F0 m pc ls st)
def KC (D : KD) (Γ : KT) (rm : Room) (own : String) (cc : ByteArray) : Prop := match Γ with
  | (p, _, _, R, s, m, args, _, _, c, A, _, nL) =>
    p.tables.exec = Jvm.exec ∧ c.code = cc ∧ s.vm.findClass own = some m.cls ∧ c.maxLocals = nL ∧ (∀ w ∈ TB, w.before args s = true) ∧ KZ D s ∧ (∀ q, s.heap.size ≤ q → A q) ∧ (rm.frames ≤ R.frames ∧ rm.locals ≤ R.locals ∧ rm.cells ≤ R.cells ∧ rm.slots ≤ R.slots)
def KI (Γ : KT) : Prop := match Γ with
  | (_, _, _, _, _, _, _, _, meth, _, _, _, _) => meth.name = "<init>"
def KN (Γ : KT) (n : Nat) : Prop := match Γ with
  | (_, _, _, _, _, _, _, _, _, _, _, _, nL) => nL = n
def kPc (D : KD) (As : List Value) (w0 : va_W) (sz : Nat) : Array Value → State → Prop := va_Pc As (fun U => U.heap.size = sz ∧ va_P D.1 zcls w0 U.heap ∧ va_D (fun _ => True) w0 ∧ KZ D U)
def kB (D : KD) (w0 : va_W) (B : (Nat → Nat) → va_W) (sz : Nat) (u : Nat → Nat) (t : State) : Prop := va_P D.1 zcls (B u) t.heap ∧ va_D (va_A w0 sz) (B u)
/-- a constructor's contract: from the world w0 to the world B u, u telling where the new cells lie -/
def KM (D : KD) (rm : Room) (y : MethodName) (cc : ByteArray) (maxL : Nat) (As : List Value) (w0 : va_W) (B : (Nat → Nat) → va_W) : Prop :=
  ∀ (l : Launch) (sz : Nat), Met l y (.code y cc maxL none :: TB) rm (kPc D As w0 sz) (va_Qv (fun _ : Nat → Nat => True) (kB D w0 B sz) (va_A w0 sz)) rm.cells rm.slots (va_A w0 sz)
theorem kblind {D : KD} {As : List Value} {w0 : va_W} {sz : Nat} : FrameBlind (kPc D As w0 sz) := by
  intro a U g mk h
  obtain ⟨h1, h2, h3, h4, h5⟩ := h
  exact ⟨h1, h2, h3, h4, h5.same rfl⟩
def KR (D : KD) (Γ : KT) (cc : ByteArray) (rm : Room) (B : (Nat → Nat) → va_W) : Prop := ∀ (pc : Nat) (lv : List (Option Value)) (u : Nat → Nat), decode cc pc = .ok (.return_, 1) → KG D Γ rm.cells rm.slots pc lv [] (B u)
section KINTRO
variable {D : KD} {y : MethodName} {cc : ByteArray} {maxL : Nat} {As : List Value} {w0 : va_W} {rm : Room} {B : (Nat → Nat) → va_W}
theorem kentry {p : Program} {l : Launch} {e : Env} {s : State} {m : MethodId} {below : List Frame} {meth : Method} {c : Code} {R : Room} {Q : State → Prop} {A : Nat → Prop} (hcat : As.all (fun v => v.category == 1) = true) (hlen : As.length ≤ maxL) (hP : va_P D.1 zcls w0 s.heap) (hD : va_D A w0)
    (k : KG D (p, l, e, R, s, m, As.toArray, below, meth, c, A, Q, maxL) 0 0 0 (As.map some ++ List.replicate (maxL - As.length) none) [] w0) : W p l e R s m As.toArray below meth c s.heap [] 0 0 Q (entryFrame m As.toArray maxL) := by
  have hl := lv_entry As (n := maxL) (by rw [zlg_len hcat]; exact hlen)
  rw [lg_entry_eq]
  refine k s.heap [] _ hP hD va_S.rf ⟨hl.1, hl.2.1, fun q hq => hl.2.2 q (zlp_args hcat q hq)⟩
theorem KM.intro (hy : plainName y.cls = true) (hname : y.name = "<init>") (hcat : As.all (fun v => v.category == 1) = true) (hlen : As.length ≤ maxL)
    (body : ∀ Γ : KT, KC D Γ rm y.cls cc → KI Γ → KR D Γ cc rm B → KG D Γ 0 0 0 (As.map some ++ List.replicate (maxL - As.length) none) [] w0) : KM D rm y cc maxL As w0 B := by
  intro l sz
  refine Met.ofW (cc := cc) (maxL := maxL) (ret := none) hy rfl ?_
  intro p e s m args below meth c s₁ B0 hml hv
  obtain ⟨rfl, hsz, hP, hD0, hK⟩ := hv
  have hx := B0.exec
  have hb := B0.bytes
  have hr := B0.returns
  have hts := atoms_spec (ws := .code y cc maxL none :: TB) B0.pre
  have hown : s.vm.findClass y.cls = some m.cls := findClass_of_methodNamed B0.named
  have hlocks := B0.notSynchronized
  have hin : meth.name = "<init>" := ((name_of_methodNamed B0.named B0.method).1).trans hname
  subst hsz
  refine kentry (A := va_A w0 s.heap.size) hcat hlen hP (hD0.self (sz := s.heap.size)) (body _ ?_ hin ?_)
  · unfold KC
    exact ⟨hx, hb, hown, hml, fun w hw => hts w (List.mem_cons_of_mem _ hw), hK, fun q hq => Or.inr hq, Nat.le_refl _, Nat.le_refl _, Nat.le_refl _, Nat.le_refl _⟩
  intro pc lv u hd H locs ls hPH hDH hS hl
  exact W.vret hx hb hr (fun t ht hW => ⟨⟨u, rfl, trivial, by rw [ht]; exact hPH, hDH⟩, hS.F ht⟩) hS.2.2 hd
end KINTRO
section KROWS
variable {D : KD} {Γ : KT} {rm : Room} {own : String} {cc : ByteArray} {cn sn pc : Nat} {lv : List (Option Value)} {st : List Value} {ws : va_W}
theorem k_aload_n (C : KC D Γ rm own cc) {k : Fin 4} {i q : Nat} (hd : decode cc pc = .ok (.aload_n k, 1)) (hi : (k : Nat) = i) (hv : lv[i]? = some (some (.ref q))) (kk : KG D Γ cn sn (pc + 1) lv (.ref q :: st) ws) : KG D Γ cn sn pc lv st ws := by
  obtain ⟨p, l, e, R, s, m, args, below, meth, c, A, Q, nL⟩ := Γ
  obtain ⟨hx, hb, -⟩ := C
  intro H locs ls hP hD hS hl
  exact lv_aload_n hx hb hd hi (zlp_at hl hv rfl) (kk H locs ls hP hD hS hl)
theorem k_iconst (C : KC D Γ rm own cc) {n : Int} (hd : decode cc pc = .ok (.iconst n, 1)) (kk : KG D Γ cn sn (pc + 1) lv (ziv n :: st) ws) : KG D Γ cn sn pc lv st ws := by
  obtain ⟨p, l, e, R, s, m, args, below, meth, c, A, Q, nL⟩ := Γ
  obtain ⟨hx, hb, -⟩ := C
  intro H locs ls hP hD hS hl
  exact lv_iconst hx hb hd rfl (kk H locs ls hP hD hS hl)
theorem k_bipush (C : KC D Γ rm own cc) {n : Int} (hd : decode cc pc = .ok (.bipush n, 2)) (hv : (Int8.ofInt n).toInt32 = zi n) (kk : KG D Γ cn sn (pc + 2) lv (ziv n :: st) ws) : KG D Γ cn sn pc lv st ws := by
  obtain ⟨p, l, e, R, s, m, args, below, meth, c, A, Q, nL⟩ := Γ
  obtain ⟨hx, hb, -⟩ := C
  intro H locs ls hP hD hS hl
  exact lv_bipush hx hb hd hv (kk H locs ls hP hD hS hl)
theorem k_sipush (C : KC D Γ rm own cc) {n : Int} (hd : decode cc pc = .ok (.sipush n, 3)) (hv : (Int16.ofInt n).toInt32 = zi n) (kk : KG D Γ cn sn (pc + 3) lv (ziv n :: st) ws) : KG D Γ cn sn pc lv st ws := by
  obtain ⟨p, l, e, R, s, m, args, below, meth, c, A, Q, nL⟩ := Γ
  obtain ⟨hx, hb, -⟩ := C
  intro H locs ls hP hD hS hl
  exact lv_sipush hx hb hd hv (kk H locs ls hP hD hS hl)
theorem k_dup (C : KC D Γ rm own cc) {v : Value} (hd : decode cc pc = .ok (.dup, 1)) (hv : v.category = 1) (kk : KG D Γ cn sn (pc + 1) lv (v :: v :: st) ws) : KG D Γ cn sn pc lv (v :: st) ws := by
  obtain ⟨p, l, e, R, s, m, args, below, meth, c, A, Q, nL⟩ := Γ
  obtain ⟨hx, hb, -⟩ := C
  intro H locs ls hP hD hS hl
  exact lv_dup hx hb hd hv (kk H locs ls hP hD hS hl)
theorem k_astore_n (C : KC D Γ rm own cc) {k : Fin 4} {i q n : Nat} {lv' : List (Option Value)} (hN : KN Γ n) (hd : decode cc pc = .ok (.astore_n k, 1)) (hi : (k : Nat) = i) (hn : i < n) (hlv : lv.set i (some (.ref q)) = lv') (kk : KG D Γ cn sn (pc + 1) lv' st ws) : KG D Γ cn sn pc lv (.ref q :: st) ws := by
  obtain ⟨p, l, e, R, s, m, args, below, meth, c, A, Q, nL⟩ := Γ
  obtain ⟨hx, hb, -⟩ := C
  cases hN
  subst hlv
  intro H locs ls hP hD hS hl
  exact lv_astore_n hx hb hd hi hl hn rfl (fun ls' hl' => kk H locs ls' hP hD hS (zlp_store hl'))
theorem k_istore_n (C : KC D Γ rm own cc) {k : Fin 4} {i n : Nat} {a : Int} {lv' : List (Option Value)} (hN : KN Γ n) (hd : decode cc pc = .ok (.istore_n k, 1)) (hi : (k : Nat) = i) (hn : i < n) (hlv : lv.set i (some (ziv a)) = lv') (kk : KG D Γ cn sn (pc + 1) lv' st ws) : KG D Γ cn sn pc lv (ziv a :: st) ws := by
  obtain ⟨p, l, e, R, s, m, args, below, meth, c, A, Q, nL⟩ := Γ
  obtain ⟨hx, hb, -⟩ := C
  cases hN
  subst hlv
  intro H locs ls hP hD hS hl
  exact lv_istore_n hx hb hd hi hl hn rfl (fun ls' hl' => kk H locs ls' hP hD hS (zlp_store hl'))
theorem k_objInit (C : KC D Γ rm own cc) {idx a : Nat} (hw : Cond.methodLink own idx objectInit ∈ TB) (hf : 1 ≤ rm.frames) (hlo : 12 ≤ rm.locals) (hd : decode cc pc = .ok (.invokespecial idx, 3)) (kk : KG D Γ cn sn (pc + 3) lv [] ws) : KG D Γ cn sn pc lv [.ref a] ws := by
  obtain ⟨p, l, e, R, s, m, args, below, meth, c, A, Q, nL⟩ := Γ
  obtain ⟨hx, hb, hown, hml, hts, hK, hA, hR1, hR2, hR3, hR4⟩ := C
  intro H locs ls hP hD hS hl
  refine W.objInit hx hb hown (hts _ hw) (hts _ wOI) (hts _ wOC) rfl (by rw [hml]; exact hl.1) rfl hd (by omega) (by show 2 * 0 + 0 + 12 ≤ _; omega) (kk H locs ls hP hD hS hl)
theorem k_n0 {n : Nat} (hn : n < 1000000) : ¬ zi (n : Int) < 0 := by
  rw [← zi_0, zi_lt ⟨by omega, by omega⟩ zRg0]
  omega
theorem k_nN {n : Nat} (hn : n < 1000000) : (zi (n : Int)).toNatClampNeg = n := by
  rw [zi_clamp ⟨by omega, by omega⟩]
  omega
theorem k_newaI (C : KC D Γ rm own cc) {n cn' sn' : Nat} {a : Int} (ha : a = (n : Int)) (hn : n < 1000000) (hcn : cn + 1 = cn') (hsn : sn + n = sn') (hc : cn' ≤ rm.cells) (hs : sn' ≤ rm.slots) (hd : decode cc pc = .ok (.newarray .int, 2)) (kk : ∀ q : Nat, KG D Γ cn' sn' (pc + 2) lv (.ref q :: st) (ws ++ [(q, .inl (D.2.1, n, .inl (fun _ => zi 0)))])) : KG D Γ cn sn pc lv (ziv a :: st) ws := by
  obtain ⟨p, l, e, R, s, m, args, below, meth, c, A, Q, nL⟩ := Γ
  obtain ⟨hx, hb, hown, hml, hts, hK, hA, hR1, hR2, hR3, hR4⟩ := C
  intro H locs ls hP hD hS hl
  subst ha
  subst hcn
  subst hsn
  refine va_newa (atype := .int) (ty := .int) (a0 := (n, .inl (fun _ => zi 0))) hx hb (hts _ wAI) rfl hK.1 hP hD hS hA (fun cA => rfl) (k_n0 hn) (k_nN hn) (by show n * 4 ≤ _; omega) (by omega) (by omega) hd (fun q cA H1 hK1 hP1 hD1 hS1 => ?_)
  have h1 : s.vm.findClass ("[" ++ FieldType.int.toString) = some cA := (hK1.2 2 (cA, .int) rfl).2
  have h2 : s.vm.findClass ("[" ++ FieldType.int.toString) = some D.2.1 := (hK.1.2 0 (D.2.1, .int) rfl).2
  have e1 : cA = D.2.1 := Option.some.inj (h1.symm.trans h2)
  subst e1
  exact kk q H1 locs ls hP1 hD1 hS1 hl
theorem k_newaZ (C : KC D Γ rm own cc) {n cn' sn' : Nat} {a : Int} (ha : a = (n : Int)) (hn : n < 1000000) (hcn : cn + 1 = cn') (hsn : sn + n = sn') (hc : cn' ≤ rm.cells) (hs : sn' ≤ rm.slots) (hd : decode cc pc = .ok (.newarray .boolean, 2)) (kk : ∀ q : Nat, KG D Γ cn' sn' (pc + 2) lv (.ref q :: st) (ws ++ [(q, .inl (D.2.2, n, .inl (fun _ => zi 0)))])) : KG D Γ cn sn pc lv (ziv a :: st) ws := by
  obtain ⟨p, l, e, R, s, m, args, below, meth, c, A, Q, nL⟩ := Γ
  obtain ⟨hx, hb, hown, hml, hts, hK, hA, hR1, hR2, hR3, hR4⟩ := C
  intro H locs ls hP hD hS hl
  subst ha
  subst hcn
  subst hsn
  refine va_newa (atype := .boolean) (ty := .boolean) (a0 := (n, .inl (fun _ => zi 0))) hx hb (hts _ wAZ) rfl hK.1 hP hD hS hA (fun cA => rfl) (k_n0 hn) (k_nN hn) (by show n * 1 ≤ _; omega) (by omega) (by omega) hd (fun q cA H1 hK1 hP1 hD1 hS1 => ?_)
  have h1 : s.vm.findClass ("[" ++ FieldType.boolean.toString) = some cA := (hK1.2 2 (cA, .boolean) rfl).2
  have h2 : s.vm.findClass ("[" ++ FieldType.boolean.toString) = some D.2.2 := (hK.1.2 1 (D.2.2, .boolean) rfl).2
  have e1 : cA = D.2.2 := Option.some.inj (h1.symm.trans h2)
  subst e1
  exact kk q H1 locs ls hP1 hD1 hS1 hl
/-- the words of a 'new', and the fields as they are born -/
def KW (own : String) (index ci N : Nat) (fs : List Value) : Prop := ∃ (Cn : String) (T : u_T) (ty : Nat → FieldType), zcls[ci]? = some (Cn, T, N) ∧ (∀ w ∈ u_ws Cn T N, w ∈ TB) ∧ (∀ k, k < N → parseFieldDescriptor (T k).2.2.1 = some (ty k)) ∧ Cond.classLink own index Cn ∈ TB ∧ Cond.instantiable Cn N ∈ TB ∧ Cond.initialized Cn ∈ TB ∧ ∀ j, j < N → defaultValue (ty j) = vp_V fs j
theorem k_new (C : KC D Γ rm own cc) {index ci N cn' sn' : Nat} {fs : List Value} (w : KW own index ci N fs) (hcn : cn + 1 = cn') (hsn : sn + N = sn') (hc : cn' ≤ rm.cells) (hs : sn' ≤ rm.slots) (hd : decode cc pc = .ok (.new index, 3)) (kk : ∀ q : Nat, KG D Γ cn' sn' (pc + 3) lv (.ref q :: st) (ws ++ [(q, .inr (ci, fs))])) : KG D Γ cn sn pc lv st ws := by
  obtain ⟨p, l, e, R, s, m, args, below, meth, c, A, Q, nL⟩ := Γ
  obtain ⟨hx, hb, hown, hml, hts, hK, hA, hR1, hR2, hR3, hR4⟩ := C
  obtain ⟨Cn, T, ty, h1, h2, h3, h4, h5, h6, h7⟩ := w
  intro H locs ls hP hD hS hl
  subst hcn
  subst hsn
  exact va_new hx hb hts h2 ty h3 hown (hts _ h4) (hts _ h5) (hts _ h6) hK.1 hP hD hS hA h1 h7 (by omega) (by omega) hd (fun q H1 hP1 hD1 hS1 => kk q H1 locs ls hP1 hD1 hS1 hl)
theorem k_putF (C : KC D Γ rm own cc) (I : KI Γ) {index ci j a : Nat} {ty : FieldType} {fs : List Value} {v : Value} {ws' : va_W} {cq : vw_C} (q0 : Nat) (f : ZF own index ci j true ty) (hcq : zcls[ci]? = some cq) (hdecl : (cq.2.1 j).1 = own) (hn : narrow ty v = v) (hfit : fits ty v = true) (hws : ws[q0]? = some (a, .inr (ci, fs))) (hl : j < fs.length) (hset : ws.set q0 (a, .inr (ci, fs.set j v)) = ws') (hd : decode cc pc = .ok (.putfield index, 3)) (kk : KG D Γ cn sn (pc + 3) lv st ws') : KG D Γ cn sn pc lv (v :: .ref a :: st) ws := by
  obtain ⟨p, l, e, R, s, m, args, below, meth, c, A, Q, nL⟩ := Γ
  obtain ⟨hx, hb, hown, hml, hts, hK, hA, hR1, hR2, hR3, hR4⟩ := C
  obtain ⟨Cn, T, N, ty0, h1, h2, h3, h4, h5, h6, h7, h8⟩ := f
  have e1 : cq = (Cn, T, N) := Option.some.inj (hcq.symm.trans h1)
  subst e1
  subst hset
  intro H locs ls hP hD hS hl2
  exact va_putF hx hb hts h3 ty0 h7 h8 hown hK.1 hP hD hS q0 hws h1 j h2 (hts _ h4) (fun _ h9 => h9) h5 I hdecl h6 hn hfit hl hd (fun H1 locs1 hP1 hD1 hS1 => kk H1 locs1 ls hP1 hD1 hS1 hl2)
theorem k_put (C : KC D Γ rm own cc) {index ci j a : Nat} {ty : FieldType} {fs : List Value} {v : Value} {ws' : va_W} (q0 : Nat) (f : ZF own index ci j false ty) (hn : narrow ty v = v) (hfit : fits ty v = true) (hws : ws[q0]? = some (a, .inr (ci, fs))) (hl : j < fs.length) (hset : ws.set q0 (a, .inr (ci, fs.set j v)) = ws') (hd : decode cc pc = .ok (.putfield index, 3)) (kk : KG D Γ cn sn (pc + 3) lv st ws') : KG D Γ cn sn pc lv (v :: .ref a :: st) ws := by
  obtain ⟨p, l, e, R, s, m, args, below, meth, c, A, Q, nL⟩ := Γ
  obtain ⟨hx, hb, hown, hml, hts, hK, hA, hR1, hR2, hR3, hR4⟩ := C
  obtain ⟨Cn, T, N, ty0, h1, h2, h3, h4, h5, h6, h7, h8⟩ := f
  subst hset
  intro H locs ls hP hD hS hl2
  exact va_put hx hb hts h3 ty0 h7 h8 hown hK.1 hP hD hS q0 hws h1 j h2 (hts _ h4) (fun _ h9 => h9) h5 h6 hn hfit hl hd (fun H1 locs1 hP1 hD1 hS1 => kk H1 locs1 ls hP1 hD1 hS1 hl2)
theorem k_get (C : KC D Γ rm own cc) {index ci j a : Nat} {fin : Bool} {ty : FieldType} {fs : List Value} {v : Value} (q0 : Nat) (f : ZF own index ci j fin ty) (hws : ws[q0]? = some (a, .inr (ci, fs))) (hv : fs[j]? = some v) (hd : decode cc pc = .ok (.getfield index, 3)) (kk : KG D Γ cn sn (pc + 3) lv (v :: st) ws) : KG D Γ cn sn pc lv (.ref a :: st) ws := by
  obtain ⟨p, l, e, R, s, m, args, below, meth, c, A, Q, nL⟩ := Γ
  obtain ⟨hx, hb, hown, hml, hts, hK, -⟩ := C
  obtain ⟨Cn, T, N, ty0, h1, h2, h3, h4, h5, h6, h7, h8⟩ := f
  intro H locs ls hP hD hS hl
  exact va_get hx hb hts h3 hown hK.1 hP q0 hws h1 j h2 (hts _ h4) (fun _ h9 => h9) hv hd (kk H locs ls hP hD hS hl)
theorem k_join {A : Nat → Prop} {G : va_G} {cl : List vw_C} {wr w1 : va_W} {x : Nat × va_E} {H H1 : Heap} (hP : va_P G cl (wr ++ [x]) H) (hD : va_D A (wr ++ [x])) (hk : ∀ q : Nat, q < H.size → ¬ va_A [x] H.size q → H1[q]? = H[q]?) (hF : ∀ q, va_A [x] H.size q → A q) (hP1 : va_P G cl w1 H1) (hD1 : va_D (va_A [x] H.size) w1) : va_P G cl (wr ++ w1) H1 ∧ va_D A (wr ++ w1) := by
  have in1 : ∀ (k : Nat) (q : Nat × va_E), wr[k]? = some q → (wr ++ [x])[k]? = some q := fun k q h => by
    rw [List.getElem?_append_left (List.getElem?_eq_some_iff.mp h).1]; exact h
  have inx : (wr ++ [x])[wr.length]? = some x := by simp
  have apart : ∀ (k : Nat) (q : Nat × va_E), wr[k]? = some q → q.1 < H.size ∧ ¬ va_A [x] H.size q.1 := by
    intro k q hq
    have hl := (hP k q (in1 k q hq)).lt
    refine ⟨hl, fun h => ?_⟩
    rcases h with ⟨k2, e, h⟩ | h
    · cases k2 with
      | zero =>
        have hx : x = (q.1, e) := by simpa using h
        have h1 := hD.1 k wr.length q x (in1 k q hq) inx (by rw [hx])
        have h2 := (List.getElem?_eq_some_iff.mp hq).1
        omega
      | succ k2 => simp at h
    · omega
  refine ⟨va_P.app (fun k q hq => ?_) hP1, va_D.app ⟨fun i j p q hp hq he => hD.1 i j p q (in1 _ _ hp) (in1 _ _ hq) he, fun k q hq => hD.2 k q (in1 k q hq)⟩ (hD1.weaken (fun k q _ h => hF q.1 h)) (fun i j a b ha hb hab => ?_)⟩
  · obtain ⟨g1, g2⟩ := apart k q hq
    exact (hP k q (in1 k q hq)).kept (hk q.1 g1 g2)
  · exact (apart i a ha).2 (by rw [hab]; exact hD1.2 j b hb)
/-- a constructor's words -/
def KV (y : MethodName) (cy : ByteArray) (maxL n : Nat) : Prop := (Cond.instanceMethod y ∈ TB ∧ Cond.initialized y.cls ∈ TB ∧ Cond.code y cy maxL none ∈ TB) ∧ y.name = "<init>" ∧ (y.cls ≠ "java/lang/invoke/MethodHandle" ∧ y.cls ≠ "java/lang/invoke/VarHandle" ∧ (parseMethodDescriptor y.desc).map (fun d => d.parameters.length) = some n)
theorem k_one {x : Nat × va_E} {G : va_G} {cl : List vw_C} {wr : va_W} {H : Heap} (hP : va_P G cl (wr ++ [x]) H) : va_P G cl [x] H ∧ va_D (fun _ => True) [x] := by
  have inx : (wr ++ [x])[wr.length]? = some x := by simp
  have one : ∀ (k : Nat) (q : Nat × va_E), ([x] : va_W)[k]? = some q → k = 0 ∧ q = x := by
    intro k q hk
    cases k with
    | zero => exact ⟨rfl, by simpa using hk.symm⟩
    | succ k => simp at hk
  refine ⟨fun k q hk => ?_, fun i j p q hp hq _ => ?_, fun _ _ _ => trivial⟩
  · obtain ⟨-, rfl⟩ := one k q hk
    exact hP _ _ inx
  · rw [(one i p hp).1, (one j q hq).1]
theorem k_callI (C : KC D Γ rm own cc) {y : MethodName} {cy : ByteArray} {maxL index n b cn' sn' : Nat} {rm' : Room} {As rest st0 : List Value} {e0 : va_E} {B : (Nat → Nat) → va_W} {wr : va_W} (hM : KM D rm' y cy maxL (.ref b :: As) [(b, e0)] B) (mw : KV y cy maxL n) (hlk : Cond.methodLink own index y ∈ TB) (hr : rm'.frames + 1 ≤ rm.frames ∧ 8 + (maxL + 11) + rm'.locals ≤ rm.locals) (hcn : cn + rm'.cells = cn') (hsn : sn + rm'.slots = sn') (hcs : cn' ≤ rm.cells ∧ sn' ≤ rm.slots) (hn : As.length = n) (hst : st0 = As.reverse ++ .ref b :: rest) (hrs : (rest.map fun v => v.category).sum ≤ 8) (hws : ws = wr ++ [(b, e0)]) (hd : decode cc pc = .ok (.invokespecial index, 3))
    (kk : ∀ u : Nat → Nat, KG D Γ cn' sn' (pc + 3) lv rest (wr ++ B u)) : KG D Γ cn sn pc lv st0 ws := by
  obtain ⟨p, l, e, R, s, m, args, below, meth, c, A, Q, nL⟩ := Γ
  obtain ⟨hx, hb, hown, hml, hts, hK, hA, hR1, hR2, hR3, hR4⟩ := C
  obtain ⟨⟨w1, w2, w3⟩, w4, w5⟩ := mw
  subst hws
  subst hcn
  subst hsn
  intro H locs ls hP hD hS hl
  obtain ⟨hPc, hDc⟩ := k_one hP
  have hFc : ∀ q, va_A [(b, e0)] H.size q → A q := va_free hD hS hA [wr.length] (by simp)
  have hG : GoodIn TB (.code y cy maxL none :: TB) := goodIn_tb (fun w h => h) (zws_TB w3)
  refine va_callv (va_runI (As := As) (rest := rest) (b := b) ⟨hx, hb, hml, hown, hts⟩ (hM l H.size) (cwI n hts hG rfl rfl rfl (hts _ w2) (hts _ hlk) (hts _ w1) w4 w5 ⟨by omega, by omega⟩) ⟨kblind, fun U hU hW => ⟨rfl, by rw [hU], by rw [hU]; exact hPc, hDc, hK.warm hW⟩⟩ rfl hn hl.1 hst (z_sum hrs) hd ⟨by omega, by omega⟩) hS (fun q _ h => hFc q h) hFc (fun u t H1 locs1 ht hvm hw hB hz1 hk1 hS1 => ?_)
  obtain ⟨hP1, hD1⟩ := hB
  rw [ht] at hP1
  obtain ⟨hP2, hD2⟩ := k_join hP hD hk1 hFc hP1 hD1
  exact kk u H1 locs1 ls hP2 hD2 hS1 hl
theorem k_callN (C : KC D Γ rm own cc) {y : MethodName} {cy : ByteArray} {maxL index n b cn' sn' : Nat} {rm' : Room} {As rest st0 : List Value} {e0 : va_E} {B : (Nat → Nat) → va_W} {wr : va_W} (hM : KM D rm' y cy maxL (.ref b :: As) [(b, e0)] B) (mw : KV y cy maxL n) (hlk : Cond.methodLinkNest own index y RX5 = knw9 ∨ Cond.methodLinkNest own index y RX5 = knw18 ∨ Cond.methodLinkNest own index y RX5 = knw28) (hr : rm'.frames + 1 ≤ rm.frames ∧ 8 + (maxL + 11) + rm'.locals ≤ rm.locals) (hcn : cn + rm'.cells = cn') (hsn : sn + rm'.slots = sn') (hcs : cn' ≤ rm.cells ∧ sn' ≤ rm.slots) (hn : As.length = n) (hst : st0 = As.reverse ++ .ref b :: rest) (hrs : (rest.map fun v => v.category).sum ≤ 8) (hws : ws = wr ++ [(b, e0)]) (hd : decode cc pc = .ok (.invokespecial index, 3))
    (kk : ∀ u : Nat → Nat, KG D Γ cn' sn' (pc + 3) lv rest (wr ++ B u)) : KG D Γ cn sn pc lv st0 ws := by
  obtain ⟨p, l, e, R, s, m, args, below, meth, c, A, Q, nL⟩ := Γ
  obtain ⟨hx, hb, hown, hml, hts, hK, hA, hR1, hR2, hR3, hR4⟩ := C
  obtain ⟨⟨w1, w2, w3⟩, w4, w5⟩ := mw
  subst hws
  subst hcn
  subst hsn
  intro H locs ls hP hD hS hl
  obtain ⟨hPc, hDc⟩ := k_one hP
  have hFc : ∀ q, va_A [(b, e0)] H.size q → A q := va_free hD hS hA [wr.length] (by simp)
  have hG : GoodIn TB (.code y cy maxL none :: TB) := goodIn_tb (fun w h => h) (zws_TB w3)
  have hlink : va_Nw (.methodLinkNest own index y RX5) s := by
    rcases hlk with h | h | h
    · rw [h]; exact hK.2.1
    · rw [h]; exact hK.2.2.1
    · rw [h]; exact hK.2.2.2
  refine va_callv (va_runIN (host := RX5) (As := As) (rest := rest) (b := b) ⟨hx, hb, hml, hown, hts⟩ (hM l H.size) ⟨va_cnB n hts hG rfl rfl rfl hlink (hts _ w2) w5 ⟨by omega, by omega⟩, w4, hts _ w1⟩ ⟨kblind, fun U hU hW => ⟨rfl, by rw [hU], by rw [hU]; exact hPc, hDc, hK.warm hW⟩⟩ rfl hn hl.1 hst (z_sum hrs) hd ⟨by omega, by omega⟩) hS (fun q _ h => hFc q h) hFc (fun u t H1 locs1 ht hvm hw hB hz1 hk1 hS1 => ?_)
  obtain ⟨hP1, hD1⟩ := hB
  rw [ht] at hP1
  obtain ⟨hP2, hD2⟩ := k_join hP hD hk1 hFc hP1 hD1
  exact kk u H1 locs1 ls hP2 hD2 hS1 hl
end KROWS
