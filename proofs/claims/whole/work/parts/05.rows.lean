/-! ===== a row an instruction ===== -/
section ROWS
variable {E : ZE} {Γ : ZT} {h : Nat} {own : String} {cc : ByteArray} {pc : Nat} {lv : List (Option Value)} {st : List Value} {σ : ZSt}
theorem zcat_iv (a : Int) : (ziv a).category = 1 := rfl
theorem zcat_rf (E : ZE) (k : Nat) : (zrf E k).category = 1 := rfl
theorem z_iconst (C : ZC E Γ h own cc) {n : Int} (hd : decode cc pc = .ok (.iconst n, 1)) (kk : ZG E Γ (pc + 1) lv (ziv n :: st) σ) : ZG E Γ pc lv st σ := by
  obtain ⟨p, l, e, R, s, m, args, below, meth, c, A, Q, nL, cells, slots⟩ := Γ
  obtain ⟨hx, hb, -⟩ := C
  intro H locs ls hP hS hl
  exact lv_iconst hx hb hd rfl (kk H locs ls hP hS hl)
theorem z_bipush (C : ZC E Γ h own cc) {n : Int} (hd : decode cc pc = .ok (.bipush n, 2)) (hv : (Int8.ofInt n).toInt32 = zi n) (kk : ZG E Γ (pc + 2) lv (ziv n :: st) σ) : ZG E Γ pc lv st σ := by
  obtain ⟨p, l, e, R, s, m, args, below, meth, c, A, Q, nL, cells, slots⟩ := Γ
  obtain ⟨hx, hb, -⟩ := C
  intro H locs ls hP hS hl
  exact lv_bipush hx hb hd hv (kk H locs ls hP hS hl)
theorem z_sipush (C : ZC E Γ h own cc) {n : Int} (hd : decode cc pc = .ok (.sipush n, 3)) (hv : (Int16.ofInt n).toInt32 = zi n) (kk : ZG E Γ (pc + 3) lv (ziv n :: st) σ) : ZG E Γ pc lv st σ := by
  obtain ⟨p, l, e, R, s, m, args, below, meth, c, A, Q, nL, cells, slots⟩ := Γ
  obtain ⟨hx, hb, -⟩ := C
  intro H locs ls hP hS hl
  exact lv_sipush hx hb hd hv (kk H locs ls hP hS hl)
theorem z_iload_n (C : ZC E Γ h own cc) {k : Fin 4} {i : Nat} {a : Int} (hd : decode cc pc = .ok (.iload_n k, 1)) (hi : (k : Nat) = i) (hv : lv[i]? = some (some (ziv a))) (kk : ZG E Γ (pc + 1) lv (ziv a :: st) σ) : ZG E Γ pc lv st σ := by
  obtain ⟨p, l, e, R, s, m, args, below, meth, c, A, Q, nL, cells, slots⟩ := Γ
  obtain ⟨hx, hb, -⟩ := C
  intro H locs ls hP hS hl
  exact lv_iload_n hx hb hd hi (zlp_at hl hv rfl) (kk H locs ls hP hS hl)
theorem z_iload (C : ZC E Γ h own cc) {i : Nat} {a : Int} (hd : decode cc pc = .ok (.iload i, 2)) (hv : lv[i]? = some (some (ziv a))) (kk : ZG E Γ (pc + 2) lv (ziv a :: st) σ) : ZG E Γ pc lv st σ := by
  obtain ⟨p, l, e, R, s, m, args, below, meth, c, A, Q, nL, cells, slots⟩ := Γ
  obtain ⟨hx, hb, -⟩ := C
  intro H locs ls hP hS hl
  exact lv_iload hx hb hd (zlp_at hl hv rfl) (kk H locs ls hP hS hl)
theorem z_aload_n (C : ZC E Γ h own cc) {k : Fin 4} {i q : Nat} (hd : decode cc pc = .ok (.aload_n k, 1)) (hi : (k : Nat) = i) (hv : lv[i]? = some (some (.ref q))) (kk : ZG E Γ (pc + 1) lv (.ref q :: st) σ) : ZG E Γ pc lv st σ := by
  obtain ⟨p, l, e, R, s, m, args, below, meth, c, A, Q, nL, cells, slots⟩ := Γ
  obtain ⟨hx, hb, -⟩ := C
  intro H locs ls hP hS hl
  exact lv_aload_n hx hb hd hi (zlp_at hl hv rfl) (kk H locs ls hP hS hl)
theorem z_aload (C : ZC E Γ h own cc) {i q : Nat} (hd : decode cc pc = .ok (.aload i, 2)) (hv : lv[i]? = some (some (.ref q))) (kk : ZG E Γ (pc + 2) lv (.ref q :: st) σ) : ZG E Γ pc lv st σ := by
  obtain ⟨p, l, e, R, s, m, args, below, meth, c, A, Q, nL, cells, slots⟩ := Γ
  obtain ⟨hx, hb, -⟩ := C
  intro H locs ls hP hS hl
  exact lv_aload hx hb hd (zlp_at hl hv rfl) (kk H locs ls hP hS hl)
theorem z_aload_nZ (C : ZC E Γ h own cc) {k : Fin 4} {i q : Nat} (hd : decode cc pc = .ok (.aload_n k, 1)) (hi : (k : Nat) = i) (hv : lv[i]? = some (some (zrf E q))) (kk : ZG E Γ (pc + 1) lv (zrf E q :: st) σ) : ZG E Γ pc lv st σ := z_aload_n C hd hi hv kk
theorem z_aloadZ (C : ZC E Γ h own cc) {i q : Nat} (hd : decode cc pc = .ok (.aload i, 2)) (hv : lv[i]? = some (some (zrf E q))) (kk : ZG E Γ (pc + 2) lv (zrf E q :: st) σ) : ZG E Γ pc lv st σ := z_aload C hd hv kk
theorem z_istore_n (C : ZC E Γ h own cc) {k : Fin 4} {i : Nat} {a : Int} {n : Nat} {lv' : List (Option Value)} (hN : ZN Γ n) (hd : decode cc pc = .ok (.istore_n k, 1)) (hi : (k : Nat) = i) (hn : i < n) (hlv : lv.set i (some (ziv a)) = lv') (kk : ZG E Γ (pc + 1) lv' st σ) : ZG E Γ pc lv (ziv a :: st) σ := by
  obtain ⟨p, l, e, R, s, m, args, below, meth, c, A, Q, nL, cells, slots⟩ := Γ
  obtain ⟨hx, hb, -⟩ := C
  cases hN
  subst hlv
  intro H locs ls hP hS hl
  exact lv_istore_n hx hb hd hi hl hn rfl (fun ls' hl' => kk H locs ls' hP hS (zlp_store hl'))
theorem z_istore (C : ZC E Γ h own cc) {i : Nat} {a : Int} {n : Nat} {lv' : List (Option Value)} (hN : ZN Γ n) (hd : decode cc pc = .ok (.istore i, 2)) (hn : i < n) (hlv : lv.set i (some (ziv a)) = lv') (kk : ZG E Γ (pc + 2) lv' st σ) : ZG E Γ pc lv (ziv a :: st) σ := by
  obtain ⟨p, l, e, R, s, m, args, below, meth, c, A, Q, nL, cells, slots⟩ := Γ
  obtain ⟨hx, hb, -⟩ := C
  cases hN
  subst hlv
  intro H locs ls hP hS hl
  exact lv_istore hx hb hd hl hn rfl (fun ls' hl' => kk H locs ls' hP hS (zlp_store hl'))
theorem z_iinc (C : ZC E Γ h own cc) {i : Nat} {a d : Int} {n : Nat} {lv' : List (Option Value)} (hN : ZN Γ n) (hd : decode cc pc = .ok (.iinc i d, 3)) (hn : i < n) (hv : lv[i]? = some (some (ziv a))) (hlv : lv.set i (some (ziv (a + d))) = lv') (kk : ZG E Γ (pc + 3) lv' st σ) : ZG E Γ pc lv st σ := by
  obtain ⟨p, l, e, R, s, m, args, below, meth, c, A, Q, nL, cells, slots⟩ := Γ
  obtain ⟨hx, hb, -⟩ := C
  cases hN
  subst hlv
  intro H locs ls hP hS hl
  have hm : (i, ziv a) ∈ zlp 0 lv := zlp_mem.mpr ⟨i, by simp, hv, rfl⟩
  obtain ⟨k, hk⟩ := List.getElem?_of_mem hm
  exact lv_iinc (v := zi (a + d)) hx hb hd hl hk (zi_add a d) hn rfl (fun ls' hl' => kk H locs ls' hP hS (zlp_store hl'))
theorem z_iadd (C : ZC E Γ h own cc) {a b : Int} (hd : decode cc pc = .ok (.iadd, 1)) (kk : ZG E Γ (pc + 1) lv (ziv (a + b) :: st) σ) : ZG E Γ pc lv (ziv b :: ziv a :: st) σ := by
  obtain ⟨p, l, e, R, s, m, args, below, meth, c, A, Q, nL, cells, slots⟩ := Γ
  obtain ⟨hx, hb, -⟩ := C
  intro H locs ls hP hS hl
  have k2 := kk H locs ls hP hS hl
  rw [ziv, ← zi_add] at k2
  exact lv_iadd hx hb hd k2
theorem z_isub (C : ZC E Γ h own cc) {a b : Int} (hd : decode cc pc = .ok (.isub, 1)) (kk : ZG E Γ (pc + 1) lv (ziv (a - b) :: st) σ) : ZG E Γ pc lv (ziv b :: ziv a :: st) σ := by
  obtain ⟨p, l, e, R, s, m, args, below, meth, c, A, Q, nL, cells, slots⟩ := Γ
  obtain ⟨hx, hb, -⟩ := C
  intro H locs ls hP hS hl
  have k2 := kk H locs ls hP hS hl
  rw [ziv, ← zi_sub] at k2
  exact lv_isub hx hb hd k2
theorem z_imul (C : ZC E Γ h own cc) {a b : Int} (hd : decode cc pc = .ok (.imul, 1)) (kk : ZG E Γ (pc + 1) lv (ziv (a * b) :: st) σ) : ZG E Γ pc lv (ziv b :: ziv a :: st) σ := by
  obtain ⟨p, l, e, R, s, m, args, below, meth, c, A, Q, nL, cells, slots⟩ := Γ
  obtain ⟨hx, hb, -⟩ := C
  intro H locs ls hP hS hl
  have k2 := kk H locs ls hP hS hl
  rw [ziv, ← zi_mul] at k2
  exact lv_imul hx hb hd k2
theorem z_dup (C : ZC E Γ h own cc) {v : Value} (hd : decode cc pc = .ok (.dup, 1)) (hv : v.category = 1) (kk : ZG E Γ (pc + 1) lv (v :: v :: st) σ) : ZG E Γ pc lv (v :: st) σ := by
  obtain ⟨p, l, e, R, s, m, args, below, meth, c, A, Q, nL, cells, slots⟩ := Γ
  obtain ⟨hx, hb, -⟩ := C
  intro H locs ls hP hS hl
  exact lv_dup hx hb hd hv (kk H locs ls hP hS hl)
theorem z_pop (C : ZC E Γ h own cc) {v : Value} (hd : decode cc pc = .ok (.pop, 1)) (hv : v.category = 1) (kk : ZG E Γ (pc + 1) lv st σ) : ZG E Γ pc lv (v :: st) σ := by
  obtain ⟨p, l, e, R, s, m, args, below, meth, c, A, Q, nL, cells, slots⟩ := Γ
  obtain ⟨hx, hb, -⟩ := C
  intro H locs ls hP hS hl
  exact lv_pop hx hb hd hv (kk H locs ls hP hS hl)
theorem z_goto (C : ZC E Γ h own cc) {off : Int} (tgt : Nat) (hd : decode cc pc = .ok (.goto off, 3)) (ht : (pc : Int) + off = (tgt : Int)) (kk : ZG E Γ tgt lv st σ) : ZG E Γ pc lv st σ := by
  obtain ⟨p, l, e, R, s, m, args, below, meth, c, A, Q, nL, cells, slots⟩ := Γ
  obtain ⟨hx, hb, -⟩ := C
  intro H locs ls hP hS hl
  exact lv_goto hx hb hd ht (kk H locs ls hP hS hl)
-- branches
theorem zRg0 : zRg 0 := ⟨by decide, by decide⟩
theorem z_icmp_eq (C : ZC E Γ h own cc) {a b off : Int} (tgt : Nat) (ha : zRg a) (hb2 : zRg b) (hd : decode cc pc = .ok (.if_icmp .eq off, 3)) (ht : (pc : Int) + off = (tgt : Int)) (kt : a = b → ZG E Γ tgt lv st σ) (kf : a ≠ b → ZG E Γ (pc + 3) lv st σ) : ZG E Γ pc lv (ziv b :: ziv a :: st) σ := by
  obtain ⟨p, l, e, R, s, m, args, below, meth, c, A, Q, nL, cells, slots⟩ := Γ
  obtain ⟨hx, hb, -⟩ := C
  intro H locs ls hP hS hl
  exact lv_icmp_eq hx hb hd ht (fun q => kt ((zi_eq ha hb2).mp q) H locs ls hP hS hl) (fun q => kf (fun r => q ((zi_eq ha hb2).mpr r)) H locs ls hP hS hl)
theorem z_if_eq (C : ZC E Γ h own cc) {a off : Int} (tgt : Nat) (ha : zRg a) (hd : decode cc pc = .ok (.ifCond .eq off, 3)) (ht : (pc : Int) + off = (tgt : Int)) (kt : a = 0 → ZG E Γ tgt lv st σ) (kf : a ≠ 0 → ZG E Γ (pc + 3) lv st σ) : ZG E Γ pc lv (ziv a :: st) σ := by
  obtain ⟨p, l, e, R, s, m, args, below, meth, c, A, Q, nL, cells, slots⟩ := Γ
  obtain ⟨hx, hb, -⟩ := C
  intro H locs ls hP hS hl
  exact lv_if_eq hx hb hd ht (fun q => kt ((zi_eq ha zRg0).mp q) H locs ls hP hS hl) (fun q => kf (fun r => q ((zi_eq ha zRg0).mpr r)) H locs ls hP hS hl)
theorem z_icmp_ne (C : ZC E Γ h own cc) {a b off : Int} (tgt : Nat) (ha : zRg a) (hb2 : zRg b) (hd : decode cc pc = .ok (.if_icmp .ne off, 3)) (ht : (pc : Int) + off = (tgt : Int)) (kt : a ≠ b → ZG E Γ tgt lv st σ) (kf : a = b → ZG E Γ (pc + 3) lv st σ) : ZG E Γ pc lv (ziv b :: ziv a :: st) σ := by
  obtain ⟨p, l, e, R, s, m, args, below, meth, c, A, Q, nL, cells, slots⟩ := Γ
  obtain ⟨hx, hb, -⟩ := C
  intro H locs ls hP hS hl
  exact lv_icmp_ne hx hb hd ht (fun q => kt (fun r => q ((zi_eq ha hb2).mpr r)) H locs ls hP hS hl) (fun q => kf ((zi_eq ha hb2).mp q) H locs ls hP hS hl)
theorem z_if_ne (C : ZC E Γ h own cc) {a off : Int} (tgt : Nat) (ha : zRg a) (hd : decode cc pc = .ok (.ifCond .ne off, 3)) (ht : (pc : Int) + off = (tgt : Int)) (kt : a ≠ 0 → ZG E Γ tgt lv st σ) (kf : a = 0 → ZG E Γ (pc + 3) lv st σ) : ZG E Γ pc lv (ziv a :: st) σ := by
  obtain ⟨p, l, e, R, s, m, args, below, meth, c, A, Q, nL, cells, slots⟩ := Γ
  obtain ⟨hx, hb, -⟩ := C
  intro H locs ls hP hS hl
  exact lv_if_ne hx hb hd ht (fun q => kt (fun r => q ((zi_eq ha zRg0).mpr r)) H locs ls hP hS hl) (fun q => kf ((zi_eq ha zRg0).mp q) H locs ls hP hS hl)
theorem z_icmp_lt (C : ZC E Γ h own cc) {a b off : Int} (tgt : Nat) (ha : zRg a) (hb2 : zRg b) (hd : decode cc pc = .ok (.if_icmp .lt off, 3)) (ht : (pc : Int) + off = (tgt : Int)) (kt : a < b → ZG E Γ tgt lv st σ) (kf : b ≤ a → ZG E Γ (pc + 3) lv st σ) : ZG E Γ pc lv (ziv b :: ziv a :: st) σ := by
  obtain ⟨p, l, e, R, s, m, args, below, meth, c, A, Q, nL, cells, slots⟩ := Γ
  obtain ⟨hx, hb, -⟩ := C
  intro H locs ls hP hS hl
  exact lv_icmp_lt hx hb hd ht (fun q => kt ((zi_lt ha hb2).mp q) H locs ls hP hS hl) (fun q => kf (Int.not_lt.mp (fun r => q ((zi_lt ha hb2).mpr r))) H locs ls hP hS hl)
theorem z_if_lt (C : ZC E Γ h own cc) {a off : Int} (tgt : Nat) (ha : zRg a) (hd : decode cc pc = .ok (.ifCond .lt off, 3)) (ht : (pc : Int) + off = (tgt : Int)) (kt : a < 0 → ZG E Γ tgt lv st σ) (kf : 0 ≤ a → ZG E Γ (pc + 3) lv st σ) : ZG E Γ pc lv (ziv a :: st) σ := by
  obtain ⟨p, l, e, R, s, m, args, below, meth, c, A, Q, nL, cells, slots⟩ := Γ
  obtain ⟨hx, hb, -⟩ := C
  intro H locs ls hP hS hl
  exact lv_if_lt hx hb hd ht (fun q => kt ((zi_lt ha zRg0).mp q) H locs ls hP hS hl) (fun q => kf (Int.not_lt.mp (fun r => q ((zi_lt ha zRg0).mpr r))) H locs ls hP hS hl)
theorem z_icmp_ge (C : ZC E Γ h own cc) {a b off : Int} (tgt : Nat) (ha : zRg a) (hb2 : zRg b) (hd : decode cc pc = .ok (.if_icmp .ge off, 3)) (ht : (pc : Int) + off = (tgt : Int)) (kt : b ≤ a → ZG E Γ tgt lv st σ) (kf : a < b → ZG E Γ (pc + 3) lv st σ) : ZG E Γ pc lv (ziv b :: ziv a :: st) σ := by
  obtain ⟨p, l, e, R, s, m, args, below, meth, c, A, Q, nL, cells, slots⟩ := Γ
  obtain ⟨hx, hb, -⟩ := C
  intro H locs ls hP hS hl
  exact lv_icmp_ge hx hb hd ht (fun q => kt ((zi_le hb2 ha).mp q) H locs ls hP hS hl) (fun q => kf (Int.not_le.mp (fun r => q ((zi_le hb2 ha).mpr r))) H locs ls hP hS hl)
theorem z_if_ge (C : ZC E Γ h own cc) {a off : Int} (tgt : Nat) (ha : zRg a) (hd : decode cc pc = .ok (.ifCond .ge off, 3)) (ht : (pc : Int) + off = (tgt : Int)) (kt : 0 ≤ a → ZG E Γ tgt lv st σ) (kf : a < 0 → ZG E Γ (pc + 3) lv st σ) : ZG E Γ pc lv (ziv a :: st) σ := by
  obtain ⟨p, l, e, R, s, m, args, below, meth, c, A, Q, nL, cells, slots⟩ := Γ
  obtain ⟨hx, hb, -⟩ := C
  intro H locs ls hP hS hl
  exact lv_if_ge hx hb hd ht (fun q => kt ((zi_le zRg0 ha).mp q) H locs ls hP hS hl) (fun q => kf (Int.not_le.mp (fun r => q ((zi_le zRg0 ha).mpr r))) H locs ls hP hS hl)
theorem z_icmp_gt (C : ZC E Γ h own cc) {a b off : Int} (tgt : Nat) (ha : zRg a) (hb2 : zRg b) (hd : decode cc pc = .ok (.if_icmp .gt off, 3)) (ht : (pc : Int) + off = (tgt : Int)) (kt : b < a → ZG E Γ tgt lv st σ) (kf : a ≤ b → ZG E Γ (pc + 3) lv st σ) : ZG E Γ pc lv (ziv b :: ziv a :: st) σ := by
  obtain ⟨p, l, e, R, s, m, args, below, meth, c, A, Q, nL, cells, slots⟩ := Γ
  obtain ⟨hx, hb, -⟩ := C
  intro H locs ls hP hS hl
  exact lv_icmp_gt hx hb hd ht (fun q => kt ((zi_lt hb2 ha).mp q) H locs ls hP hS hl) (fun q => kf (Int.not_lt.mp (fun r => q ((zi_lt hb2 ha).mpr r))) H locs ls hP hS hl)
theorem z_if_gt (C : ZC E Γ h own cc) {a off : Int} (tgt : Nat) (ha : zRg a) (hd : decode cc pc = .ok (.ifCond .gt off, 3)) (ht : (pc : Int) + off = (tgt : Int)) (kt : 0 < a → ZG E Γ tgt lv st σ) (kf : a ≤ 0 → ZG E Γ (pc + 3) lv st σ) : ZG E Γ pc lv (ziv a :: st) σ := by
  obtain ⟨p, l, e, R, s, m, args, below, meth, c, A, Q, nL, cells, slots⟩ := Γ
  obtain ⟨hx, hb, -⟩ := C
  intro H locs ls hP hS hl
  exact lv_if_gt hx hb hd ht (fun q => kt ((zi_lt zRg0 ha).mp q) H locs ls hP hS hl) (fun q => kf (Int.not_lt.mp (fun r => q ((zi_lt zRg0 ha).mpr r))) H locs ls hP hS hl)
theorem z_icmp_le (C : ZC E Γ h own cc) {a b off : Int} (tgt : Nat) (ha : zRg a) (hb2 : zRg b) (hd : decode cc pc = .ok (.if_icmp .le off, 3)) (ht : (pc : Int) + off = (tgt : Int)) (kt : a ≤ b → ZG E Γ tgt lv st σ) (kf : b < a → ZG E Γ (pc + 3) lv st σ) : ZG E Γ pc lv (ziv b :: ziv a :: st) σ := by
  obtain ⟨p, l, e, R, s, m, args, below, meth, c, A, Q, nL, cells, slots⟩ := Γ
  obtain ⟨hx, hb, -⟩ := C
  intro H locs ls hP hS hl
  exact lv_icmp_le hx hb hd ht (fun q => kt ((zi_le ha hb2).mp q) H locs ls hP hS hl) (fun q => kf (Int.not_le.mp (fun r => q ((zi_le ha hb2).mpr r))) H locs ls hP hS hl)
theorem z_if_le (C : ZC E Γ h own cc) {a off : Int} (tgt : Nat) (ha : zRg a) (hd : decode cc pc = .ok (.ifCond .le off, 3)) (ht : (pc : Int) + off = (tgt : Int)) (kt : a ≤ 0 → ZG E Γ tgt lv st σ) (kf : 0 < a → ZG E Γ (pc + 3) lv st σ) : ZG E Γ pc lv (ziv a :: st) σ := by
  obtain ⟨p, l, e, R, s, m, args, below, meth, c, A, Q, nL, cells, slots⟩ := Γ
  obtain ⟨hx, hb, -⟩ := C
  intro H locs ls hP hS hl
  exact lv_if_le hx hb hd ht (fun q => kt ((zi_le ha zRg0).mp q) H locs ls hP hS hl) (fun q => kf (Int.not_le.mp (fun r => q ((zi_le ha zRg0).mpr r))) H locs ls hP hS hl)
-- fields
def ZF (own : String) (index ci j : Nat) (fin : Bool) (ty : FieldType) : Prop := ∃ (Cn : String) (T : u_T) (N : Nat) (ty0 : Nat → FieldType), zcls[ci]? = some (Cn, T, N) ∧ j < N ∧ (∀ w ∈ u_ws Cn T N, w ∈ TB) ∧ Cond.fieldLink own index (T j).1 (T j).2.1 (T j).2.2.1 ∈ TB ∧ (T j).2.2.2 = fin ∧ parseFieldDescriptor (T j).2.2.1 = some ty ∧ (∀ k, k < N → parseFieldDescriptor (T k).2.2.1 = some (ty0 k)) ∧ (∀ a, a < N → ∀ b, b < N → a ≠ b → (T a).2.1 ≠ (T b).2.1)
theorem z_getV (C : ZC E Γ h own cc) {index ci j k : Nat} {fin : Bool} {ty : FieldType} {fs : List (Option Nat)} {x : Option Nat} (f : ZF own index ci j fin ty) (hs : zSH[k]? = some (.inr (ci, fs))) (hf : fs[j]? = some x) (hd : decode cc pc = .ok (.getfield index, 3)) (kk : ZG E Γ (pc + 3) lv (zfv E σ k j x :: st) σ) : ZG E Γ pc lv (zrf E k :: st) σ := by
  obtain ⟨p, l, e, R, s, m, args, below, meth, c, A, Q, nL, cells, slots⟩ := Γ
  obtain ⟨hx, hb, hown, hml, hts, hK, -⟩ := C
  obtain ⟨Cn, T, N, ty0, h1, h2, h3, h4, h5, h6, h7, h8⟩ := f
  intro H locs ls hP hS hl
  refine va_get hx hb hts h3 hown hK.1 hP k (zw_get hs) h1 j h2 (hts _ h4) (fun _ h9 => h9) (zfs_get hf) hd ?_
  rw [Nat.zero_add]
  exact kk H locs ls hP hS hl
theorem z_getI (C : ZC E Γ h own cc) {index ci j k : Nat} {fin : Bool} {ty : FieldType} {fs : List (Option Nat)} (f : ZF own index ci j fin ty) (hs : zSH[k]? = some (.inr (ci, fs))) (hf : fs[j]? = some none) (hd : decode cc pc = .ok (.getfield index, 3)) (kk : ZG E Γ (pc + 3) lv (ziv (σ k j) :: st) σ) : ZG E Γ pc lv (zrf E k :: st) σ := z_getV C f hs hf hd kk
theorem z_getR (C : ZC E Γ h own cc) {index ci j k q : Nat} {fin : Bool} {ty : FieldType} {fs : List (Option Nat)} (f : ZF own index ci j fin ty) (hs : zSH[k]? = some (.inr (ci, fs))) (hf : fs[j]? = some (some q)) (hd : decode cc pc = .ok (.getfield index, 3)) (kk : ZG E Γ (pc + 3) lv (zrf E q :: st) σ) : ZG E Γ pc lv (zrf E k :: st) σ := z_getV C f hs hf hd kk
theorem z_putV (C : ZC E Γ h own cc) (hR : zRs σ) {index ci j k : Nat} {ty : FieldType} {fs : List (Option Nat)} {v : Int} (hn : narrow ty (ziv v) = ziv v) (hfit : fits ty (ziv v) = true) (f : ZF own index ci j false ty) (hs : zSH[k]? = some (.inr (ci, fs))) (hf : fs[j]? = some none) (hv : zRg v) (hd : decode cc pc = .ok (.putfield index, 3)) (kk : ∀ σ1 : ZSt, σ1 = zup σ k j v → zRs σ1 → ZG E Γ (pc + 3) lv st σ1) : ZG E Γ pc lv (ziv v :: zrf E k :: st) σ := by
  obtain ⟨p, l, e, R, s, m, args, below, meth, c, A, Q, nL, cells, slots⟩ := Γ
  obtain ⟨hx, hb, hown, hml, hts, hK, hA1, hA2, -⟩ := C
  obtain ⟨Cn, T, N, ty0, h1, h2, h3, h4, h5, h6, h7, h8⟩ := f
  intro H locs ls hP hS hl
  have hj : j < fs.length := (List.getElem?_eq_some_iff.mp hf).1
  refine va_put hx hb hts h3 ty0 h7 h8 hown hK.1 hP (zD hK.2.2.2 hA1 σ) hS k (zw_get hs) h1 j h2 (hts _ h4) (fun _ h9 => h9) h5 h6 hn hfit (by rw [zfs_len]; exact hj) hd (fun H1 locs1 hP1 hD1 hS1 => ?_)
  refine kk _ rfl (hR.up hv k j) H1 locs1 ls ?_ hS1 hl
  rw [← zw_set hs]
  have e : zcell E (zup σ k j v) k (.inr (ci, fs)) = .inr (ci, (zfs E σ k 0 fs).set j (ziv v)) := by
    show Sum.inr (ci, zfs E (zup σ k j v) k 0 fs) = _
    rw [zfs_set hf, Nat.zero_add]
  rw [e]
  exact hP1
theorem z_putI (C : ZC E Γ h own cc) (hR : zRs σ) {index ci j k : Nat} {fs : List (Option Nat)} {v : Int} (f : ZF own index ci j false .int) (hs : zSH[k]? = some (.inr (ci, fs))) (hf : fs[j]? = some none) (hv : zRg v) (hd : decode cc pc = .ok (.putfield index, 3)) (kk : ∀ σ1 : ZSt, σ1 = zup σ k j v → zRs σ1 → ZG E Γ (pc + 3) lv st σ1) : ZG E Γ pc lv (ziv v :: zrf E k :: st) σ := z_putV C hR rfl rfl f hs hf hv hd kk
theorem z_putZ (C : ZC E Γ h own cc) (hR : zRs σ) {index ci j k : Nat} {fs : List (Option Nat)} {v : Int} (f : ZF own index ci j false .boolean) (hs : zSH[k]? = some (.inr (ci, fs))) (hf : fs[j]? = some none) (hv : v = 0 ∨ v = 1) (hd : decode cc pc = .ok (.putfield index, 3)) (kk : ∀ σ1 : ZSt, σ1 = zup σ k j v → zRs σ1 → ZG E Γ (pc + 3) lv st σ1) : ZG E Γ pc lv (ziv v :: zrf E k :: st) σ := z_putV C hR (znarZ hv) (by rcases hv with rfl | rfl <;> decide) f hs hf (zRg01 hv) hd kk
-- arrays
theorem zSH_len : ∀ (k t n : Nat), zSH[k]? = some (.inl (t, n)) → n < 2147483648 := by
  have h : zSH.all (fun x => match x with | .inl (_, n) => decide (n < 2147483648) | .inr _ => true) = true := by decide +kernel
  intro k t n hk
  have := List.all_eq_true.mp h _ (List.mem_of_getElem? hk)
  simpa using this
theorem z_iald (C : ZC E Γ h own cc) {k n : Nat} {i : Int} (hs : zSH[k]? = some (.inl (0, n))) (h0 : 0 ≤ i) (h1 : i < n) (hd : decode cc pc = .ok (.iaload, 1)) (kk : ZG E Γ (pc + 1) lv (ziv (σ k i.toNat) :: st) σ) : ZG E Γ pc lv (ziv i :: zrf E k :: st) σ := by
  obtain ⟨p, l, e, R, s, m, args, below, meth, c, A, Q, nL, cells, slots⟩ := Γ
  obtain ⟨hx, hb, hown, hml, hts, hK, -⟩ := C
  intro H locs ls hP hS hl
  have hn := zSH_len _ _ _ hs
  refine va_iald (n := n) (f := fun j => zi (σ k j)) hx hb hK.1 hP k 0 (zw_get hs) rfl (zi_in h0 h1 hn) hd ?_
  rw [zi_clamp ⟨by omega, by omega⟩]
  exact kk H locs ls hP hS hl
theorem z_zald (C : ZC E Γ h own cc) {k n : Nat} {i : Int} (hs : zSH[k]? = some (.inl (1, n))) (h0 : 0 ≤ i) (h1 : i < n) (hd : decode cc pc = .ok (.baload, 1)) (kk : ZG E Γ (pc + 1) lv (ziv (σ k i.toNat) :: st) σ) : ZG E Γ pc lv (ziv i :: zrf E k :: st) σ := by
  obtain ⟨p, l, e, R, s, m, args, below, meth, c, A, Q, nL, cells, slots⟩ := Γ
  obtain ⟨hx, hb, hown, hml, hts, hK, -⟩ := C
  intro H locs ls hP hS hl
  have hn := zSH_len _ _ _ hs
  refine va_zald (n := n) (f := fun j => zi (σ k j)) hx hb hK.1 hP k 1 (zw_get hs) rfl (zi_in h0 h1 hn) hd ?_
  rw [zi_clamp ⟨by omega, by omega⟩]
  exact kk H locs ls hP hS hl
theorem zupd_eq {σ : ZSt} {k : Nat} {i v : Int} (hi : zRg i) : upd (fun j => zi (σ k j)) (zi i).toNatClampNeg (zi v) = fun j => zi (zup σ k i.toNat v k j) := by
  funext j
  unfold upd zup
  rw [zi_clamp hi]
  by_cases hj : j = i.toNat
  · simp [hj]
  · simp [hj]
theorem z_iast (C : ZC E Γ h own cc) (hR : zRs σ) {k n : Nat} {i v : Int} (hs : zSH[k]? = some (.inl (0, n))) (h0 : 0 ≤ i) (h1 : i < n) (hv : zRg v) (hd : decode cc pc = .ok (.iastore, 1)) (kk : ∀ σ1 : ZSt, σ1 = zup σ k i.toNat v → zRs σ1 → ZG E Γ (pc + 1) lv st σ1) : ZG E Γ pc lv (ziv v :: ziv i :: zrf E k :: st) σ := by
  obtain ⟨p, l, e, R, s, m, args, below, meth, c, A, Q, nL, cells, slots⟩ := Γ
  obtain ⟨hx, hb, hown, hml, hts, hK, hA1, hA2, -⟩ := C
  intro H locs ls hP hS hl
  have hn := zSH_len _ _ _ hs
  refine va_iast (n := n) (f := fun j => zi (σ k j)) hx hb hK.1 hP (zD hK.2.2.2 hA1 σ) hS k 0 (zw_get hs) rfl (zi_in h0 h1 hn) hd (fun H1 locs1 hP1 hD1 hS1 => ?_)
  refine kk _ rfl (hR.up hv k i.toNat) H1 locs1 ls ?_ hS1 hl
  rw [← zw_set hs]
  rw [zupd_eq ⟨by omega, by omega⟩] at hP1
  exact hP1
theorem z_zast (C : ZC E Γ h own cc) (hR : zRs σ) {k n : Nat} {i v : Int} (hs : zSH[k]? = some (.inl (1, n))) (h0 : 0 ≤ i) (h1 : i < n) (hv : v = 0 ∨ v = 1) (hd : decode cc pc = .ok (.bastore, 1)) (kk : ∀ σ1 : ZSt, σ1 = zup σ k i.toNat v → zRs σ1 → ZG E Γ (pc + 1) lv st σ1) : ZG E Γ pc lv (ziv v :: ziv i :: zrf E k :: st) σ := by
  obtain ⟨p, l, e, R, s, m, args, below, meth, c, A, Q, nL, cells, slots⟩ := Γ
  obtain ⟨hx, hb, hown, hml, hts, hK, hA1, hA2, -⟩ := C
  intro H locs ls hP hS hl
  have hn := zSH_len _ _ _ hs
  refine va_zast (n := n) (f := fun j => zi (σ k j)) hx hb hK.1 hP (zD hK.2.2.2 hA1 σ) hS k 1 (zw_get hs) rfl (zi_in h0 h1 hn) hd (fun H1 locs1 hP1 hD1 hS1 => ?_)
  refine kk _ rfl (hR.up (zRg01 hv) k i.toNat) H1 locs1 ls ?_ hS1 hl
  rw [← zw_set hs]
  have e9 : vp_nar .boolean (zi v) = zi v := by rcases hv with rfl | rfl <;> decide
  rw [e9, zupd_eq ⟨by omega, by omega⟩] at hP1
  exact hP1
-- calls
theorem z_after_i {p : Program} {l : Launch} {e : Env} {R : Room} {s : State} {m : MethodId} {args : Array Value} {below : List Frame} {meth : Method} {c : Code} {H : Heap} {locs : List Loc} {cells slots : Nat} {Q : State → Prop} {ls : Array Slot} {rest st0 : List Value} {a : Array Value} {A0 A1 free : Nat → Prop} {P : Int → ZSt → Prop}
    (hr : va_Run p l e R s m args below meth c H locs cells slots 0 0 (F0 m pc ls st0) rest (ZQi E P A1 a) free) (hS : va_S A0 s.heap H locs) (hA : ∀ q, A1 q → A0 q) (hf : ∀ q, free q → A0 q)
    (kk : ∀ (r : Int) (σ' : ZSt) (H1 : Heap) (locs1 : List Loc), zRg r → zRs σ' → P r σ' → va_P E.1 zcls (zworld E σ') H1 → va_S A0 s.heap H1 locs1 → W p l e R s m args below meth c H1 locs1 cells slots Q (F0 m (pc + 3) ls (ziv r :: rest))) : W p l e R s m args below meth c H locs cells slots Q (F0 m pc ls st0) := by
  intro T hT X
  obtain ⟨v, st₀, t, T', L, h0, X', hL, e1, e2, ⟨⟨r, σ', hv, hg, hs, hp, hb⟩, hz, hk⟩, st⟩ := hr T hT X
  cases hv
  rw [h0] at hz hk
  obtain ⟨t2, a1, b1⟩ := kk r σ' T'.heap (locs ++ L) hg hs hp (by rw [e1]; exact hb)
    ⟨Nat.le_trans hS.1 (by rw [e1]; exact hz), fun q h1 h2 => by rw [e1, hk q (Nat.lt_of_lt_of_le h1 hS.1) (fun z => h2 (hA q z))]; exact hS.2.1 q h1 h2, fun q hq => by
      rcases List.mem_append.mp hq with h | h
      · exact hS.2.2 q h
      · exact hf _ (hL q h)⟩ T' rfl X'
  exact ⟨t2, st t2 a1, b1⟩
theorem z_after_v {p : Program} {l : Launch} {e : Env} {R : Room} {s : State} {m : MethodId} {args : Array Value} {below : List Frame} {meth : Method} {c : Code} {H : Heap} {locs : List Loc} {cells slots : Nat} {Q : State → Prop} {ls : Array Slot} {rest st0 : List Value} {a : Array Value} {A0 A1 free : Nat → Prop} {P : ZSt → Prop}
    (hr : va_Run p l e R s m args below meth c H locs cells slots 0 0 (F0 m pc ls st0) rest (ZQv E P A1 a) free) (hS : va_S A0 s.heap H locs) (hA : ∀ q, A1 q → A0 q) (hf : ∀ q, free q → A0 q)
    (kk : ∀ (σ' : ZSt) (H1 : Heap) (locs1 : List Loc), zRs σ' → P σ' → va_P E.1 zcls (zworld E σ') H1 → va_S A0 s.heap H1 locs1 → W p l e R s m args below meth c H1 locs1 cells slots Q (F0 m (pc + 3) ls rest)) : W p l e R s m args below meth c H locs cells slots Q (F0 m pc ls st0) := by
  intro T hT X
  obtain ⟨v, st₀, t, T', L, h0, X', hL, e1, e2, ⟨⟨σ', hv, hs, hp, hb⟩, hz, hk⟩, st⟩ := hr T hT X
  cases hv
  rw [h0] at hz hk
  obtain ⟨t2, a1, b1⟩ := kk σ' T'.heap (locs ++ L) hs hp (by rw [e1]; exact hb)
    ⟨Nat.le_trans hS.1 (by rw [e1]; exact hz), fun q h1 h2 => by rw [e1, hk q (Nat.lt_of_lt_of_le h1 hS.1) (fun z => h2 (hA q z))]; exact hS.2.1 q h1 h2, fun q hq => by
      rcases List.mem_append.mp hq with h | h
      · exact hS.2.2 q h
      · exact hf _ (hL q h)⟩ T' rfl X'
  exact ⟨t2, st t2 a1, b1⟩
/-- a call's words: of an instance's method, of a class's own, of a nest mate's -/
def ZV (own : String) (index : Nat) (y : MethodName) (cy : ByteArray) (maxL : Nat) (ret : Option FieldType) (n : Nat) : Prop := (∀ w ∈ ([.methodLink own index y, .instanceMethod y, .selects y.cls y y, .initialized y.cls, .code y cy maxL ret] : List Cond), w ∈ TB) ∧ (y.cls ≠ "java/lang/invoke/MethodHandle" ∧ y.cls ≠ "java/lang/invoke/VarHandle" ∧ (parseMethodDescriptor y.desc).map (fun d => d.parameters.length) = some n) ∧ maxL ≤ 21
def ZS (own : String) (index : Nat) (y : MethodName) (cy : ByteArray) (maxL : Nat) (ret : Option FieldType) (n : Nat) : Prop := (∀ w ∈ ([.methodLink own index y, .static y, .initialized y.cls, .code y cy maxL ret] : List Cond), w ∈ TB) ∧ (y.cls ≠ "java/lang/invoke/MethodHandle" ∧ y.cls ≠ "java/lang/invoke/VarHandle" ∧ (parseMethodDescriptor y.desc).map (fun d => d.parameters.length) = some n) ∧ maxL ≤ 21
def ZSN (own : String) (index : Nat) (y : MethodName) (cy : ByteArray) (maxL : Nat) (ret : Option FieldType) (n : Nat) : Prop := ((Cond.methodLinkNest own index y RX5 = znw1 ∨ Cond.methodLinkNest own index y RX5 = znw2) ∧ ∀ w ∈ ([.static y, .initialized y.cls, .code y cy maxL ret] : List Cond), w ∈ TB) ∧ (y.cls ≠ "java/lang/invoke/MethodHandle" ∧ y.cls ≠ "java/lang/invoke/VarHandle" ∧ (parseMethodDescriptor y.desc).map (fun d => d.parameters.length) = some n) ∧ maxL ≤ 21
theorem zws_TB {y : MethodName} {cy : ByteArray} {maxL : Nat} {ret : Option FieldType} (h : Cond.code y cy maxL ret ∈ TB) : ∀ w ∈ (Cond.code y cy maxL ret :: TB), w ∈ TB := by
  intro w hw
  rcases List.mem_cons.mp hw with h1 | h1
  · rw [h1]; exact h
  · exact h1
theorem zcwV {R : Room} {s : State} {args : Array Value} {index n maxL h' : Nat} {y : MethodName} {cy : ByteArray} {ret : Option FieldType} (hts : ∀ w ∈ TB, w.before args s = true) (mw : ZV own index y cy maxL ret n) (hh : h' + 1 ≤ h) (hR : h ≤ R.frames ∧ 40 * h ≤ R.locals) : CallW R s args own y.cls index y cy maxL ret (.code y cy maxL ret :: TB) (zroom h') 0 0 n := by
  obtain ⟨h1, h2, h3⟩ := mw
  refine cwV n hts (goodIn_tb (fun w h => h) ?_) rfl rfl rfl ⟨rfl, h2⟩ ⟨?_, ?_⟩
  · intro w hw
    rcases List.mem_append.mp hw with h | h
    · exact h1 w (by simp only [List.mem_cons, List.not_mem_nil, or_false] at h ⊢; rcases h with h | h | h | h <;> simp [h])
    · exact zws_TB (h1 _ (by simp)) w h
  · show h' + 1 ≤ _
    omega
  · show 8 + (maxL + 11) + 40 * h' ≤ _
    omega
theorem zcwS {R : Room} {s : State} {args : Array Value} {index n maxL h' : Nat} {y : MethodName} {cy : ByteArray} {ret : Option FieldType} (hts : ∀ w ∈ TB, w.before args s = true) (mw : ZS own index y cy maxL ret n) (hh : h' + 1 ≤ h) (hR : h ≤ R.frames ∧ 40 * h ≤ R.locals) : CallB R s args own index y cy maxL ret (.code y cy maxL ret :: TB) (zroom h') 0 0 n ∧ (Cond.static y).before args s = true := by
  obtain ⟨h1, h2, h3⟩ := mw
  refine va_cwS n hts (goodIn_tb (fun w h => h) ?_) rfl rfl rfl h2 ⟨?_, ?_⟩
  · intro w hw
    rcases List.mem_append.mp hw with h | h
    · exact h1 w (by simp only [List.mem_cons, List.not_mem_nil, or_false] at h ⊢; rcases h with h | h | h <;> simp [h])
    · exact zws_TB (h1 _ (by simp)) w h
  · show h' + 1 ≤ _
    omega
  · show 8 + (maxL + 11) + 40 * h' ≤ _
    omega
theorem zPre {s : State} {H : Heap} {As : List Value} {sz : Nat} (hP : va_P E.1 zcls (zworld E σ) H) (hK : ZK E s) (hz : H.size = sz) : PreS s H (ZPc E As σ sz) As :=
  ⟨zblind, fun U hU hW => ⟨rfl, by rw [hU]; exact hz, by rw [hU]; exact hP, hK.warm hW⟩⟩
theorem z_sum {m : MethodId} {ls : Array Slot} {rest st0 : List Value} (hr : (rest.map fun v => v.category).sum ≤ 8) : 2 * (F0 m pc ls st0).monitorRoom + (rest.map fun v => v.category).sum ≤ 8 := by
  show 2 * 0 + _ ≤ 8
  omega
theorem z_runV {p : Program} {l : Launch} {e : Env} {R : Room} {s : State} {m : MethodId} {args : Array Value} {below : List Frame} {meth : Method} {c : Code} {H : Heap} {locs : List Loc} {cells slots nL : Nat} {ls : Array Slot} {A : Nat → Prop} {Q : State → Prop} (C : ZC E (p, l, e, R, s, m, args, below, meth, c, A, Q, nL, cells, slots) h own cc) {y : MethodName} {cy : ByteArray} {maxL h' index k ci n N : Nat} {T : u_T} {ret : Option FieldType} {As rest st0 : List Value} {Qc : Array Value → State → Outcome → State → Prop} {free : Nat → Prop} {fs : List (Option Nat)}
    (hM : Met l y (.code y cy maxL ret :: TB) (zroom h') (ZPc E (zrf E k :: As) σ H.size) Qc 0 0 free) (mw : ZV own index y cy maxL ret n) (hh : h' + 1 ≤ h) (hs : zSH[k]? = some (.inr (ci, fs))) (hc : zcls[ci]? = some (y.cls, T, N)) (hn : As.length = n) (hst : st0 = As.reverse ++ zrf E k :: rest) (hrs : (rest.map fun v => v.category).sum ≤ 8) (hd : decode cc pc = .ok (.invokevirtual index, 3)) (hP : va_P E.1 zcls (zworld E σ) H) (hl : ls.size = nL) :
    va_Run p l e R s m args below meth c H locs cells slots 0 0 (F0 m pc ls st0) rest (Qc (zrf E k :: As).toArray) free := by
  obtain ⟨hx, hb, hown, hml, hts, hK, hA1, hA2, hR1, hR2, hR3, hR4⟩ := C
  have hp := zPre (As := zrf E k :: As) (s := s) (sz := H.size) hP hK rfl
  exact va_runV (C := y.cls) (b := E.2.2.2 k) ⟨hx, hb, hml, hown, hts⟩ hM (zcwV hts mw hh ⟨hR1, hR2⟩) ⟨hp.1, va_recv hK.1 hP hc (zw_get hs), hp.2⟩ rfl hn hl hst (z_sum hrs) hd ⟨hR3, hR4⟩
theorem z_subA {s : State} {H : Heap} {A : Nat → Prop} {locs : List Loc} (hA1 : ∀ k, k < zSH.length → A (E.2.2.2 k)) (hA2 : ∀ q, s.heap.size ≤ q → A q) (hS : va_S A s.heap H locs) : ∀ q, ZA E H.size q → A q := by
  intro q hq
  rcases hq with ⟨k, h1, h2⟩ | h1
  · rw [h2]; exact hA1 k h1
  · exact hA2 q (Nat.le_trans hS.1 h1)
theorem z_callVi (C : ZC E Γ h own cc) {y : MethodName} {cy : ByteArray} {maxL h' index k ci n N : Nat} {T : u_T} {ret : Option FieldType} {As rest st0 : List Value} {fs : List (Option Nat)} {P : Int → ZSt → Prop}
    (hM : ZMi E h' y cy maxL ret (zrf E k :: As) σ P) (mw : ZV own index y cy maxL ret n) (hh : h' + 1 ≤ h) (hs : zSH[k]? = some (.inr (ci, fs))) (hc : zcls[ci]? = some (y.cls, T, N)) (hn : As.length = n) (hst : st0 = As.reverse ++ zrf E k :: rest) (hrs : (rest.map fun v => v.category).sum ≤ 8) (hd : decode cc pc = .ok (.invokevirtual index, 3))
    (kk : ∀ (r : Int) (σ' : ZSt), zRg r → zRs σ' → P r σ' → ZG E Γ (pc + 3) lv (ziv r :: rest) σ') : ZG E Γ pc lv st0 σ := by
  obtain ⟨p, l, e, R, s, m, args, below, meth, c, A, Q, nL, cells, slots⟩ := Γ
  intro H locs ls hP hS hl
  have hr := z_runV (locs := locs) (ls := ls) (pc := pc) (st0 := st0) C (hM l H.size) mw hh hs hc hn hst hrs hd hP hl.1
  obtain ⟨hx, hb, hown, hml, hts, hK, hA1, hA2, hR1, hR2, hR3, hR4⟩ := C
  have hA := z_subA hA1 hA2 hS
  exact z_after_i hr hS hA hA (fun r σ' H1 locs1 g1 g2 g3 g4 g5 => kk r σ' g1 g2 g3 H1 locs1 ls g4 g5 hl)
theorem z_callVv (C : ZC E Γ h own cc) {y : MethodName} {cy : ByteArray} {maxL h' index k ci n N : Nat} {T : u_T} {As rest st0 : List Value} {fs : List (Option Nat)} {P : ZSt → Prop}
    (hM : ZMv E h' y cy maxL (zrf E k :: As) σ P) (mw : ZV own index y cy maxL none n) (hh : h' + 1 ≤ h) (hs : zSH[k]? = some (.inr (ci, fs))) (hc : zcls[ci]? = some (y.cls, T, N)) (hn : As.length = n) (hst : st0 = As.reverse ++ zrf E k :: rest) (hrs : (rest.map fun v => v.category).sum ≤ 8) (hd : decode cc pc = .ok (.invokevirtual index, 3))
    (kk : ∀ (σ' : ZSt), zRs σ' → P σ' → ZG E Γ (pc + 3) lv rest σ') : ZG E Γ pc lv st0 σ := by
  obtain ⟨p, l, e, R, s, m, args, below, meth, c, A, Q, nL, cells, slots⟩ := Γ
  intro H locs ls hP hS hl
  have hr := z_runV (locs := locs) (ls := ls) (pc := pc) (st0 := st0) C (hM l H.size) mw hh hs hc hn hst hrs hd hP hl.1
  obtain ⟨hx, hb, hown, hml, hts, hK, hA1, hA2, hR1, hR2, hR3, hR4⟩ := C
  have hA := z_subA hA1 hA2 hS
  exact z_after_v hr hS hA hA (fun σ' H1 locs1 g2 g3 g4 g5 => kk σ' g2 g3 H1 locs1 ls g4 g5 hl)
theorem z_callSi (C : ZC E Γ h own cc) {y : MethodName} {cy : ByteArray} {maxL h' index n : Nat} {ret : Option FieldType} {As rest st0 : List Value} {P : Int → ZSt → Prop}
    (hM : ZMi E h' y cy maxL ret As σ P) (mw : ZS own index y cy maxL ret n) (hh : h' + 1 ≤ h) (hn : As.length = n) (hst : st0 = As.reverse ++ rest) (hrs : (rest.map fun v => v.category).sum ≤ 8) (hd : decode cc pc = .ok (.invokestatic index, 3))
    (kk : ∀ (r : Int) (σ' : ZSt), zRg r → zRs σ' → P r σ' → ZG E Γ (pc + 3) lv (ziv r :: rest) σ') : ZG E Γ pc lv st0 σ := by
  obtain ⟨p, l, e, R, s, m, args, below, meth, c, A, Q, nL, cells, slots⟩ := Γ
  intro H locs ls hP hS hl
  obtain ⟨hx, hb, hown, hml, hts, hK, hA1, hA2, hR1, hR2, hR3, hR4⟩ := C
  have hp := zPre (As := As) (s := s) (sz := H.size) hP hK rfl
  have hr := va_runS (p := p) (l := l) (e := e) (below := below) (meth := meth) (H := H) (locs := locs) (cells := cells) (slots := slots) (g := F0 m pc ls st0) (rest := rest) ⟨hx, hb, hml, hown, hts⟩ (hM l H.size) (zcwS hts mw hh ⟨hR1, hR2⟩) hp rfl hn hl.1 hst (z_sum hrs) hd ⟨hR3, hR4⟩
  have hA := z_subA hA1 hA2 hS
  exact z_after_i hr hS hA hA (fun r σ' H1 locs1 g1 g2 g3 g4 g5 => kk r σ' g1 g2 g3 H1 locs1 ls g4 g5 hl)
theorem z_callNi (C : ZC E Γ h own cc) {y : MethodName} {cy : ByteArray} {maxL h' index n : Nat} {ret : Option FieldType} {As rest st0 : List Value} {P : Int → ZSt → Prop}
    (hM : ZMi E h' y cy maxL ret As σ P) (mw : ZSN own index y cy maxL ret n) (hh : h' + 1 ≤ h) (hn : As.length = n) (hst : st0 = As.reverse ++ rest) (hrs : (rest.map fun v => v.category).sum ≤ 8) (hd : decode cc pc = .ok (.invokestatic index, 3))
    (kk : ∀ (r : Int) (σ' : ZSt), zRg r → zRs σ' → P r σ' → ZG E Γ (pc + 3) lv (ziv r :: rest) σ') : ZG E Γ pc lv st0 σ := by
  obtain ⟨p, l, e, R, s, m, args, below, meth, c, A, Q, nL, cells, slots⟩ := Γ
  intro H locs ls hP hS hl
  obtain ⟨hx, hb, hown, hml, hts, hK, hA1, hA2, hR1, hR2, hR3, hR4⟩ := C
  have hp := zPre (As := As) (s := s) (sz := H.size) hP hK rfl
  obtain ⟨⟨hnw, h1⟩, h2, h3⟩ := mw
  have hlink : va_Nw (.methodLinkNest own index y RX5) s := by
    rcases hnw with h | h
    · rw [h]; exact hK.2.1
    · rw [h]; exact hK.2.2.1
  have hG : GoodIn TB (.code y cy maxL ret :: TB) := goodIn_tb (fun w h => h) (zws_TB (h1 _ (by simp)))
  have hr := va_runSN (p := p) (l := l) (e := e) (below := below) (meth := meth) (H := H) (locs := locs) (cells := cells) (slots := slots) (g := F0 m pc ls st0) (rest := rest) (host := RX5) ⟨hx, hb, hml, hown, hts⟩ (hM l H.size)
    ⟨va_cnB n hts hG rfl rfl rfl hlink (hts _ (h1 _ (by simp))) h2 ⟨by show h' + 1 ≤ _; omega, by show 8 + (maxL + 11) + 40 * h' ≤ _; omega⟩, hts _ (h1 _ (by simp)), trivial⟩ hp rfl hn hl.1 hst (z_sum hrs) hd ⟨hR3, hR4⟩
  have hA := z_subA hA1 hA2 hS
  exact z_after_i hr hS hA hA (fun r σ' H1 locs1 g1 g2 g3 g4 g5 => kk r σ' g1 g2 g3 H1 locs1 ls g4 g5 hl)
theorem z_callVp (C : ZC E Γ h own cc) {y : MethodName} {cy : ByteArray} {maxL h' index k ci n N : Nat} {T : u_T} {ret : Option FieldType} {As rest st0 : List Value} {fs : List (Option Nat)} {P : Int → Prop}
    (hM : ZMi E h' y cy maxL ret (zrf E k :: As) σ (fun r σ' => P r ∧ σ' = σ)) (mw : ZV own index y cy maxL ret n) (hh : h' + 1 ≤ h) (hs : zSH[k]? = some (.inr (ci, fs))) (hc : zcls[ci]? = some (y.cls, T, N)) (hn : As.length = n) (hst : st0 = As.reverse ++ zrf E k :: rest) (hrs : (rest.map fun v => v.category).sum ≤ 8) (hd : decode cc pc = .ok (.invokevirtual index, 3))
    (kk : ∀ (r : Int), zRg r → P r → ZG E Γ (pc + 3) lv (ziv r :: rest) σ) : ZG E Γ pc lv st0 σ := z_callVi C hM mw hh hs hc hn hst hrs hd (fun r σ' g _ hp => by rw [hp.2]; exact kk r g hp.1)
theorem z_callSp (C : ZC E Γ h own cc) {y : MethodName} {cy : ByteArray} {maxL h' index n : Nat} {ret : Option FieldType} {As rest st0 : List Value} {P : Int → Prop}
    (hM : ZMi E h' y cy maxL ret As σ (fun r σ' => P r ∧ σ' = σ)) (mw : ZS own index y cy maxL ret n) (hh : h' + 1 ≤ h) (hn : As.length = n) (hst : st0 = As.reverse ++ rest) (hrs : (rest.map fun v => v.category).sum ≤ 8) (hd : decode cc pc = .ok (.invokestatic index, 3))
    (kk : ∀ (r : Int), zRg r → P r → ZG E Γ (pc + 3) lv (ziv r :: rest) σ) : ZG E Γ pc lv st0 σ := z_callSi C hM mw hh hn hst hrs hd (fun r σ' g _ hp => by rw [hp.2]; exact kk r g hp.1)
theorem z_callNp (C : ZC E Γ h own cc) {y : MethodName} {cy : ByteArray} {maxL h' index n : Nat} {ret : Option FieldType} {As rest st0 : List Value} {P : Int → Prop}
    (hM : ZMi E h' y cy maxL ret As σ (fun r σ' => P r ∧ σ' = σ)) (mw : ZSN own index y cy maxL ret n) (hh : h' + 1 ≤ h) (hn : As.length = n) (hst : st0 = As.reverse ++ rest) (hrs : (rest.map fun v => v.category).sum ≤ 8) (hd : decode cc pc = .ok (.invokestatic index, 3))
    (kk : ∀ (r : Int), zRg r → P r → ZG E Γ (pc + 3) lv (ziv r :: rest) σ) : ZG E Γ pc lv st0 σ := z_callNi C hM mw hh hn hst hrs hd (fun r σ' g _ hp => by rw [hp.2]; exact kk r g hp.1)
-- Math.min, Math.max
def ZMt (own : String) (index : Nat) (y : MethodName) (cy : ByteArray) : Prop := ∀ w ∈ ([.methodLink own index y, .static y, .initialized "java/lang/Math", .code y cy 2 (some .int)] : List Cond), w ∈ TB
theorem z_min (C : ZC E Γ h own cc) {index : Nat} {a b : Int} (mw : ZMt own index Lib.Math.min.name Lib.Math.min.code) (ha : zRg a) (hb2 : zRg b) (hh : 1 ≤ h) (hrs : (st.map fun v => v.category).sum ≤ 8) (hd : decode cc pc = .ok (.invokestatic index, 3)) (kk : ZG E Γ (pc + 3) lv (ziv (min a b) :: st) σ) : ZG E Γ pc lv (ziv b :: ziv a :: st) σ := by
  obtain ⟨p, l, e, R, s, m, args, below, meth, c, A, Q, nL, cells, slots⟩ := Γ
  obtain ⟨hx, hb, hown, hml, hts, hK, hA1, hA2, hR1, hR2, hR3, hR4⟩ := C
  intro H locs ls hP hS hl
  refine va_mmin hx hb (by rw [hml]; exact hl.1.symm) hown (hts _ (mw _ (by simp))) (hts _ (mw _ (by simp))) (hts _ (mw _ (by simp))) (hts _ (mw _ (by simp))) (by omega) (by omega) hR3 hR4 hd ?_
  have k2 := kk H locs ls hP hS hl
  have e1 : zi (min a b) = if zi b < zi a then zi b else zi a := by
    by_cases hab : b < a
    · rw [if_pos ((zi_lt hb2 ha).mpr hab), Int.min_eq_right (by omega)]
    · rw [if_neg (fun q => hab ((zi_lt hb2 ha).mp q)), Int.min_eq_left (by omega)]
  rw [ziv, e1] at k2
  exact k2
theorem z_max (C : ZC E Γ h own cc) {index : Nat} {a b : Int} (mw : ZMt own index Lib.Math.max.name Lib.Math.max.code) (ha : zRg a) (hb2 : zRg b) (hh : 1 ≤ h) (hrs : (st.map fun v => v.category).sum ≤ 8) (hd : decode cc pc = .ok (.invokestatic index, 3)) (kk : ZG E Γ (pc + 3) lv (ziv (max a b) :: st) σ) : ZG E Γ pc lv (ziv b :: ziv a :: st) σ := by
  obtain ⟨p, l, e, R, s, m, args, below, meth, c, A, Q, nL, cells, slots⟩ := Γ
  obtain ⟨hx, hb, hown, hml, hts, hK, hA1, hA2, hR1, hR2, hR3, hR4⟩ := C
  intro H locs ls hP hS hl
  refine va_mmax hx hb (by rw [hml]; exact hl.1.symm) hown (hts _ (mw _ (by simp))) (hts _ (mw _ (by simp))) (hts _ (mw _ (by simp))) (hts _ (mw _ (by simp))) (by omega) (by omega) hR3 hR4 hd ?_
  have k2 := kk H locs ls hP hS hl
  have e1 : zi (max a b) = if zi a < zi b then zi b else zi a := by
    by_cases hab : a < b
    · rw [if_pos ((zi_lt ha hb2).mpr hab), Int.max_eq_right (by omega)]
    · rw [if_neg (fun q => hab ((zi_lt ha hb2).mp q)), Int.max_eq_left (by omega)]
  rw [ziv, e1] at k2
  exact k2
end ROWS
