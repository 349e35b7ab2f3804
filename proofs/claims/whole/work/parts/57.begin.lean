/-! ===== the law from its entry ===== -/
def kaddr (q0 q31 : Nat) (u v : Nat → Nat) : Nat → Nat := fun k => if k = 0 then q0 else if k < 31 then u k else if k = 31 then q31 else v (k - 31)
def kE (D : KD) (q0 q31 : Nat) (u v : Nat → Nat) : ZE := (D.1, D.2.1, D.2.2, kaddr q0 q31 u v)
theorem sg0_arr (E : ZE) (k t n : Nat) (h : k ≠ 0 ∧ k ≠ 31) : zcell E sg0 k (.inl (t, n)) = .inl (if t = 0 then E.2.1 else E.2.2.1, n, .inl (fun _ => zi 0)) := by
  simp only [zcell, sg0_row h]
theorem kworld (D : KD) (q0 q31 : Nat) (u v : Nat → Nat) : zworld (kE D q0 q31 u v) sg0 = kb5 D q0 u ++ kb6 D q31 v := rfl
theorem kstart {s : State} {args : Array Value} (hts : ∀ w ∈ lw_tbl, w.before args s = true) : ∃ D : KD, KZ D s ∧ va_Nw znw1 s ∧ va_Nw znw2 s := by
  have hTB : ∀ w ∈ TB, w.before args s = true := fun w hw => hts w (tb_in hw)
  obtain ⟨c0, i0, k0⟩ := u_known (C := RX0) (T := TX0) (N := 6) (n := 6) hTB inTB0 (hTB _ tI0)
  obtain ⟨c1, i1, k1⟩ := u_known (C := RX1) (T := TX1) (N := 6) (n := 6) hTB inTB1 (hTB _ tI1)
  obtain ⟨c2, i2, k2⟩ := u_known (C := RX2) (T := TX2) (N := 14) (n := 14) hTB inTB2 (hTB _ tI2)
  obtain ⟨c3, i3, k3⟩ := u_known (C := RX3) (T := TX3) (N := 2) (n := 2) hTB inTB3 (hTB _ tI3)
  obtain ⟨c4, i4, k4⟩ := u_known (C := RX4) (T := TX4) (N := 5) (n := 5) hTB inTB4 (hTB _ tI4)
  obtain ⟨c5, i5, k5⟩ := u_known (C := RX5) (T := TX5) (N := 11) (n := 11) hTB inTB5 (hTB _ tI5)
  obtain ⟨c6, i6, k6⟩ := u_known (C := RX6) (T := TX6) (N := 40) (n := 40) hTB inTB6 (hTB _ tI6)
  obtain ⟨cI, kI, pI, a1, a2, a3⟩ := Cond.arrayClass_spec (hTB _ wAI)
  obtain ⟨cZ, kZ, pZ, b1, b2, b3⟩ := Cond.arrayClass_spec (hTB _ wAZ)
  refine ⟨((fun k => match k with | 0 => c0 | 1 => c1 | 2 => c2 | 3 => c3 | 4 => c4 | 5 => c5 | _ => c6, fun k => match k with | 0 => i0 | 1 => i1 | 2 => i2 | 3 => i3 | 4 => i4 | 5 => i5 | _ => i6), cI, cZ), ⟨⟨?_, ?_⟩, va_Nw.of rfl (hts _ kn9), va_Nw.of rfl (hts _ kn18), va_Nw.of rfl (hts _ kn28)⟩, va_Nw.of rfl (hts _ kn40), va_Nw.of rfl (hts _ kn85)⟩
  · intro k q hq
    match k, hq with
    | 0, hq => cases hq; exact k0
    | 1, hq => cases hq; exact k1
    | 2, hq => cases hq; exact k2
    | 3, hq => cases hq; exact k3
    | 4, hq => cases hq; exact k4
    | 5, hq => cases hq; exact k5
    | 6, hq => cases hq; exact k6
    | k + 7, hq => simp [zcls] at hq
  · intro k q hq
    match k, hq with
    | 0, hq => cases hq; exact ⟨fun n z => ⟨fun k h => (by cases h), kI, a2, pI, a3⟩, a1⟩
    | 1, hq => cases hq; exact ⟨fun n z => ⟨fun k h => (by cases h), kZ, b2, pZ, b3⟩, b1⟩
    | k + 2, hq => simp [ktys] at hq
theorem law_new {D : KD} {Γ : KT} {b : Nat} (C : KC D Γ room_1 RL cL_law) (hN : KN Γ 4) (fin : ∀ (q0 q31 : Nat) (u v : Nat → Nat), KG D Γ 54 18634 18 [some (.ref b), some (.ref q0), some (.ref q31), some (ziv 0)] [] (kb5 D q0 u ++ kb6 D q31 v)) : KG D Γ 0 0 0 [some (.ref b), none, none, none] [] [] := by
  refine k_new (pc := 0) (cn' := 1) (sn' := 11) C kwL_7 rfl rfl (Nat.le_of_ble_eq_true rfl) (Nat.le_of_ble_eq_true rfl) dL_law_0 (fun q0 => ?_)
  refine k_dup (pc := 3) C dL_law_3 rfl ?_
  refine k_callI (pc := 4) (As := []) (rest := [.ref q0]) (wr := []) (cn' := 31) (sn' := 2388) C (C_X5_init D q0) kv5 lL_9 ⟨Nat.le_of_ble_eq_true rfl, Nat.le_of_ble_eq_true rfl⟩ rfl rfl ⟨Nat.le_of_ble_eq_true rfl, Nat.le_of_ble_eq_true rfl⟩ rfl rfl (Nat.le_of_ble_eq_true rfl) rfl dL_law_4 (fun u => ?_)
  refine k_astore_n (pc := 7) (lv' := [some (.ref b), some (.ref q0), none, none]) C hN dL_law_7 rfl (by decide) rfl ?_
  refine k_new (pc := 8) (cn' := 32) (sn' := 2428) C kwL_10 rfl rfl (Nat.le_of_ble_eq_true rfl) (Nat.le_of_ble_eq_true rfl) dL_law_8 (fun q31 => ?_)
  refine k_dup (pc := 11) C dL_law_11 rfl ?_
  refine k_callI (pc := 12) (As := []) (rest := [.ref q31]) (wr := kb5 D q0 u) (cn' := 54) (sn' := 18634) C (C_X6_init D q31) kv6 lL_12 ⟨Nat.le_of_ble_eq_true rfl, Nat.le_of_ble_eq_true rfl⟩ rfl rfl ⟨Nat.le_of_ble_eq_true rfl, Nat.le_of_ble_eq_true rfl⟩ rfl rfl (Nat.le_of_ble_eq_true rfl) rfl dL_law_12 (fun v => ?_)
  refine k_astore_n (pc := 15) (lv' := [some (.ref b), some (.ref q0), some (.ref q31), none]) C hN dL_law_15 rfl (by decide) rfl ?_
  refine k_iconst (pc := 16) C dL_law_16 ?_
  refine k_istore_n (pc := 17) (lv' := [some (.ref b), some (.ref q0), some (.ref q31), some (ziv 0)]) C hN dL_law_17 rfl (by decide) rfl ?_
  exact fin q0 q31 u v
theorem whole_start {p : Program} {e : Env} {s : State} {m : MethodId} {below : List Frame} {meth : Method} {c : Code} (l : Launch) (hflags : l.flags = flags0) {b L : Nat} {xs : Nat → Int32} (hL : L ≤ 2048) (C0 : lw_At p s m meth c b L xs) : W p l e room_1 s m #[Value.ref b] below meth c s.heap [] 0 0 (lw_Z below #[Value.ref b] s) (entryFrame m ([Value.ref b] : List Value).toArray 4) := by
  obtain ⟨hx, hb, hr, hml, hown, hts, hX, hbl, hlocks, hgv⟩ := C0
  obtain ⟨D, hKZ, hn1, hn2⟩ := kstart hts
  have hTB : ∀ w ∈ TB, w.before #[Value.ref b] s = true := fun w hw => hts w (tb_in hw)
  have hP0 : va_P D.1 zcls [] s.heap := fun k q h => by simp at h
  have hD0 : va_D (fun q : Nat => s.heap.size ≤ q) [] := ⟨fun i j p q h => by simp at h, fun k q h => by simp at h⟩
  refine kentry (D := D) (As := [.ref b]) (maxL := 4) (w0 := []) (A := fun q : Nat => s.heap.size ≤ q) rfl (Nat.le_of_ble_eq_true rfl) hP0 hD0 ?_
  refine law_new ⟨hx, hb, hown, hml, hTB, hKZ, fun _ h => h, Nat.le_refl _, Nat.le_refl _, Nat.le_refl _, Nat.le_refl _⟩ rfl (fun q0 q31 u v => ?_)
  intro H locs ls hP hD hS hl
  have hP' : va_P D.1 zcls (zworld (kE D q0 q31 u v) sg0) H := by rw [kworld]; exact hP
  have hD' : va_D (fun q : Nat => s.heap.size ≤ q) (zworld (kE D q0 q31 u v) sg0) := by rw [kworld]; exact hD
  have hI : ZInj (kE D q0 q31 u v) := fun i j hi hj he => hD'.1 i j _ _ (zw_get (List.getElem?_eq_getElem hi)) (zw_get (List.getElem?_eq_getElem hj)) he
  have hA1 : ∀ k, k < zSH.length → s.heap.size ≤ (kE D q0 q31 u v).2.2.2 k := fun k hk => hD'.2 k _ (zw_get (List.getElem?_eq_getElem hk))
  have C : ZC (kE D q0 q31 u v) (p, l, e, room_1, s, m, #[Value.ref b], below, meth, c, (fun q : Nat => s.heap.size ≤ q), lw_Z below #[Value.ref b] s, 4, 54, 18634) 220 RL cL_law :=
    ⟨hx, hb, hown, hml, hTB, ⟨hKZ.1, hn1, hn2, hI⟩, hA1, fun _ h => h, Nat.le_of_ble_eq_true rfl, Nat.le_of_ble_eq_true rfl, Nat.le_of_ble_eq_true rfl, Nat.le_of_ble_eq_true rfl⟩
  refine law_loop (b := b) (L := L) (xs := xs) C rfl ⟨hX, hbl, Nat.not_le.mpr hbl⟩ hL (fun pc lv σ hd H locs ls hP hS hl => ?_) (L + 5) 0 sg0 (by omega) sg0_rs sim0 (by omega) H locs ls hP' hS hl
  refine va_forget (fun q hq => hS.2.2 q hq) ?_
  refine W.widen (k := 600000) (n := 7302250) (Nat.le_of_ble_eq_true rfl) (Nat.le_of_ble_eq_true rfl) ?_
  exact lw_ret hx hb hr hlocks hd
