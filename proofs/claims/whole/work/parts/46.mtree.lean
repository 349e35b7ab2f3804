/-! ===== printing in the reference, on ===== -/
theorem z010 : (0 : Int) ≤ 0 ∧ (0 : Int) ≤ 10 := by decide
theorem yeo_len (τ : ZSt) (z o b m x : Int) : (yeo τ z o b m x).length ≤ 3 := by
  by_cases hc9 : b = -1
  · rw [yeo_none hc9]; simp
  · rw [yeo_in hc9]; exact ypo_len τ z o b m x
abbrev E4 : Type := Int × Int × Int × Int
def ewt (τ : ZSt) (e : E4) : Int := if e.1 < 0 then 1 else 7 * xnsz τ 7 e.1
def esum (τ : ZSt) : List E4 → Int
  | [] => 0
  | e :: l => ewt τ e + esum τ l
noncomputable def etx (τ : ZSt) (z : Int) : List E4 → List Int
  | [] => []
  | e :: l => zif (e.1 < 0) [e.2.1] (YT τ z e.1 e.2.2.1 e.2.2.2) ++ etx τ z l
def EOk (a : Int) (e : E4) : Prop := e.1 = -10 ∨ ((0 ≤ e.1 ∧ e.1 ≤ a) ∧ (0 ≤ e.2.2.1 ∧ e.2.2.1 ≤ 10) ∧ (0 ≤ e.2.2.2 ∧ e.2.2.2 ≤ 10))
def Es (a : Int) : List E4 → Prop
  | [] => True
  | e :: l => EOk a e ∧ Es a l
theorem esum_app (τ : ZSt) (l k : List E4) : esum τ (l ++ k) = esum τ l + esum τ k := by
  induction l with
  | nil => show esum τ k = 0 + esum τ k; omega
  | cons e l ih => show ewt τ e + esum τ (l ++ k) = ewt τ e + esum τ l + esum τ k; omega
theorem etx_app (τ : ZSt) (z : Int) (l k : List E4) : etx τ z (l ++ k) = etx τ z l ++ etx τ z k := by
  induction l with
  | nil => rfl
  | cons e l ih => show _ ++ etx τ z (l ++ k) = _ ++ etx τ z l ++ etx τ z k; rw [ih, List.append_assoc]
theorem Es.app {a : Int} {l k : List E4} (h1 : Es a l) (h2 : Es a k) : Es a (l ++ k) := by
  induction l with
  | nil => exact h2
  | cons e l ih => exact ⟨h1.1, ih h1.2⟩
theorem Es.len {τ : ZSt} (w : W7 τ) {a : Int} (ha : a < τ 7 5) : ∀ l : List E4, Es a l → (l.length : Int) ≤ esum τ l := by
  intro l
  induction l with
  | nil => intro _; show ((0 : Nat) : Int) ≤ 0; decide
  | cons e l ih =>
    intro h
    have h2 := ih h.2
    have h1 : 1 ≤ ewt τ e := by
      unfold ewt
      rcases h.1 with q | q
      · rw [if_pos (by omega)]; decide
      · rw [if_neg (by omega)]
        have := (w.node (v := e.1) (by omega)).1
        omega
    have hl : (e :: l).length = l.length + 1 := rfl
    show ((e :: l).length : Int) ≤ ewt τ e + esum τ l
    omega
theorem YT_leaf {τ : ZSt} {z : Int} (w : W7 τ) {b m x : Int} (hb : 0 ≤ b ∧ b < τ 7 5) (h : xnop τ 7 b = -1) : YT τ z b m x = [xnlet τ 7 b] := by rw [YT_eq w hb, zif_pos h]
theorem yeo_ok {τ : ZSt} (w : W7 τ) {z o b m x a : Int} (kb : Kd τ b) (hba : b ≤ a) (hmx : (0 ≤ m ∧ m ≤ 10) ∧ (0 ≤ x ∧ x ≤ 10)) : etx τ z (yeo τ z o b m x) = yto τ z (YT τ z) o b m x ∧ esum τ (yeo τ z o b m x) ≤ 7 * xnsz τ 7 b + 2 ∧ Es a (yeo τ z o b m x) := by
  rcases kb with kb | kb
  · rw [yeo_none kb]
    unfold yto
    rw [zif_pos kb, (xn_none kb).2.2.2.2]
    exact ⟨rfl, by show (0 : Int) ≤ 7 * 0 + 2; decide, trivial⟩
  · rw [yeo_in (by omega)]
    have hs := (w.node kb).1
    unfold ypo yto
    rw [zif_neg (c := b = -1) (by omega)]
    have e0 : ewt τ (b, -10, 0, 0) = 7 * xnsz τ 7 b := if_neg (by show ¬ b < 0; omega)
    have e1 : ewt τ (b, -10, m, x) = 7 * xnsz τ 7 b := if_neg (by show ¬ b < 0; omega)
    by_cases c : xnop τ 7 b = -1
    · rw [zif_pos c, zif_neg (fun q => q.1 c)]
      refine ⟨?_, ?_, ⟨Or.inr ⟨⟨kb.1, hba⟩, z010, z010⟩, trivial⟩⟩
      · show zif (b < 0) _ _ ++ [] = _
        rw [zif_neg (by omega), List.append_nil, YT_leaf w kb c, YT_leaf w kb c]
      · show ewt τ (b, -10, 0, 0) + 0 ≤ _
        omega
    · rw [zif_neg c]
      by_cases d : z ≠ 0 ∨ 1 + YC τ b 0 0 < xpi τ (YC τ) o b m x
      · rw [zif_pos d, zif_pos ⟨c, d⟩]
        refine ⟨?_, ?_, ⟨Or.inl rfl, Or.inr ⟨⟨kb.1, hba⟩, z010, z010⟩, Or.inl rfl, trivial⟩⟩
        · show zif ((-10 : Int) < 0) [40] _ ++ (zif (b < 0) _ (YT τ z b 0 0) ++ (zif ((-10 : Int) < 0) [41] _ ++ [])) = _
          rw [zif_pos (by decide), zif_neg (by omega), zif_pos (by decide), List.append_nil, List.append_assoc]
        · show 1 + (ewt τ (b, -10, 0, 0) + (1 + 0)) ≤ _
          omega
      · rw [zif_neg d, zif_neg (fun q => d q.2)]
        refine ⟨?_, ?_, ⟨Or.inr ⟨⟨kb.1, hba⟩, hmx⟩, trivial⟩⟩
        · show zif (b < 0) _ _ ++ [] = _
          rw [zif_neg (by omega), List.append_nil]
        · show ewt τ (b, -10, m, x) + 0 ≤ _
          omega
theorem ypp_ok {τ : ZSt} (w : W7 τ) (wo : WO τ) {z b m x a : Int} (hb : 0 ≤ b ∧ b < τ 7 5) (hba : b ≤ a) (hop : xnop τ 7 b ≠ -1) (hmx : (0 ≤ m ∧ m ≤ 10) ∧ (0 ≤ x ∧ x ≤ 10)) : etx τ z (ypp τ z b m x) = YT τ z b m x ∧ esum τ (ypp τ z b m x) + 1 ≤ 7 * xnsz τ 7 b ∧ Es a (ypp τ z b m x) := by
  obtain ⟨k1, k2⟩ := w.kids hb
  obtain ⟨h1, hz, l1, l2, l3⟩ := w.node hb
  have hq : 0 ≤ xnop τ 7 b ∧ xnop τ 7 b < τ 1 5 := by omega
  have hl := wo.lev hq
  obtain ⟨p1, p2, p3⟩ := yeo_ok w (z := z) (o := xnop τ 7 b) (m := m) (x := xlev τ (xnop τ 7 b)) (a := a) k1 (by omega) (by omega)
  obtain ⟨q1, q2, q3⟩ := yeo_ok w (z := z) (o := xnop τ 7 b) (m := xmin τ (xnop τ 7 b)) (x := x) (a := a) k2 (by omega) (by omega)
  unfold ypp
  refine ⟨?_, ?_, p3.app ⟨Or.inl rfl, q3⟩⟩
  · rw [etx_app, p1, YT_eq w hb, zif_neg hop]
    show _ ++ (zif ((-10 : Int) < 0) _ _ ++ etx τ z _) = _
    rw [zif_pos (by decide), q1, List.append_assoc]
  · rw [esum_app]
    show _ + (1 + esum τ _) + 1 ≤ _
    omega
/-- the first signs of a row -/
def putf (f : Nat → Int) (L : List Int) : Nat → Int := fun j => (L[j]?).getD (f j)
theorem putf_nil (f : Nat → Int) : putf f [] = f := by funext j; simp [putf]
theorem putf_st (f : Nat → Int) (L : List Int) (a : Int) (σ : ZSt) (k : Nat) (h : σ k = putf f L) : zup σ k L.length a k = putf f (L ++ [a]) := by
  funext j
  unfold zup
  by_cases e : j = L.length
  · subst e
    simp [putf]
  · rw [if_neg (fun q => e q.2), h]
    unfold putf
    rcases Nat.lt_or_ge j L.length with q | q
    · rw [List.getElem?_append_left q]
    · rw [List.getElem?_append_right q, List.getElem?_eq_none (l := L) q, List.getElem?_eq_none (by simp; omega)]
def SameT (σ ρ : ZSt) : Prop := (∀ c, c ≠ 31 ∧ c ≠ 42 ∧ c ≠ 46 ∧ c ≠ 47 → ρ c = σ c) ∧ ∀ j, j ≠ 13 ∧ j ≠ 14 ∧ j ≠ 23 → ρ 31 j = σ 31 j
def PI (τ σ : ZSt) (a z : Int) (ρ : ZSt) (es : List E4) (dn : List Int) : Prop := WS ρ es ∧ Es a es ∧ dn ++ etx τ z es = YT τ z a 0 0 ∧ (ρ 42 = putf (σ 42) dn ∧ ρ 31 13 = dn.length) ∧ esum τ es ≤ 280 ∧ LY τ ρ (121 * (a + 1)) ∧ SameT σ ρ
theorem YT_len {τ : ZSt} {z : Int} (w : W7 τ) (wo : WO τ) {a : Int} (ha : 0 ≤ a ∧ a < τ 7 5) : (YT τ z a 0 0).length ≤ 118 := by
  have := YT_ok (z := z) w wo 40 a ha (w.node ha).1.2 0 0
  have h2 := (w.node ha).1
  omega
theorem PI.dn {τ σ ρ : ZSt} {a z : Int} {es : List E4} {dn : List Int} (h : PI τ σ a z ρ es dn) (w : W7 τ) (wo : WO τ) (ha : 0 ≤ a ∧ a < τ 7 5) : dn.length + (etx τ z es).length ≤ 118 := by
  have h1 := YT_len (z := z) w wo ha
  rw [← h.2.2.1, List.length_append] at h1
  exact h1
theorem PI.dlt {τ σ ρ : ZSt} {a z c : Int} {e : E4} {l : List E4} {dn : List Int} (h : PI τ σ a z ρ (e :: l) dn) (w : W7 τ) (wo : WO τ) (ha : 0 ≤ a ∧ a < τ 7 5) (hc : zif (e.1 < 0) [e.2.1] (YT τ z e.1 e.2.2.1 e.2.2.2) = [c]) : dn.length < 118 := by
  have h9 := h.dn w wo ha
  have h8 : etx τ z (e :: l) = [c] ++ etx τ z l := by rw [← hc]; rfl
  rw [h8, List.length_append, List.length_singleton] at h9
  omega
theorem es_cons {es : List E4} (h : 0 < es.length) : ∃ e l, es = e :: l := by
  cases es with
  | nil => exact absurd h (Nat.lt_irrefl 0)
  | cons e l => exact ⟨e, l, rfl⟩
theorem PI.im {τ σ ρ : ZSt} {a z : Int} {es : List E4} {dn : List Int} (h : PI τ σ a z ρ es dn) (w : W7 τ) (wo : WO τ) (ha : 0 ≤ a ∧ a < τ 7 5) (hI : IM σ) : IM ρ := by
  have hd := h.dn w wo ha
  obtain ⟨-, -, -, ⟨-, h13⟩, -, -, s1, s2⟩ := h
  unfold IM at hI ⊢
  rw [s2 3 (by decide), s2 11 (by decide), s2 16 (by decide), s2 25 (by decide), s1 34 (by decide), h13]
  exact ⟨hI.1, hI.2.1, by omega, hI.2.2.2⟩
theorem PI.tt {τ σ ρ : ZSt} {a z : Int} {es : List E4} {dn : List Int} (h : PI τ σ a z ρ es dn) (t : TT τ σ) : TT τ ρ := t.same (h.2.2.2.2.2.2.2 3 (by decide)) (h.2.2.2.2.2.2.2 11 (by decide)) (fun c hc => h.2.2.2.2.2.2.1 c (by omega))
theorem WS.pop {ρ : ZSt} {e : E4} {l : List E4} (h : WS ρ (e :: l)) : WS (zup ρ 31 23 (ρ 31 23 - 1)) l ∧ ρ 31 23 = l.length + 1 ∧ (ρ 47 (4 * (ρ 31 23 - 1)).toNat = e.1 ∧ ρ 47 (4 * (ρ 31 23 - 1) + 1).toNat = e.2.1 ∧ ρ 47 (4 * (ρ 31 23 - 1) + 2).toNat = e.2.2.1 ∧ ρ 47 (4 * (ρ 31 23 - 1) + 3).toNat = e.2.2.2) := by
  obtain ⟨h1, ⟨h2, h3⟩⟩ := h
  have hl : (e :: l).length = l.length + 1 := rfl
  rw [hl] at h1
  refine ⟨⟨by rw [zup_same]; omega, by rw [zup_row (by decide)]; exact h3⟩, by omega, ?_⟩
  rw [show (4 * (ρ 31 23 - 1)).toNat = 4 * l.length by omega, show (4 * (ρ 31 23 - 1) + 1).toNat = 4 * l.length + 1 by omega, show (4 * (ρ 31 23 - 1) + 2).toNat = 4 * l.length + 2 by omega, show (4 * (ρ 31 23 - 1) + 3).toNat = 4 * l.length + 3 by omega]
  exact h2
theorem PI.write {τ σ ρ : ZSt} {a z c : Int} {e : E4} {l : List E4} {dn : List Int} (h : PI τ σ a z ρ (e :: l) dn) (hc : zif (e.1 < 0) [e.2.1] (YT τ z e.1 e.2.2.1 e.2.2.2) = [c]) (hw : 1 ≤ ewt τ e) : PI τ σ a z (mwrite (zup ρ 31 23 (ρ 31 23 - 1)) c) l (dn ++ [c]) ∧ esum τ l + 1 ≤ esum τ (e :: l) := by
  obtain ⟨h1, h2, h3, ⟨h4, h5⟩, h6, h7, s1, s2⟩ := h
  obtain ⟨p1, p2, -⟩ := h1.pop
  have hs : esum τ (e :: l) = ewt τ e + esum τ l := rfl
  have e13 : zup ρ 31 23 (ρ 31 23 - 1) 31 13 = dn.length := by rw [zup_place (by decide), h5]
  unfold mwrite
  rw [e13]
  refine ⟨⟨⟨?_, ?_⟩, h2.2, ?_, ⟨?_, ?_⟩, by omega, ?_, ?_, ?_⟩, by omega⟩
  · rw [zup_place (by decide), zup_row (by decide)]; exact p1.1
  · rw [zup_row (by decide), zup_row (by decide)]; exact p1.2
  · rw [← h3]
    show _ = dn ++ (zif (e.1 < 0) [e.2.1] (YT τ z e.1 e.2.2.1 e.2.2.2) ++ etx τ z l)
    rw [hc, List.append_assoc]
  · rw [zup_row (by decide), show ((dn.length : Nat) : Int).toNat = dn.length by omega]
    exact putf_st _ _ _ _ _ (by rw [zup_row (by decide)]; exact h4)
  · rw [zup_same, List.length_append]; simp
  · intro u m x hm hx hl
    rw [zup_row (by decide), zup_row (by decide), zup_row (by decide)]
    exact h7 u m x hm hx hl
  · intro c hc
    rw [zup_row (by omega), zup_row (by omega), zup_row (by omega)]; exact s1 c hc
  · intro j hj
    rw [zup_place (by omega), zup_row (by decide), zup_place (by omega)]; exact s2 j hj
theorem PI.parts {τ σ ρ ς : ZSt} {a z : Int} {e : E4} {l : List E4} {dn : List Int} (h : PI τ σ a z ρ (e :: l) dn) (w : W7 τ) (wo : WO τ) (he : 0 ≤ e.1 ∧ e.1 < τ 7 5) (hop : xnop τ 7 e.1 ≠ -1) (hw : WS ς (ypp τ z e.1 e.2.2.1 e.2.2.2 ++ l)) (ho : OnlyS (zup ρ 31 23 (ρ 31 23 - 1)) ς) : PI τ σ a z ς (ypp τ z e.1 e.2.2.1 e.2.2.2 ++ l) dn ∧ esum τ (ypp τ z e.1 e.2.2.1 e.2.2.2 ++ l) + 1 ≤ esum τ (e :: l) := by
  obtain ⟨h1, h2, h3, ⟨h4, h5⟩, h6, h7, s1, s2⟩ := h
  have ek := h2.1
  unfold EOk at ek
  obtain ⟨y1, y2, y3⟩ := ypp_ok w wo (z := z) (a := a) he (by omega) hop (m := e.2.2.1) (x := e.2.2.2) (by omega)
  have hs : esum τ (e :: l) = ewt τ e + esum τ l := rfl
  have hs2 : ewt τ e = 7 * xnsz τ 7 e.1 := if_neg (by omega)
  have hs3 := esum_app τ (ypp τ z e.1 e.2.2.1 e.2.2.2) l
  refine ⟨⟨hw, y3.app h2.2, ?_, ⟨?_, ?_⟩, by omega, ?_, ?_, ?_⟩, by omega⟩
  · rw [← h3, etx_app, y1]
    show _ = dn ++ (zif (e.1 < 0) [e.2.1] (YT τ z e.1 e.2.2.1 e.2.2.2) ++ etx τ z l)
    rw [zif_neg (by omega)]
  · rw [ho.1 42 (by decide), zup_row (by decide)]; exact h4
  · rw [ho.2 13 (by decide), zup_place (by decide)]; exact h5
  · intro u m x hm hx hl
    rw [ho.1 46 (by decide), zup_row (by decide)]
    exact h7 u m x hm hx hl
  · intro c hc
    rw [ho.1 c (by omega), zup_row (by omega)]; exact s1 c hc
  · intro j hj
    rw [ho.2 j (by omega), zup_place (by omega)]; exact s2 j hj
theorem PI.start {τ σ ρ : ZSt} {a z : Int} (w : W7 τ) (ha : 0 ≤ a ∧ a < τ 7 5) (hy : LY τ ρ (121 * (a + 1))) (ho : Only46 σ ρ) : PI τ σ a z (mpush (zup (zup ρ 31 13 0) 31 23 0) a (-10) 0 0) [(a, -10, 0, 0)] [] := by
  have hws : WS (zup (zup ρ 31 13 0) 31 23 0) [] := ⟨zup_same _ _ _ _, trivial⟩
  have hos := OnlyS.push (zup (zup ρ 31 13 0) 31 23 0) a (-10) 0 0
  have hsz := (w.node ha).1
  refine ⟨hws.push _ _ _ _, ⟨Or.inr ⟨⟨ha.1, Int.le_refl a⟩, z010, z010⟩, trivial⟩, ?_, ⟨?_, ?_⟩, ?_, ?_, ?_, ?_⟩
  · show zif (a < 0) _ (YT τ z a 0 0) ++ [] = _
    rw [zif_neg (by omega), List.append_nil]
  · rw [hos.1 42 (by decide), zup_row (by decide), zup_row (by decide), ho 42 (by decide), putf_nil]
  · rw [hos.2 13 (by decide), zup_place (by decide), zup_same]; rfl
  · show ewt τ (a, -10, 0, 0) + 0 ≤ 280
    rw [show ewt τ (a, -10, 0, 0) = 7 * xnsz τ 7 a from if_neg (by show ¬ a < 0; omega)]
    omega
  · intro u m x hm hx hl
    rw [hos.1 46 (by decide), zup_row (by decide), zup_row (by decide)]
    exact hy u m x hm hx hl
  · intro c hc
    rw [hos.1 c (by omega), zup_row (by omega), zup_row (by omega)]; exact ho c (by omega)
  · intro j hj
    rw [hos.2 j (by omega), zup_place (by omega), zup_place (by omega), ho 31 (by decide)]

set_option maxRecDepth 20000 in
theorem C_X6_pushParts (E : ZE) (σ : ZSt) (hR : zRs σ) (b : Int) (hb : zRg b) (m : Int) (hm : zRg m) (x : Int) (hx : zRg x) (z : Int) (hz : z = 0 ∨ z = 1) (τ : ZSt) (lst : List (Int × Int × Int × Int)) (hI : IM σ) (ht : TT τ σ) (hb1 : 0 ≤ b ∧ b < τ 7 5) (hne : xnop τ 7 b ≠ -1) (hmx : (0 ≤ m ∧ m ≤ 10) ∧ (0 ≤ x ∧ x ≤ 10)) (hLY : LY τ σ (121 * b)) (hws : WS σ lst) (hln : lst.length < 285) : ZMv E 4 yX6_pushParts cX6_pushParts 6 [zrf E 31, ziv b, ziv m, ziv x, ziv z] σ (fun σ' => WS σ' (ypp τ z b m x ++ lst) ∧ OnlyS σ σ') := by
  refine ZMv.intro (by decide) rfl (Nat.le_of_ble_eq_true rfl) (fun Γ C hN hret => ?_)
  show ZG E Γ 0 [some (zrf E 31), some (ziv b), some (ziv m), some (ziv x), some (ziv z), none] [] σ
  have hwo := ht.1
  have hw7 := ht.2.2.2.1
  have h16 := ht.n16
  have hq := ht.opz hb1
  have hq2 : 0 ≤ xnop τ 7 b ∧ xnop τ 7 b < τ 1 5 := by omega
  have hlv := hwo.lev hq2
  have hkd := ht.kids hb1 hne
  have hopp := ht.op hq2
  have hyl1 := ypo_len τ z (xnop τ 7 b) (xnaft τ 7 b) (xmin τ (xnop τ 7 b)) x
  refine z_aload_nZ (pc := 0) C dX6_pushParts_0 rfl rfl ?_
  refine z_getR (pc := 1) C fX6_26 sh31 rfl dX6_pushParts_1 ?_
  refine z_iload_n (pc := 4) C dX6_pushParts_4 rfl rfl ?_
  refine z_ialde (pc := 5) (v := xnop τ 7 b) C sh37 (by (try unfold zRg at *); (try simp only [IX, IM] at *); omega) (by (try unfold zRg at *); (try simp only [IX, IM] at *); omega) dX6_pushParts_5 (by omega) ?_
  refine z_istore (pc := 6) (lv' := [some (zrf E 31), some (ziv b), some (ziv m), some (ziv x), some (ziv z), some (ziv (xnop τ 7 b))]) C hN dX6_pushParts_6 (by decide) rfl ?_
  refine z_aload_nZ (pc := 8) C dX6_pushParts_8 rfl rfl ?_
  refine z_getR (pc := 9) C fX6_13 sh31 rfl dX6_pushParts_9 ?_
  refine z_iload (pc := 12) C dX6_pushParts_12 rfl ?_
  refine z_ialde (pc := 14) (v := xkind τ (xnop τ 7 b)) C sh33 (by (try unfold zRg at *); (try simp only [IX, IM] at *); omega) (by (try unfold zRg at *); (try simp only [IX, IM] at *); omega) dX6_pushParts_14 hopp.1 ?_
  refine z_iconst (pc := 15) C dX6_pushParts_15 ?_
  refine z_icmp_ne (pc := 16) C 60 (by rw [← hopp.1]; exact hR 33 _) (zRgL rfl) dX6_pushParts_16 rfl (fun c_16 => ?_) (fun c_16 => ?_)
  · have hyl3 := yeo_len τ z (xnop τ 7 b) (xnaft τ 7 b) (xmin τ (xnop τ 7 b)) x
    have L92 : ∀ (ρ : ZSt), zRs ρ → IM ρ → WS ρ (yeo τ z (xnop τ 7 b) (xnaft τ 7 b) (xmin τ (xnop τ 7 b)) x ++ lst) → OnlyS σ ρ → ZG E Γ 92 [some (zrf E 31), some (ziv b), some (ziv m), some (ziv x), some (ziv z), some (ziv (xnop τ 7 b))] [] ρ := by
      intro ρ hRr hIr hw9 hos
      refine z_aload_nZ (pc := 92) C dX6_pushParts_92 rfl rfl ?_
      refine z_bipush (pc := 93) C dX6_pushParts_93 (by decide) ?_
      refine z_aload_nZ (pc := 95) C dX6_pushParts_95 rfl rfl ?_
      refine z_getR (pc := 96) C fX6_7 sh31 rfl dX6_pushParts_96 ?_
      refine z_iload (pc := 99) C dX6_pushParts_99 rfl ?_
      refine z_ialde (pc := 101) (v := xsym τ (xnop τ 7 b)) C sh32 (by (try unfold zRg at *); (try simp only [IX, IM] at *); omega) (by (try unfold zRg at *); (try simp only [IX, IM] at *); omega) dX6_pushParts_101 (by rw [hos.1 32 (by decide)]; exact hopp.2.2.1) ?_
      refine z_iconst (pc := 102) C dX6_pushParts_102 ?_
      refine z_iconst (pc := 103) C dX6_pushParts_103 ?_
      refine z_callVv (pc := 104) (rest := []) C (C_X6_push E ρ hRr (-10) (zRgL rfl) (xsym τ (xnop τ 7 b)) (by rw [← hopp.2.2.1]; exact hR 32 _) 0 (zRgL rfl) 0 (zRgL rfl) hIr (by have h9 := hw9.1; rw [List.length_append] at h9; omega)) vX6_150 (by decide) sh31 rfl rfl rfl (Nat.le_of_ble_eq_true rfl) dX6_pushParts_104 (fun σ_104 hR_104 hp_104 => ?_)
      have hos2 : OnlyS σ σ_104 := hos.trans (by rw [hp_104]; exact OnlyS.push _ _ _ _ _)
      have hw10 : WS σ_104 ((-10, xsym τ (xnop τ 7 b), 0, 0) :: (yeo τ z (xnop τ 7 b) (xnaft τ 7 b) (xmin τ (xnop τ 7 b)) x ++ lst)) := by rw [hp_104]; exact hw9.push _ _ _ _
      have hI_104 : IM σ_104 := hI.oS hos2
      refine z_aload_nZ (pc := 107) C dX6_pushParts_107 rfl rfl ?_
      refine z_iload (pc := 108) C dX6_pushParts_108 rfl ?_
      refine z_aload_nZ (pc := 110) C dX6_pushParts_110 rfl rfl ?_
      refine z_getR (pc := 111) C fX6_32 sh31 rfl dX6_pushParts_111 ?_
      refine z_iload_n (pc := 114) C dX6_pushParts_114 rfl rfl ?_
      refine z_ialde (pc := 115) (v := xnbef τ 7 b) C sh39 (by (try unfold zRg at *); (try simp only [IX, IM] at *); omega) (by (try unfold zRg at *); (try simp only [IX, IM] at *); omega) dX6_pushParts_115 (by rw [hos2.1 39 (by decide)]; omega) ?_
      refine z_iload_n (pc := 116) C dX6_pushParts_116 rfl rfl ?_
      refine z_aload_nZ (pc := 117) C dX6_pushParts_117 rfl rfl ?_
      refine z_getR (pc := 118) C fX6_16 sh31 rfl dX6_pushParts_118 ?_
      refine z_iload (pc := 121) C dX6_pushParts_121 rfl ?_
      refine z_ialde (pc := 123) (v := xlev τ (xnop τ 7 b)) C sh34 (by (try unfold zRg at *); (try simp only [IX, IM] at *); omega) (by (try unfold zRg at *); (try simp only [IX, IM] at *); omega) dX6_pushParts_123 (by rw [hos2.1 34 (by decide)]; exact hopp.2.1) ?_
      refine z_iconst (pc := 124) C dX6_pushParts_124 ?_
      refine z_iload (pc := 125) C dX6_pushParts_125 rfl ?_
      refine z_callVv (pc := 127) (rest := []) C (C_X6_pushOperand E σ_104 hR_104 (xnop τ 7 b) (by unfold zRg; omega) (xnbef τ 7 b) (by unfold zRg; omega) m hm (xlev τ (xnop τ 7 b)) (by unfold zRg; omega) 1 (Or.inr rfl) z hz τ ((-10, xsym τ (xnop τ 7 b), 0, 0) :: (yeo τ z (xnop τ 7 b) (xnaft τ 7 b) (xmin τ (xnop τ 7 b)) x ++ lst)) hI_104 (ht.oS hos2) (by omega) (by omega) (by omega) ((hLY.mono (by omega)).oS hos2) (Or.inl rfl) hw10 (by rw [List.length_cons, List.length_append]; omega)) vX6_157 (by decide) sh31 rfl rfl rfl (Nat.le_of_ble_eq_true rfl) dX6_pushParts_127 (fun σ_127 hR_127 hp_127 => ?_)
      refine hret 130 _ _ dX6_pushParts_130 hR_127 ?_
      unfold ypp
      first
      | (rw [yeo_none (b := xnbef τ 7 b) (by omega), yeo_in (b := xnaft τ 7 b) (by omega), hlv.2.2.2.2.2.1 (by omega), hp_54]; exact ⟨hp_39.1.push _ _ _ _, hp_39.2.trans (OnlyS.push _ _ _ _ _)⟩)
      | (rw [yeo_in (b := xnbef τ 7 b) (by omega), List.append_assoc, List.cons_append]; exact ⟨hp_127.1, hos2.trans hp_127.2⟩)
    refine z_aload_nZ (pc := 60) C dX6_pushParts_60 rfl rfl ?_
    refine z_getR (pc := 61) C fX6_13 sh31 rfl dX6_pushParts_61 ?_
    refine z_iload (pc := 64) C dX6_pushParts_64 rfl ?_
    refine z_ialde (pc := 66) (v := xkind τ (xnop τ 7 b)) C sh33 (by (try unfold zRg at *); (try simp only [IX, IM] at *); omega) (by (try unfold zRg at *); (try simp only [IX, IM] at *); omega) dX6_pushParts_66 hopp.1 ?_
    refine z_if_ne (pc := 67) C 92 (by rw [← hopp.1]; exact hR 33 _) dX6_pushParts_67 rfl (fun c_67 => ?_) (fun c_67 => ?_)
    · first
      | exact L92 σ_89 hR_89 hI_89 (by rw [yeo_in (by omega), ← hopp.2.2.2 (by omega), ← hp_82]; exact hp_89.1) hp_89.2
      | exact L92 σ hR hI (by rw [yeo_none (by omega)]; exact hws) (OnlyS.rf σ)
    · refine z_aload_nZ (pc := 70) C dX6_pushParts_70 rfl rfl ?_
      refine z_iload (pc := 71) C dX6_pushParts_71 rfl ?_
      refine z_aload_nZ (pc := 73) C dX6_pushParts_73 rfl rfl ?_
      refine z_getR (pc := 74) C fX6_35 sh31 rfl dX6_pushParts_74 ?_
      refine z_iload_n (pc := 77) C dX6_pushParts_77 rfl rfl ?_
      refine z_ialde (pc := 78) (v := xnaft τ 7 b) C sh40 (by (try unfold zRg at *); (try simp only [IX, IM] at *); omega) (by (try unfold zRg at *); (try simp only [IX, IM] at *); omega) dX6_pushParts_78 (by omega) ?_
      refine z_aload_nZ (pc := 79) C dX6_pushParts_79 rfl rfl ?_
      refine z_iload (pc := 80) C dX6_pushParts_80 rfl ?_
      refine z_callVp (pc := 82) (rest := [ziv (xnaft τ 7 b), ziv (xnop τ 7 b), zrf E 31]) C (C_X6_rightLevel E σ hR (xnop τ 7 b) (by unfold zRg; omega) hI (by omega)) vX6_140 (by decide) sh31 rfl rfl rfl (Nat.le_of_ble_eq_true rfl) dX6_pushParts_82 (fun r_82 g_82 hp_82 => ?_)
      refine z_iload_n (pc := 85) C dX6_pushParts_85 rfl rfl ?_
      refine z_iconst (pc := 86) C dX6_pushParts_86 ?_
      refine z_iload (pc := 87) C dX6_pushParts_87 rfl ?_
      refine z_callVv (pc := 89) (rest := []) C (C_X6_pushOperand E σ hR (xnop τ 7 b) (by unfold zRg; omega) (xnaft τ 7 b) (by unfold zRg; omega) r_82 g_82 x hx 0 (Or.inl rfl) z hz τ lst hI ht (by omega) (by omega) (by have h9 := hopp.2.2.2 (by omega); omega) (hLY.mono (by omega)) (Or.inr (fun q => by rw [hp_82]; exact hopp.2.2.2 (by omega))) hws (by omega)) vX6_157 (by decide) sh31 rfl rfl rfl (Nat.le_of_ble_eq_true rfl) dX6_pushParts_89 (fun σ_89 hR_89 hp_89 => ?_)
      have hI_89 : IM σ_89 := hI.oS hp_89.2
      first
      | exact L92 σ_89 hR_89 hI_89 (by rw [yeo_in (by omega), ← hopp.2.2.2 (by omega), ← hp_82]; exact hp_89.1) hp_89.2
      | exact L92 σ hR hI (by rw [yeo_none (by omega)]; exact hws) (OnlyS.rf σ)
  · refine z_aload_nZ (pc := 19) C dX6_pushParts_19 rfl rfl ?_
    refine z_iload (pc := 20) C dX6_pushParts_20 rfl ?_
    refine z_aload_nZ (pc := 22) C dX6_pushParts_22 rfl rfl ?_
    refine z_getR (pc := 23) C fX6_32 sh31 rfl dX6_pushParts_23 ?_
    refine z_iload_n (pc := 26) C dX6_pushParts_26 rfl rfl ?_
    refine z_ialde (pc := 27) (v := xnaft τ 7 b) C sh39 (by (try unfold zRg at *); (try simp only [IX, IM] at *); omega) (by (try unfold zRg at *); (try simp only [IX, IM] at *); omega) dX6_pushParts_27 (by omega) ?_
    refine z_aload_nZ (pc := 28) C dX6_pushParts_28 rfl rfl ?_
    refine z_getR (pc := 29) C fX6_16 sh31 rfl dX6_pushParts_29 ?_
    refine z_iload (pc := 32) C dX6_pushParts_32 rfl ?_
    refine z_ialde (pc := 34) (v := xlev τ (xnop τ 7 b)) C sh34 (by (try unfold zRg at *); (try simp only [IX, IM] at *); omega) (by (try unfold zRg at *); (try simp only [IX, IM] at *); omega) dX6_pushParts_34 hopp.2.1 ?_
    refine z_iload_n (pc := 35) C dX6_pushParts_35 rfl rfl ?_
    refine z_iconst (pc := 36) C dX6_pushParts_36 ?_
    refine z_iload (pc := 37) C dX6_pushParts_37 rfl ?_
    refine z_callVv (pc := 39) (rest := []) C (C_X6_pushOperand E σ hR (xnop τ 7 b) (by unfold zRg; omega) (xnaft τ 7 b) (by unfold zRg; omega) (xlev τ (xnop τ 7 b)) (by unfold zRg; omega) x hx 0 (Or.inl rfl) z hz τ lst hI ht (by omega) (by omega) (by omega) (hLY.mono (by omega)) (Or.inr (fun q => by omega)) hws (by omega)) vX6_157 (by decide) sh31 rfl rfl rfl (Nat.le_of_ble_eq_true rfl) dX6_pushParts_39 (fun σ_39 hR_39 hp_39 => ?_)
    have hI_39 : IM σ_39 := hI.oS hp_39.2
    have hyl2 := ypo_len τ z (xnop τ 7 b) (xnaft τ 7 b) (xlev τ (xnop τ 7 b)) x
    refine z_aload_nZ (pc := 42) C dX6_pushParts_42 rfl rfl ?_
    refine z_bipush (pc := 43) C dX6_pushParts_43 (by decide) ?_
    refine z_aload_nZ (pc := 45) C dX6_pushParts_45 rfl rfl ?_
    refine z_getR (pc := 46) C fX6_7 sh31 rfl dX6_pushParts_46 ?_
    refine z_iload (pc := 49) C dX6_pushParts_49 rfl ?_
    refine z_ialde (pc := 51) (v := xsym τ (xnop τ 7 b)) C sh32 (by (try unfold zRg at *); (try simp only [IX, IM] at *); omega) (by (try unfold zRg at *); (try simp only [IX, IM] at *); omega) dX6_pushParts_51 (by rw [hp_39.2.1 32 (by decide)]; exact hopp.2.2.1) ?_
    refine z_iconst (pc := 52) C dX6_pushParts_52 ?_
    refine z_iconst (pc := 53) C dX6_pushParts_53 ?_
    refine z_callVv (pc := 54) (rest := []) C (C_X6_push E σ_39 hR_39 (-10) (zRgL rfl) (xsym τ (xnop τ 7 b)) (by rw [← hopp.2.2.1]; exact hR 32 _) 0 (zRgL rfl) 0 (zRgL rfl) hI_39 (by have h9 := hp_39.1.1; rw [List.length_append] at h9; omega)) vX6_150 (by decide) sh31 rfl rfl rfl (Nat.le_of_ble_eq_true rfl) dX6_pushParts_54 (fun σ_54 hR_54 hp_54 => ?_)
    refine z_goto (pc := 57) C 130 dX6_pushParts_57 rfl ?_
    refine hret 130 _ _ dX6_pushParts_130 hR_54 ?_
    unfold ypp
    first
    | (rw [yeo_none (b := xnbef τ 7 b) (by omega), yeo_in (b := xnaft τ 7 b) (by omega), hlv.2.2.2.2.2.1 (by omega), hp_54]; exact ⟨hp_39.1.push _ _ _ _, hp_39.2.trans (OnlyS.push _ _ _ _ _)⟩)
    | (rw [yeo_in (b := xnbef τ 7 b) (by omega), List.append_assoc, List.cons_append]; exact ⟨hp_127.1, hos2.trans hp_127.2⟩)
set_option maxRecDepth 20000 in
theorem C_X6_printTree (E : ZE) (σ : ZSt) (hR : zRs σ) (a : Int) (ha : zRg a) (z : Int) (hz : z = 0 ∨ z = 1) (τ : ZSt) (hI : IM σ) (ht : TT τ σ) (ha1 : 0 ≤ a ∧ a < τ 7 5) : ZMi E 6 yX6_printTree cX6_printTree 5 (some .int) [zrf E 31, ziv a, ziv z] σ (fun r σ' => r = (YT τ z a 0 0).length ∧ (σ' 42 = putf (σ 42) (YT τ z a 0 0) ∧ σ' 31 13 = (YT τ z a 0 0).length ∧ σ' 31 14 = a) ∧ SameT σ σ') := by
  refine ZMi.intro (by decide) rfl (Nat.le_of_ble_eq_true rfl) (fun Γ C hN hret => ?_)
  show ZG E Γ 0 [some (zrf E 31), some (ziv a), some (ziv z), none, none] [] σ
  have hwo := ht.1
  have hw7 := ht.2.2.2.1
  have h16 := ht.n16
  refine z_aload_nZ (pc := 0) C dX6_printTree_0 rfl rfl ?_
  refine z_iload_n (pc := 1) C dX6_printTree_1 rfl rfl ?_
  refine z_callVv (pc := 2) (rest := []) C (C_X6_layCosts E σ hR a ha τ hI ht ha1) vX6_161 (by decide) sh31 rfl rfl rfl (Nat.le_of_ble_eq_true rfl) dX6_printTree_2 (fun σ_2 hR_2 hp_2 => ?_)
  have hI_2 : IM σ_2 := hI.o46 hp_2.2
  refine z_aload_nZ (pc := 5) C dX6_printTree_5 rfl rfl ?_
  refine z_iconst (pc := 6) C dX6_printTree_6 ?_
  refine z_putI (pc := 7) C hR_2 fX6_154 sh31 rfl (zRgL rfl) dX6_printTree_7 (fun σ_7 e_7 hR_7 => ?_)
  have hI_7 : IM σ_7 := by rw [e_7]; exact hI_2.up13 (by (try unfold zRg at *); (try simp only [IX, IM] at *); omega)
  refine z_aload_nZ (pc := 10) C dX6_printTree_10 rfl rfl ?_
  refine z_iconst (pc := 11) C dX6_printTree_11 ?_
  refine z_putI (pc := 12) C hR_7 fX6_147 sh31 rfl (zRgL rfl) dX6_printTree_12 (fun σ_12 e_12 hR_12 => ?_)
  have hI_12 : IM σ_12 := by rw [e_12]; exact hI_7.upF rfl
  refine z_aload_nZ (pc := 15) C dX6_printTree_15 rfl rfl ?_
  refine z_iload_n (pc := 16) C dX6_printTree_16 rfl rfl ?_
  refine z_bipush (pc := 17) C dX6_printTree_17 (by decide) ?_
  refine z_iconst (pc := 19) C dX6_printTree_19 ?_
  refine z_iconst (pc := 20) C dX6_printTree_20 ?_
  refine z_callVv (pc := 21) (rest := []) C (C_X6_push E σ_12 hR_12 a ha (-10) (zRgL rfl) 0 (zRgL rfl) 0 (zRgL rfl) hI_12 (by rw [e_12, zup_same]; decide)) vX6_150 (by decide) sh31 rfl rfl rfl (Nat.le_of_ble_eq_true rfl) dX6_printTree_21 (fun σ_21 hR_21 hp_21 => ?_)
  have L24 : ∀ (n : Nat) (es : List E4) (dn : List Int) (ρ : ZSt), zRs ρ → PI τ σ a z ρ es dn → (esum τ es).toNat < n → ZG E Γ 24 [some (zrf E 31), some (ziv a), some (ziv z), none, none] [] ρ := by
    intro n
    induction n with
    | zero => intro es dn ρ hRr hpi hm; exact absurd hm (by omega)
    | succ n ih =>
      intro es dn ρ hRr hpi hm
      have hIr : IM ρ := hpi.im hw7 hwo ha1 hI
      have hdn := hpi.dn hw7 hwo ha1
      refine z_aload_nZ (pc := 24) C dX6_printTree_24 rfl rfl ?_
      refine z_getI (pc := 25) C fX6_147 sh31 rfl dX6_printTree_25 ?_
      refine z_if_le (pc := 28) C 138 (hRr 31 _) dX6_printTree_28 rfl (fun c_28 => ?_) (fun c_28 => ?_)
      · refine z_aload_nZ (pc := 138) C dX6_printTree_138 rfl rfl ?_
        refine z_iload_n (pc := 139) C dX6_printTree_139 rfl rfl ?_
        refine z_putI (pc := 140) C hRr fX6_44 sh31 rfl ha dX6_printTree_140 (fun σ_140 e_140 hR_140 => ?_)
        have hI_140 : IM σ_140 := by rw [e_140]; exact hIr.upF rfl
        refine z_aload_nZ (pc := 143) C dX6_printTree_143 rfl rfl ?_
        refine z_getIe (pc := 144) (v := ρ 31 13) C fX6_154 sh31 rfl dX6_printTree_144 (by rw [e_140, zup_place (by decide)]) ?_
        refine hret 147 _ _ _ dX6_printTree_147 (hRr 31 13) hR_140 ?_
        obtain rfl : es = [] := List.eq_nil_of_length_eq_zero (by have h9 := hpi.1.1; omega)
        obtain ⟨-, -, t3, ⟨t4, t5⟩, -, -, s1, s2⟩ := hpi
        have t6 : dn = YT τ z a 0 0 := by rw [← t3]; exact (List.append_nil dn).symm
        rw [t6] at t4 t5
        refine ⟨t5, ⟨?_, ?_, ?_⟩, fun c hc => ?_, fun j hj => ?_⟩
        · rw [e_140, zup_row (by decide)]; exact t4
        · rw [e_140, zup_place (by decide)]; exact t5
        · rw [e_140, zup_same]
        · rw [e_140, zup_row (by omega)]; exact s1 c hc
        · rw [e_140, zup_place (by omega)]; exact s2 j hj
      · obtain ⟨e, l, rfl⟩ := es_cons (es := es) (by have h9 := hpi.1.1; omega)
        have hpop := hpi.1.pop
        have hek := hpi.2.1.1
        have hesl := Es.len hw7 ha1.2 _ hpi.2.1
        have hlcc : (e :: l).length = l.length + 1 := rfl
        have hes2 := hpi.2.2.2.2.1
        unfold EOk at hek
        have hpp := hpop.2.2
        refine z_aload_nZ (pc := 31) C dX6_printTree_31 rfl rfl ?_
        refine z_dup (pc := 32) C dX6_printTree_32 rfl ?_
        refine z_getI (pc := 33) C fX6_147 sh31 rfl dX6_printTree_33 ?_
        refine z_iconst (pc := 36) C dX6_printTree_36 ?_
        refine z_isub (pc := 37) C dX6_printTree_37 ?_
        refine z_putI (pc := 38) C hRr fX6_147 sh31 rfl (by (try unfold zRg at *); (try simp only [IX, IM] at *); omega) dX6_printTree_38 (fun σ_38 e_38 hR_38 => ?_)
        have hI_38 : IM σ_38 := by rw [e_38]; exact hIr.upF rfl
        refine z_aload_nZ (pc := 41) C dX6_printTree_41 rfl rfl ?_
        refine z_getR (pc := 42) C fX6_66 sh31 rfl dX6_printTree_42 ?_
        refine z_iconst (pc := 45) C dX6_printTree_45 ?_
        refine z_aload_nZ (pc := 46) C dX6_printTree_46 rfl rfl ?_
        refine z_getIe (pc := 47) (v := (ρ 31 23) - 1) C fX6_147 sh31 rfl dX6_printTree_47 (by rw [e_38, zup_same]) ?_
        refine z_imul (pc := 50) C dX6_printTree_50 ?_
        refine z_ialde (pc := 51) (v := e.1) C sh47 (by (try unfold zRg at *); (try simp only [IX, IM] at *); omega) (by (try unfold zRg at *); (try simp only [IX, IM] at *); omega) dX6_printTree_51 (by rw [e_38, zup_row (by decide)]; exact hpp.1) ?_
        refine z_istore_n (pc := 52) (lv' := [some (zrf E 31), some (ziv a), some (ziv z), some (ziv e.1), none]) C hN dX6_printTree_52 rfl (by decide) rfl ?_
        refine z_aload_nZ (pc := 53) C dX6_printTree_53 rfl rfl ?_
        refine z_getR (pc := 54) C fX6_66 sh31 rfl dX6_printTree_54 ?_
        refine z_iconst (pc := 57) C dX6_printTree_57 ?_
        refine z_aload_nZ (pc := 58) C dX6_printTree_58 rfl rfl ?_
        refine z_getIe (pc := 59) (v := (ρ 31 23) - 1) C fX6_147 sh31 rfl dX6_printTree_59 (by rw [e_38, zup_same]) ?_
        refine z_imul (pc := 62) C dX6_printTree_62 ?_
        refine z_iconst (pc := 63) C dX6_printTree_63 ?_
        refine z_iadd (pc := 64) C dX6_printTree_64 ?_
        refine z_ialde (pc := 65) (v := e.2.1) C sh47 (by (try unfold zRg at *); (try simp only [IX, IM] at *); omega) (by (try unfold zRg at *); (try simp only [IX, IM] at *); omega) dX6_printTree_65 (by rw [e_38, zup_row (by decide)]; exact hpp.2.1) ?_
        refine z_istore (pc := 66) (lv' := [some (zrf E 31), some (ziv a), some (ziv z), some (ziv e.1), some (ziv e.2.1)]) C hN dX6_printTree_66 (by decide) rfl ?_
        refine z_iload_n (pc := 68) C dX6_printTree_68 rfl rfl ?_
        refine z_if_ge (pc := 69) C 81 (by unfold zRg; omega) dX6_printTree_69 rfl (fun c_69 => ?_) (fun c_69 => ?_)
        · have hel : 0 ≤ e.1 ∧ e.1 < τ 7 5 := by omega
          have hopz := ht.opz hel
          have hew : 1 ≤ ewt τ e := by unfold ewt; rw [if_neg (by omega)]; have := (hw7.node hel).1; omega
          refine z_aload_nZ (pc := 81) C dX6_printTree_81 rfl rfl ?_
          refine z_getR (pc := 82) C fX6_26 sh31 rfl dX6_printTree_82 ?_
          refine z_iload_n (pc := 85) C dX6_printTree_85 rfl rfl ?_
          refine z_ialde (pc := 86) (v := σ 37 (e.1).toNat) C sh37 (by (try unfold zRg at *); (try simp only [IX, IM] at *); omega) (by (try unfold zRg at *); (try simp only [IX, IM] at *); omega) dX6_printTree_86 (by rw [e_38, zup_row (by decide), hpi.2.2.2.2.2.2.1 37 (by decide)]) ?_
          refine z_if_ge (pc := 87) C 103 (hR 37 _) dX6_printTree_87 rfl (fun c_87 => ?_) (fun c_87 => ?_)
          · refine z_aload_nZ (pc := 103) C dX6_printTree_103 rfl rfl ?_
            refine z_iload_n (pc := 104) C dX6_printTree_104 rfl rfl ?_
            refine z_aload_nZ (pc := 105) C dX6_printTree_105 rfl rfl ?_
            refine z_getR (pc := 106) C fX6_66 sh31 rfl dX6_printTree_106 ?_
            refine z_iconst (pc := 109) C dX6_printTree_109 ?_
            refine z_aload_nZ (pc := 110) C dX6_printTree_110 rfl rfl ?_
            refine z_getIe (pc := 111) (v := (ρ 31 23) - 1) C fX6_147 sh31 rfl dX6_printTree_111 (by rw [e_38, zup_same]) ?_
            refine z_imul (pc := 114) C dX6_printTree_114 ?_
            refine z_iconst (pc := 115) C dX6_printTree_115 ?_
            refine z_iadd (pc := 116) C dX6_printTree_116 ?_
            refine z_ialde (pc := 117) (v := e.2.2.1) C sh47 (by (try unfold zRg at *); (try simp only [IX, IM] at *); omega) (by (try unfold zRg at *); (try simp only [IX, IM] at *); omega) dX6_printTree_117 (by rw [e_38, zup_row (by decide)]; exact hpp.2.2.1) ?_
            refine z_aload_nZ (pc := 118) C dX6_printTree_118 rfl rfl ?_
            refine z_getR (pc := 119) C fX6_66 sh31 rfl dX6_printTree_119 ?_
            refine z_iconst (pc := 122) C dX6_printTree_122 ?_
            refine z_aload_nZ (pc := 123) C dX6_printTree_123 rfl rfl ?_
            refine z_getIe (pc := 124) (v := (ρ 31 23) - 1) C fX6_147 sh31 rfl dX6_printTree_124 (by rw [e_38, zup_same]) ?_
            refine z_imul (pc := 127) C dX6_printTree_127 ?_
            refine z_iconst (pc := 128) C dX6_printTree_128 ?_
            refine z_iadd (pc := 129) C dX6_printTree_129 ?_
            refine z_ialde (pc := 130) (v := e.2.2.2) C sh47 (by (try unfold zRg at *); (try simp only [IX, IM] at *); omega) (by (try unfold zRg at *); (try simp only [IX, IM] at *); omega) dX6_printTree_130 (by rw [e_38, zup_row (by decide)]; exact hpp.2.2.2) ?_
            refine z_iload_n (pc := 131) C dX6_printTree_131 rfl rfl ?_
            refine z_callVv (pc := 132) (rest := []) C (C_X6_pushParts E σ_38 hR_38 e.1 (by unfold zRg; omega) e.2.2.1 (by rw [← hpp.2.2.1]; exact hRr 47 _) e.2.2.2 (by rw [← hpp.2.2.2]; exact hRr 47 _) z hz τ l hI_38 (by rw [e_38]; exact (hpi.tt ht).same (zup_place (by decide)) (zup_place (by decide)) (fun c hc => zup_row (by omega))) (by omega) (by omega) (by omega) (by rw [e_38]; exact (fun u m x hm hx hl => by rw [zup_row (by decide)]; exact hpi.2.2.2.2.2.1 u m x hm hx (by omega))) (by rw [e_38]; exact hpop.1) (by omega)) vX6_168 (by decide) sh31 rfl rfl rfl (Nat.le_of_ble_eq_true rfl) dX6_printTree_132 (fun σ_132 hR_132 hp_132 => ?_)
            refine z_goto (pc := 135) C 24 dX6_printTree_135 rfl ?_
            refine z_weak (lv' := [some (zrf E 31), some (ziv a), some (ziv z), none, none]) ⟨rfl, rfl, rfl, trivial⟩ ?_
            first
            | (obtain ⟨j1, j2⟩ := hpi.write (c := e.2.1) (zif_pos (by omega)) (by unfold ewt; rw [if_pos (by omega)]; decide); have j3 := Es.len hw7 ha1.2 _ j1.2.1; exact ih _ _ σ_75 hR_75 (by rw [hp_75, e_38]; exact j1) (by omega))
            | (obtain ⟨j1, j2⟩ := hpi.write (c := xnlet τ 7 e.1) (by rw [zif_neg (by omega)]; exact YT_leaf hw7 hel (by omega)) hew; have j3 := Es.len hw7 ha1.2 _ j1.2.1; exact ih _ _ σ_97 hR_97 (by rw [hp_97, e_38]; exact j1) (by omega))
            | (obtain ⟨j1, j2⟩ := hpi.parts hw7 hwo hel (by omega) hp_132.1 (by rw [← e_38]; exact hp_132.2); have j3 := Es.len hw7 ha1.2 _ j1.2.1; exact ih _ _ σ_132 hR_132 j1 (by omega))
          · have hdl := hpi.dlt hw7 hwo ha1 (c := xnlet τ 7 e.1) (by rw [zif_neg (by omega)]; exact YT_leaf hw7 hel (by omega))
            have hlt := (hw7.node hel).2.2.2.2
            refine z_aload_nZ (pc := 90) C dX6_printTree_90 rfl rfl ?_
            refine z_aload_nZ (pc := 91) C dX6_printTree_91 rfl rfl ?_
            refine z_getR (pc := 92) C fX6_29 sh31 rfl dX6_printTree_92 ?_
            refine z_iload_n (pc := 95) C dX6_printTree_95 rfl rfl ?_
            refine z_ialde (pc := 96) (v := xnlet τ 7 e.1) C sh38 (by (try unfold zRg at *); (try simp only [IX, IM] at *); omega) (by (try unfold zRg at *); (try simp only [IX, IM] at *); omega) dX6_printTree_96 (by rw [e_38, zup_row (by decide), hpi.2.2.2.2.2.2.1 38 (by decide), (ht.node hel).2.1]; unfold zd; rw [if_neg (by omega)]) ?_
            refine z_callVv (pc := 97) (rest := []) C (C_X6_write E σ_38 hR_38 (xnlet τ 7 e.1) (by unfold zRg; omega) hI_38 (by rw [e_38, zup_place (by decide), hpi.2.2.2.1.2]; omega)) vX6_165 (by decide) sh31 rfl rfl rfl (Nat.le_of_ble_eq_true rfl) dX6_printTree_97 (fun σ_97 hR_97 hp_97 => ?_)
            refine z_goto (pc := 100) C 135 dX6_printTree_100 rfl ?_
            refine z_goto (pc := 135) C 24 dX6_printTree_135 rfl ?_
            refine z_weak (lv' := [some (zrf E 31), some (ziv a), some (ziv z), none, none]) ⟨rfl, rfl, rfl, trivial⟩ ?_
            first
            | (obtain ⟨j1, j2⟩ := hpi.write (c := e.2.1) (zif_pos (by omega)) (by unfold ewt; rw [if_pos (by omega)]; decide); have j3 := Es.len hw7 ha1.2 _ j1.2.1; exact ih _ _ σ_75 hR_75 (by rw [hp_75, e_38]; exact j1) (by omega))
            | (obtain ⟨j1, j2⟩ := hpi.write (c := xnlet τ 7 e.1) (by rw [zif_neg (by omega)]; exact YT_leaf hw7 hel (by omega)) hew; have j3 := Es.len hw7 ha1.2 _ j1.2.1; exact ih _ _ σ_97 hR_97 (by rw [hp_97, e_38]; exact j1) (by omega))
            | (obtain ⟨j1, j2⟩ := hpi.parts hw7 hwo hel (by omega) hp_132.1 (by rw [← e_38]; exact hp_132.2); have j3 := Es.len hw7 ha1.2 _ j1.2.1; exact ih _ _ σ_132 hR_132 j1 (by omega))
        · have hdl := hpi.dlt hw7 hwo ha1 (c := e.2.1) (zif_pos (by omega))
          refine z_aload_nZ (pc := 72) C dX6_printTree_72 rfl rfl ?_
          refine z_iload (pc := 73) C dX6_printTree_73 rfl ?_
          refine z_callVv (pc := 75) (rest := []) C (C_X6_write E σ_38 hR_38 e.2.1 (by rw [← hpp.2.1]; exact hRr 47 _) hI_38 (by rw [e_38, zup_place (by decide), hpi.2.2.2.1.2]; omega)) vX6_165 (by decide) sh31 rfl rfl rfl (Nat.le_of_ble_eq_true rfl) dX6_printTree_75 (fun σ_75 hR_75 hp_75 => ?_)
          refine z_goto (pc := 78) C 135 dX6_printTree_78 rfl ?_
          refine z_goto (pc := 135) C 24 dX6_printTree_135 rfl ?_
          refine z_weak (lv' := [some (zrf E 31), some (ziv a), some (ziv z), none, none]) ⟨rfl, rfl, rfl, trivial⟩ ?_
          first
          | (obtain ⟨j1, j2⟩ := hpi.write (c := e.2.1) (zif_pos (by omega)) (by unfold ewt; rw [if_pos (by omega)]; decide); have j3 := Es.len hw7 ha1.2 _ j1.2.1; exact ih _ _ σ_75 hR_75 (by rw [hp_75, e_38]; exact j1) (by omega))
          | (obtain ⟨j1, j2⟩ := hpi.write (c := xnlet τ 7 e.1) (by rw [zif_neg (by omega)]; exact YT_leaf hw7 hel (by omega)) hew; have j3 := Es.len hw7 ha1.2 _ j1.2.1; exact ih _ _ σ_97 hR_97 (by rw [hp_97, e_38]; exact j1) (by omega))
          | (obtain ⟨j1, j2⟩ := hpi.parts hw7 hwo hel (by omega) hp_132.1 (by rw [← e_38]; exact hp_132.2); have j3 := Es.len hw7 ha1.2 _ j1.2.1; exact ih _ _ σ_132 hR_132 j1 (by omega))
  have hst : PI τ σ a z σ_21 [(a, -10, 0, 0)] [] := by rw [hp_21, e_12, e_7]; exact PI.start hw7 ha1 hp_2.1 hp_2.2
  exact L24 _ _ _ σ_21 hR_21 hst (Nat.lt_succ_self _)
