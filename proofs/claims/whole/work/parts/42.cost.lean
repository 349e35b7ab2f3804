/-! ===== the fewest pairs, on the class's tables ===== -/
noncomputable def yo (τ : ZSt) (f : Int → Int → Int → Int) (o w m x : Int) : Int := zif (xnop τ 7 w = -1) 0 (min (xpi τ f o w m x) (1 + f w 0 0))
noncomputable def yc (τ : ZSt) : Nat → Int → Int → Int → Int
  | 0 => fun _ _ _ => 0
  | n + 1 => fun v m x => zif (xnop τ 7 v = -1) 0 (zif (xrw τ (xnop τ 7 v) m x) (yo τ (yc τ n) (xnop τ 7 v) (xnbef τ 7 v) m (xlev τ (xnop τ 7 v)) + yo τ (yc τ n) (xnop τ 7 v) (xnaft τ 7 v) (xmin τ (xnop τ 7 v)) x) 1000)
def Kd (τ : ZSt) (a : Int) : Prop := a = -1 ∨ (0 ≤ a ∧ a < τ 7 5)
theorem xn_none {τ : ZSt} {a : Int} (h : a = -1) : xnop τ 7 a = -1 ∧ xnlet τ 7 a = -1 ∧ xnbef τ 7 a = -1 ∧ xnaft τ 7 a = -1 ∧ xnsz τ 7 a = 0 := by
  subst h
  exact ⟨zget_out (by omega), zget_out (by omega), zget_out (by omega), zget_out (by omega), zget_out (by omega)⟩
theorem W7.node {τ : ZSt} (w : W7 τ) {v : Int} (hv : 0 ≤ v ∧ v < τ 7 5) : (1 ≤ xnsz τ 7 v ∧ xnsz τ 7 v ≤ 40) ∧ xnsz τ 7 v = 1 + xnsz τ 7 (xnbef τ 7 v) + xnsz τ 7 (xnaft τ 7 v) ∧ (xnbef τ 7 v = -1 ∨ (0 ≤ xnbef τ 7 v ∧ xnbef τ 7 v < v)) ∧ (xnaft τ 7 v = -1 ∨ (0 ≤ xnaft τ 7 v ∧ xnaft τ 7 v < v)) ∧
    ((xnop τ 7 v = -1 ∧ xnbef τ 7 v = -1 ∧ xnaft τ 7 v = -1 ∧ 97 ≤ xnlet τ 7 v ∧ xnlet τ 7 v ≤ 122) ∨ ((0 ≤ xnop τ 7 v ∧ xnop τ 7 v < τ 1 5) ∧ ((xkind τ (xnop τ 7 v) = 0 ∧ xnbef τ 7 v ≠ -1 ∧ xnaft τ 7 v ≠ -1) ∨ (xkind τ (xnop τ 7 v) = 1 ∧ xnbef τ 7 v = -1 ∧ xnaft τ 7 v ≠ -1) ∨ (xkind τ (xnop τ 7 v) = 2 ∧ xnbef τ 7 v ≠ -1 ∧ xnaft τ 7 v = -1)))) := by
  obtain ⟨⟨-, w1⟩, w2⟩ := w
  obtain ⟨⟨n1, n2⟩, n3, n4⟩ := w1 v.toNat (by omega)
  have n5 := w2 v.toNat (by omega)
  obtain ⟨e1, e2, e3, e4, e5⟩ := xn_in (τ := τ) (q := 7) hv
  simp only [Nat.reduceAdd] at n1 n2 n3 n4 n5 e1 e2 e3 e4 e5
  rw [e1, e2, e3, e4, e5]
  refine ⟨⟨n3, n5⟩, n2, ?_, ?_, ?_⟩
  · omega
  · omega
  · rcases n1 with ⟨a1, a2, a3, a4⟩ | ⟨a1, a2, a3⟩
    · exact Or.inl ⟨a1, a3, a4, a2⟩
    · right
      rw [show xkind τ (τ 8 v.toNat) = τ 3 (τ 8 v.toNat).toNat from zget_in a1]
      refine ⟨a1, ?_⟩
      omega
theorem Kd.size {τ : ZSt} {a : Int} (w : W7 τ) (h : Kd τ a) : 0 ≤ xnsz τ 7 a ∧ xnsz τ 7 a ≤ 40 := by
  rcases h with h | h
  · rw [(xn_none h).2.2.2.2]; omega
  · have := (w.node h).1; omega
theorem W7.kids {τ : ZSt} (w : W7 τ) {v : Int} (hv : 0 ≤ v ∧ v < τ 7 5) : Kd τ (xnbef τ 7 v) ∧ Kd τ (xnaft τ 7 v) := by
  obtain ⟨-, -, h1, h2, -⟩ := w.node hv
  unfold Kd
  omega
theorem yo_ext {τ : ZSt} {f g : Int → Int → Int → Int} {o a m x : Int} (h : a ≠ -1 → f a = g a) : yo τ f o a m x = yo τ g o a m x := by
  unfold yo
  by_cases ha : a = -1
  · rw [zif_pos (xn_none ha).1, zif_pos (xn_none ha).1]
  · unfold xpi; rw [h ha]
theorem yc_none {τ : ZSt} (n : Nat) : yc τ n (-1) = fun _ _ => 0 := by
  cases n with
  | zero => rfl
  | succ n => funext m x; show zif _ _ _ = _; rw [zif_pos (xn_none rfl).1]
theorem yc_fuel {τ : ZSt} (w : W7 τ) : ∀ (s : Nat) (v : Int), Kd τ v → xnsz τ 7 v ≤ s → ∀ n, s ≤ n → yc τ n v = yc τ s v := by
  intro s
  induction s with
  | zero =>
    intro v hv hs n hn
    rcases hv with hv | hv
    · rw [hv, yc_none, yc_none]
    · have := (w.node hv).1; omega
  | succ s ih =>
    intro v hv hs n hn
    rcases hv with hv | hv
    · rw [hv, yc_none, yc_none]
    · obtain ⟨k, rfl⟩ : ∃ k, n = k + 1 := ⟨n - 1, by omega⟩
      obtain ⟨k1, k2⟩ := w.kids hv
      have hz := (w.node hv).2.1
      have z1 := k1.size w
      have z2 := k2.size w
      funext m x
      show zif _ _ (zif _ (_ + _) _) = zif _ _ (zif _ (_ + _) _)
      rw [yo_ext (f := yc τ k) (g := yc τ s) (fun _ => ih _ k1 (by omega) k (by omega)), yo_ext (f := yc τ k) (g := yc τ s) (fun _ => ih _ k2 (by omega) k (by omega))]
noncomputable def YC (τ : ZSt) : Int → Int → Int → Int := yc τ 40
theorem YC_eq {τ : ZSt} (w : W7 τ) {v : Int} (hv : 0 ≤ v ∧ v < τ 7 5) (m x : Int) : YC τ v m x = zif (xnop τ 7 v = -1) 0 (zif (xrw τ (xnop τ 7 v) m x) (yo τ (YC τ) (xnop τ 7 v) (xnbef τ 7 v) m (xlev τ (xnop τ 7 v)) + yo τ (YC τ) (xnop τ 7 v) (xnaft τ 7 v) (xmin τ (xnop τ 7 v)) x) 1000) := by
  obtain ⟨k1, k2⟩ := w.kids hv
  have hz := (w.node hv).2.1
  have hs := (w.node hv).1
  have z1 := k1.size w
  have z2 := k2.size w
  show zif _ _ (zif _ (_ + _) _) = _
  rw [yo_ext (f := yc τ 39) (g := YC τ) (fun _ => (yc_fuel w 39 _ k1 (by omega) 40 (by omega)).symm), yo_ext (f := yc τ 39) (g := YC τ) (fun _ => (yc_fuel w 39 _ k2 (by omega) 40 (by omega)).symm)]
theorem WO.lev {τ : ZSt} (h : WO τ) {o : Int} (ho : 0 ≤ o ∧ o < τ 1 5) : xlev τ o = τ 4 o.toNat ∧ xkind τ o = τ 3 o.toNat ∧ xsym τ o = τ 2 o.toNat ∧ (1 ≤ xlev τ o ∧ xlev τ o ≤ 9) ∧ (xlev τ o ≤ xmin τ o ∧ xmin τ o ≤ xlev τ o + 1) ∧ (xkind τ o ≠ 0 → xmin τ o = xlev τ o) ∧ (xkind τ o = 0 → xasc τ (xlev τ o) = 2 → xmin τ o = xlev τ o + 1) := by
  obtain ⟨-, -, -, h4, h5, -⟩ := h
  have a1 := h5 o.toNat (by omega)
  have a2 := h4 o.toNat
  have e1 : xlev τ o = τ 4 o.toNat := zget_in ho
  have e2 : xkind τ o = τ 3 o.toNat := zget_in ho
  refine ⟨e1, e2, zget_in ho, by omega, ?_, ?_, ?_⟩
  · unfold xmin
    rw [if_pos ho, e1]
    split <;> omega
  · intro hk
    unfold xmin
    rw [if_pos ho, e1, if_neg (by omega)]
  · intro hk hq
    unfold xmin
    rw [if_pos ho, e1]
    rw [e1] at hq
    unfold xasc at hq
    rw [if_pos (by omega)] at hq
    rw [if_pos ⟨by omega, by omega⟩]
theorem yo_b {τ : ZSt} {o a m x s : Int} (hs : 0 ≤ s) (h : xnop τ 7 a ≠ -1 → (∀ m x, 0 ≤ YC τ a m x) ∧ YC τ a 0 0 + 1 ≤ s) : 0 ≤ yo τ (YC τ) o a m x ∧ yo τ (YC τ) o a m x ≤ s := by
  unfold yo
  by_cases ha : xnop τ 7 a = -1
  · rw [zif_pos ha]; omega
  · rw [zif_neg ha]
    obtain ⟨h1, h2⟩ := h ha
    have h3 := h1 0 0
    have h4 : 0 ≤ xpi τ (YC τ) o a m x := by
      unfold xpi
      by_cases hc : xfb τ o (xnop τ 7 a) ∨ xna τ o (xnop τ 7 a)
      · rw [zif_pos hc]; decide
      · rw [zif_neg hc]; exact h1 m x
    omega
theorem YC_b {τ : ZSt} (w : W7 τ) (wo : WO τ) : ∀ (s : Nat) (v : Int), (0 ≤ v ∧ v < τ 7 5) → xnsz τ 7 v ≤ s → (∀ m x, 0 ≤ YC τ v m x ∧ (YC τ v m x = 1000 ∨ YC τ v m x + 1 ≤ xnsz τ 7 v)) ∧ YC τ v 0 0 + 1 ≤ xnsz τ 7 v := by
  intro s
  induction s with
  | zero => intro v hv hs; have := (w.node hv).1; omega
  | succ s ih =>
    intro v hv hs
    obtain ⟨k1, k2⟩ := w.kids hv
    obtain ⟨h1, hz, -, -, h5⟩ := w.node hv
    have z1 := k1.size w
    have z2 := k2.size w
    have hk : ∀ a, Kd τ a → xnsz τ 7 a ≤ s → ∀ o m x, 0 ≤ yo τ (YC τ) o a m x ∧ yo τ (YC τ) o a m x ≤ xnsz τ 7 a := by
      intro a ka hsa o m x
      refine yo_b (ka.size w).1 (fun hne => ?_)
      rcases ka with ka | ka
      · exact absurd (xn_none ka).1 hne
      · obtain ⟨i1, i2⟩ := ih a ka hsa
        exact ⟨fun m x => (i1 m x).1, i2⟩
    have key : ∀ m x, 0 ≤ YC τ v m x ∧ (YC τ v m x = 1000 ∨ YC τ v m x + 1 ≤ xnsz τ 7 v) ∧ ((xnop τ 7 v = -1 ∨ xrw τ (xnop τ 7 v) m x) → YC τ v m x + 1 ≤ xnsz τ 7 v) := by
      intro m x
      have b1 := hk _ k1 (by omega) (xnop τ 7 v) m (xlev τ (xnop τ 7 v))
      have b2 := hk _ k2 (by omega) (xnop τ 7 v) (xmin τ (xnop τ 7 v)) x
      rw [YC_eq w hv]
      by_cases c1 : xnop τ 7 v = -1
      · rw [zif_pos c1]
        exact ⟨by omega, by omega, fun _ => by omega⟩
      · rw [zif_neg c1]
        by_cases c2 : xrw τ (xnop τ 7 v) m x
        · rw [zif_pos c2]
          exact ⟨by omega, by omega, fun _ => by omega⟩
        · rw [zif_neg c2]
          exact ⟨by decide, Or.inl rfl, fun w9 => absurd w9 (by rintro (w8 | w8) <;> contradiction)⟩
    refine ⟨fun m x => ⟨(key m x).1, (key m x).2.1⟩, (key 0 0).2.2 ?_⟩
    rcases h5 with h5 | ⟨h5, -⟩
    · exact Or.inl h5.1
    · right
      have hl := wo.lev h5
      exact ⟨Or.inr (by omega), Or.inr (by omega)⟩
theorem YC_rg {τ : ZSt} (w : W7 τ) (wo : WO τ) {v : Int} (hv : 0 ≤ v ∧ v < τ 7 5) : (∀ m x, 0 ≤ YC τ v m x ∧ YC τ v m x ≤ 1000) ∧ YC τ v 0 0 ≤ 39 := by
  obtain ⟨h1, h2⟩ := YC_b w wo 40 v hv (by have := (w.node hv).1; omega)
  have := (w.node hv).1
  exact ⟨fun m x => by have := h1 m x; omega, by omega⟩
theorem yo_rg {τ : ZSt} (w : W7 τ) (wo : WO τ) {a : Int} (ka : Kd τ a) (o m x : Int) : 0 ≤ yo τ (YC τ) o a m x ∧ yo τ (YC τ) o a m x ≤ 40 := by
  refine yo_b (by decide) (fun hne => ?_)
  rcases ka with ka | ka
  · exact absurd (xn_none ka).1 hne
  · obtain ⟨i1, i2⟩ := YC_rg w wo ka
    exact ⟨fun m x => (i1 m x).1, by omega⟩
/-! ===== the text, on the class's tables ===== -/
noncomputable def yto (τ : ZSt) (z : Int) (f : Int → Int → Int → List Int) (o w m x : Int) : List Int := zif (w = -1) [] (zif (xnop τ 7 w ≠ -1 ∧ (z ≠ 0 ∨ 1 + YC τ w 0 0 < xpi τ (YC τ) o w m x)) ([40] ++ f w 0 0 ++ [41]) (f w m x))
noncomputable def yt (τ : ZSt) (z : Int) : Nat → Int → Int → Int → List Int
  | 0 => fun _ _ _ => []
  | n + 1 => fun v m x => zif (xnop τ 7 v = -1) [xnlet τ 7 v] (yto τ z (yt τ z n) (xnop τ 7 v) (xnbef τ 7 v) m (xlev τ (xnop τ 7 v)) ++ [xsym τ (xnop τ 7 v)] ++ yto τ z (yt τ z n) (xnop τ 7 v) (xnaft τ 7 v) (xmin τ (xnop τ 7 v)) x)
theorem yto_ext {τ : ZSt} {z : Int} {f g : Int → Int → Int → List Int} {o a m x : Int} (h : a ≠ -1 → f a = g a) : yto τ z f o a m x = yto τ z g o a m x := by
  unfold yto
  by_cases ha : a = -1
  · rw [zif_pos ha, zif_pos ha]
  · rw [h ha]
theorem yt_fuel {τ : ZSt} {z : Int} (w : W7 τ) : ∀ (s : Nat) (v : Int), (0 ≤ v ∧ v < τ 7 5) → xnsz τ 7 v ≤ s → ∀ n, s ≤ n → yt τ z n v = yt τ z s v := by
  intro s
  induction s with
  | zero => intro v hv hs; have := (w.node hv).1; omega
  | succ s ih =>
    intro v hv hs n hn
    obtain ⟨k, rfl⟩ : ∃ k, n = k + 1 := ⟨n - 1, by omega⟩
    obtain ⟨k1, k2⟩ := w.kids hv
    have hz := (w.node hv).2.1
    have z1 := k1.size w
    have z2 := k2.size w
    funext m x
    show zif _ _ (_ ++ _ ++ _) = zif _ _ (_ ++ _ ++ _)
    rw [yto_ext (f := yt τ z k) (g := yt τ z s) (fun h => ih _ (k1.resolve_left h) (by omega) k (by omega)), yto_ext (f := yt τ z k) (g := yt τ z s) (fun h => ih _ (k2.resolve_left h) (by omega) k (by omega))]
noncomputable def YT (τ : ZSt) (z : Int) : Int → Int → Int → List Int := yt τ z 40
theorem YT_eq {τ : ZSt} {z : Int} (w : W7 τ) {v : Int} (hv : 0 ≤ v ∧ v < τ 7 5) (m x : Int) : YT τ z v m x = zif (xnop τ 7 v = -1) [xnlet τ 7 v] (yto τ z (YT τ z) (xnop τ 7 v) (xnbef τ 7 v) m (xlev τ (xnop τ 7 v)) ++ [xsym τ (xnop τ 7 v)] ++ yto τ z (YT τ z) (xnop τ 7 v) (xnaft τ 7 v) (xmin τ (xnop τ 7 v)) x) := by
  obtain ⟨k1, k2⟩ := w.kids hv
  have hz := (w.node hv).2.1
  have hs := (w.node hv).1
  have z1 := k1.size w
  have z2 := k2.size w
  show zif _ _ (_ ++ _ ++ _) = _
  rw [yto_ext (f := yt τ z 39) (g := YT τ z) (fun h => (yt_fuel w 39 _ (k1.resolve_left h) (by omega) 40 (by omega)).symm), yto_ext (f := yt τ z 39) (g := YT τ z) (fun h => (yt_fuel w 39 _ (k2.resolve_left h) (by omega) 40 (by omega)).symm)]
/-- a text whose brackets are paired, of signs that are signs -/
def zdl (a : Int) : Int := if a = 40 then 1 else if a = 41 then -1 else 0
def zdep : List Int → Int
  | [] => 0
  | a :: l => zdl a + zdep l
theorem zdep_app (l m : List Int) : zdep (l ++ m) = zdep l + zdep m := by
  induction l with
  | nil => show zdep m = 0 + zdep m; omega
  | cons a l ih => show zdl a + zdep (l ++ m) = zdl a + zdep l + zdep m; omega
def Dy (l : List Int) : Prop := zdep l = 0 ∧ ∀ k, 0 ≤ zdep (l.take k)
theorem Dy.nil : Dy [] := ⟨rfl, fun k => by rw [List.take_nil]; decide⟩
theorem Dy.one {a : Int} (h : a ≠ 40 ∧ a ≠ 41) : Dy [a] := by
  have e : zdl a = 0 := by unfold zdl; rw [if_neg h.1, if_neg h.2]
  refine ⟨by show zdl a + 0 = 0; omega, fun k => ?_⟩
  cases k with
  | zero => exact Int.le_refl 0
  | succ k => show 0 ≤ zdl a + zdep ([].take k); rw [List.take_nil, e]; decide
theorem Dy.app {l m : List Int} (hl : Dy l) (hm : Dy m) : Dy (l ++ m) := by
  refine ⟨by rw [zdep_app, hl.1, hm.1]; rfl, fun k => ?_⟩
  rw [List.take_append, zdep_app]
  have h1 := hl.2 k
  have h2 := hm.2 (k - l.length)
  omega
theorem Dy.brk {l : List Int} (hl : Dy l) : Dy ([40] ++ l ++ [41]) := by
  refine ⟨by rw [zdep_app, zdep_app, hl.1]; rfl, fun k => ?_⟩
  cases k with
  | zero => exact Int.le_refl 0
  | succ k =>
    show 0 ≤ 1 + zdep ((l ++ [41]).take k)
    rw [List.take_append, zdep_app]
    have h1 := hl.2 k
    have h2 : -1 ≤ zdep (([41] : List Int).take (k - l.length)) := by
      cases (k - l.length) with
      | zero => decide
      | succ j => show -1 ≤ -1 + zdep (([] : List Int).take j); rw [List.take_nil]; decide
    omega
theorem YT_ok {τ : ZSt} {z : Int} (w : W7 τ) (wo : WO τ) : ∀ (s : Nat) (v : Int), (0 ≤ v ∧ v < τ 7 5) → xnsz τ 7 v ≤ s → ∀ m x, (YT τ z v m x).length + 2 ≤ 3 * xnsz τ 7 v ∧ Dy (YT τ z v m x) ∧ ∀ a, a ∈ YT τ z v m x → 0 < a := by
  intro s
  induction s with
  | zero => intro v hv hs; have := (w.node hv).1; omega
  | succ s ih =>
    intro v hv hs m x
    obtain ⟨k1, k2⟩ := w.kids hv
    obtain ⟨h1, hz, -, -, h5⟩ := w.node hv
    have z1 := k1.size w
    have z2 := k2.size w
    have hk : ∀ a, Kd τ a → xnsz τ 7 a ≤ s → ∀ o m x, (yto τ z (YT τ z) o a m x).length ≤ 3 * xnsz τ 7 a ∧ Dy (yto τ z (YT τ z) o a m x) ∧ ∀ q, q ∈ yto τ z (YT τ z) o a m x → 0 < q := by
      intro a ka hsa o m x
      unfold yto
      rcases ka with ka | ka
      · rw [zif_pos ka, (xn_none ka).2.2.2.2]
        exact ⟨by decide, Dy.nil, fun q hq => by cases hq⟩
      · rw [zif_neg (by omega)]
        have i0 := ih a ka hsa 0 0
        have i1 := ih a ka hsa m x
        by_cases c : xnop τ 7 a ≠ -1 ∧ (z ≠ 0 ∨ 1 + YC τ a 0 0 < xpi τ (YC τ) o a m x)
        · rw [zif_pos c]
          refine ⟨?_, i0.2.1.brk, fun q hq => ?_⟩
          · rw [List.length_append, List.length_append]
            simp only [List.length_cons, List.length_nil]
            omega
          · rw [List.mem_append, List.mem_append] at hq
            rcases hq with (hq | hq) | hq
            · rw [List.mem_singleton.mp hq]; decide
            · exact i0.2.2 q hq
            · rw [List.mem_singleton.mp hq]; decide
        · rw [zif_neg c]
          exact ⟨by omega, i1.2.1, i1.2.2⟩
    rw [YT_eq w hv]
    have b1 := hk _ k1 (by omega) (xnop τ 7 v) m (xlev τ (xnop τ 7 v))
    have b2 := hk _ k2 (by omega) (xnop τ 7 v) (xmin τ (xnop τ 7 v)) x
    rcases h5 with ⟨q1, -, -, q2⟩ | ⟨q1, -⟩
    · rw [zif_pos q1]
      refine ⟨?_, Dy.one (by omega), fun a ha => ?_⟩
      · simp only [List.length_cons, List.length_nil]; omega
      · rw [List.mem_singleton.mp ha]; omega
    · rw [zif_neg (by omega)]
      have hsy : xcan (xsym τ (xnop τ 7 v)) := by
        rw [(wo.lev q1).2.2.1]
        exact (wo.2.2.2.2.1 _ (by omega)).2
      have hsy2 : 0 < xsym τ (xnop τ 7 v) ∧ xsym τ (xnop τ 7 v) ≠ 40 ∧ xsym τ (xnop τ 7 v) ≠ 41 := by
        unfold xcan at hsy
        omega
      refine ⟨?_, (b1.2.1.app (Dy.one hsy2.2)).app b2.2.1, fun a ha => ?_⟩
      · rw [List.length_append, List.length_append]
        simp only [List.length_cons, List.length_nil]
        omega
      · rw [List.mem_append, List.mem_append] at ha
        rcases ha with (ha | ha) | ha
        · exact b1.2.2 a ha
        · rw [List.mem_singleton.mp ha]; exact hsy2.1
        · exact b2.2.2 a ha
