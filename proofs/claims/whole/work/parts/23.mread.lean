/-! ===== the reference's reader, as functions ===== -/
def mrd (σ : ZSt) (o l a b : Int) : ZSt := zup (zup (zup (zup (zup σ 49 (σ 31 30).toNat o) 50 (σ 31 30).toNat l) 51 (σ 31 30).toNat a) 52 (σ 31 30).toNat b) 31 30 (σ 31 30 + 1)
def mfail (σ : ZSt) (a b : Int) : ZSt := zup (zup σ 31 33 a) 31 34 b
def mopen (σ : ZSt) (w o d l : Int) : ZSt := zup (zup (zup (zup (zup (zup (zup (zup (zup σ 53 (5 * σ 31 32).toNat w) 53 (5 * σ 31 32 + 1).toNat o) 53 (5 * σ 31 32 + 2).toNat (σ 31 35)) 53 (5 * σ 31 32 + 3).toNat d) 53 (5 * σ 31 32 + 4).toNat (σ 31 36)) 31 32 (σ 31 32 + 1)) 31 36 l) 31 35 (σ 31 35 + 1)) 31 39 1
noncomputable def mchr (σ : ZSt) : Int := zif (σ 31 35 < σ 31 25) (σ 48 (σ 31 35).toNat) (-10)
noncomputable def mpre (σ : ZSt) : Int := zif (mchr σ < 0) (-10) (zd (mfind σ (mchr σ) 1))
noncomputable def mrdop (σ : ZSt) : ZSt := zif (97 ≤ mchr σ ∧ mchr σ ≤ 122) (zup (zup (zup (zup (mrd σ (-10) (mchr σ) (-10) (-10)) 31 37 (σ 31 30)) 31 38 0) 31 39 0) 31 35 (σ 31 35 + 1)) (zif (mchr σ = 40) (mopen σ 40 (-10) (-10) 0) (zif (0 ≤ mpre σ) (mopen σ 1 (mpre σ) (-10) (σ 34 (mpre σ).toNat)) (mfail σ 1 (σ 31 35))))
def mbb (σ : ZSt) (o : Int) : Prop := σ 31 38 = 0 ∧ mbar σ o (σ 49 (σ 31 37).toNat)
noncomputable def mrpost (σ : ZSt) (o : Int) : ZSt := zif (mbb σ o) (mfail σ 6 (σ 31 35)) (zup (zup (zup (mrd σ o (-10) (σ 31 37) (-10)) 31 37 (σ 31 30)) 31 38 0) 31 35 (σ 31 35 + 1))
noncomputable def mrinf (σ : ZSt) (o : Int) : ZSt := zif (σ 31 38 = 0 ∧ mclash σ o (σ 49 (σ 31 37).toNat)) (mfail σ 5 (σ 31 35)) (zif (mbb σ o) (mfail σ 6 (σ 31 35)) (mopen σ 0 o (σ 31 37) (mright σ o)))
noncomputable def mend (σ : ZSt) : ZSt :=
  zif (σ 53 (5 * (σ 31 32 - 1)).toNat = 40)
    (zup (zup (zup (zif (σ 31 35 = σ 31 25) (mfail (zup σ 31 32 (σ 31 32 - 1)) 3 (σ 31 35)) (zup σ 31 32 (σ 31 32 - 1))) 31 35 (σ 31 35 + 1)) 31 38 1) 31 36 (σ 53 (5 * (σ 31 32 - 1) + 4).toNat))
    (zif (mbb σ (σ 53 (5 * (σ 31 32 - 1) + 1).toNat))
      (zup (mfail (zup σ 31 32 (σ 31 32 - 1)) 6 (σ 53 (5 * (σ 31 32 - 1) + 2).toNat)) 31 36 (σ 53 (5 * (σ 31 32 - 1) + 4).toNat))
      (zup (zup (zup (zif (σ 53 (5 * (σ 31 32 - 1)).toNat = 1) (mrd (zup σ 31 32 (σ 31 32 - 1)) (σ 53 (5 * (σ 31 32 - 1) + 1).toNat) (-10) (σ 31 37) (-10)) (mrd (zup σ 31 32 (σ 31 32 - 1)) (σ 53 (5 * (σ 31 32 - 1) + 1).toNat) (-10) (σ 53 (5 * (σ 31 32 - 1) + 3).toNat) (σ 31 37))) 31 37 (σ 31 30)) 31 38 0) 31 36 (σ 53 (5 * (σ 31 32 - 1) + 4).toNat)))
def mover (σ : ZSt) : Prop := σ 31 35 = σ 31 25 ∨ σ 48 (σ 31 35).toNat = 41
/-- the call ends, or the text -/
noncomputable def mgoE (σ : ZSt) : Int × ZSt := zif (0 < σ 31 32) (0, mend σ) (zif (σ 31 35 < σ 31 25) (0, mfail σ 4 (σ 31 35)) (1, σ))
noncomputable def mgo (σ : ZSt) : Int × ZSt := zif (mover σ) (mgoE σ) (zif (mfind σ (σ 48 (σ 31 35).toNat) 0 = -1) (0, mfail σ 2 (σ 31 35)) (zif (σ 34 (mfind σ (σ 48 (σ 31 35).toNat) 0).toNat < σ 31 36) (mgoE σ) (0, zif (σ 33 (mfind σ (σ 48 (σ 31 35).toNat) 0).toNat = 2) (mrpost σ (mfind σ (σ 48 (σ 31 35).toNat) 0)) (mrinf σ (mfind σ (σ 48 (σ 31 35).toNat) 0)))))
def mstart (σ : ZSt) : ZSt := zup (zup (zup (zup (zup (zup (zup (zup (zup σ 31 30 0) 31 32 0) 31 35 0) 31 36 0) 31 37 (-10)) 31 38 0) 31 39 1) 31 33 (-10)) 31 34 (-10)
theorem mrd_31 {σ : ZSt} {o l a b : Int} {j : Nat} (h : j ≠ 30) : mrd σ o l a b 31 j = σ 31 j := by
  unfold mrd
  rw [zup_place h]
  repeat rw [zup_cell (by decide)]
theorem mrd_row {σ : ZSt} {o l a b : Int} {c : Nat} (h : ¬ (49 ≤ c ∧ c ≤ 52) ∧ c ≠ 31) : mrd σ o l a b c = σ c := by
  unfold mrd
  repeat rw [zup_row (by omega)]
theorem IM.mrd {σ : ZSt} (h : IM σ) {o l a b : Int} : IM (mrd σ o l a b) := ((((h.upA rfl).upA rfl).upA rfl).upA rfl).upF rfl
theorem IM.mfail {σ : ZSt} (h : IM σ) {a b : Int} : IM (mfail σ a b) := (h.upF rfl).upF rfl
theorem mfail_31 {σ : ZSt} {a b : Int} {j : Nat} (h : j ≠ 33 ∧ j ≠ 34) : mfail σ a b 31 j = σ 31 j := by
  unfold mfail
  rw [zup_place h.2, zup_place h.1]
theorem mfail_row {σ : ZSt} {a b : Int} {c : Nat} (h : c ≠ 31) : mfail σ a b c = σ c := by
  unfold mfail
  rw [zup_row h, zup_row h]
/-- what a step of the reading needs: places in their rows -/
def RM (σ : ZSt) : Prop := (0 ≤ σ 31 30 ∧ σ 31 30 < 130) ∧ (0 ≤ σ 31 32 ∧ σ 31 32 < 140) ∧ (0 ≤ σ 31 35 ∧ σ 31 35 ≤ σ 31 25)
def RL1 (σ : ZSt) : Prop := (0 ≤ σ 31 37 ∧ σ 31 37 < 130) ∧ σ 49 (σ 31 37).toNat < 16
theorem mpre_b {σ : ZSt} (h : IM σ) : mpre σ < 16 := by
  unfold mpre
  by_cases hq : mchr σ < 0
  · rw [zif_pos hq]; decide
  · rw [zif_neg hq]
    have := mfind_b h (mchr σ) 1
    have := h.ops
    unfold zd
    split <;> omega
