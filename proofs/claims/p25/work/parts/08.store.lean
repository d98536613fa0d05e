/-! what a store makes of the picture -/
section ST
variable {ad : Nat → Nat} {cI cJ cQ : ClassId} {M : Mdl} {ts : Nat → Nat} {pu : Nat → Int64} {th : Int32} {i x : Nat}
theorem wcS_nw : ∀ j, j < 27 → va_up (wcE ad cI cJ cQ M ts pu) 0 (.inr (0, ([.ref (ad 1), .ref (ad 2), .ref (ad 3), .ref (ad 4), .ref (ad 5), .ref (ad 6), .ref (ad 7), .ref (ad 8), .ref (ad 9), .ref (ad 10), .int (nI (M 0 0)), .int (nI (M 5 0))] : List Value).set 10 (.int (nI x)))) j = wcE ad cI cJ cQ (mup M 0 0 x) ts pu j := by
  intro j _
  have hA : ∀ a b, mup M 0 0 x (10 + 3 * a) b = M (10 + 3 * a) b := fun a b => mup_k (by omega)
  have hB : ∀ a b, mup M 0 0 x (11 + 3 * a) b = M (11 + 3 * a) b := fun a b => mup_k (by omega)
  have hC : ∀ a b, mup M 0 0 x (12 + 3 * a) b = M (12 + 3 * a) b := fun a b => mup_k (by omega)
  by_cases hj : j = 0
  · subst hj; simp [va_up, wcE, mup]
  · simp [va_up, wcE, hj, hA, hB, hC, mup_k]
theorem wcS_nv : ∀ j, j < 27 → va_up (wcE ad cI cJ cQ M ts pu) 0 (.inr (0, ([.ref (ad 1), .ref (ad 2), .ref (ad 3), .ref (ad 4), .ref (ad 5), .ref (ad 6), .ref (ad 7), .ref (ad 8), .ref (ad 9), .ref (ad 10), .int (nI (M 0 0)), .int (nI (M 5 0))] : List Value).set 11 (.int (nI x)))) j = wcE ad cI cJ cQ (mup M 5 0 x) ts pu j := by
  intro j _
  have hA : ∀ a b, mup M 5 0 x (10 + 3 * a) b = M (10 + 3 * a) b := fun a b => mup_k (by omega)
  have hB : ∀ a b, mup M 5 0 x (11 + 3 * a) b = M (11 + 3 * a) b := fun a b => mup_k (by omega)
  have hC : ∀ a b, mup M 5 0 x (12 + 3 * a) b = M (12 + 3 * a) b := fun a b => mup_k (by omega)
  by_cases hj : j = 0
  · subst hj; simp [va_up, wcE, mup]
  · simp [va_up, wcE, hj, hA, hB, hC, mup_k]
theorem nI_mup {f : Nat} : upd (fun i => nI (M f i)) i (nI x) = fun j => nI (mup M f i x f j) := by
  funext j
  by_cases h : j = i
  · simp [upd, mup, h]
  · simp [upd, mup, h]
theorem wcS_pl : ∀ j, j < 27 → va_up (wcE ad cI cJ cQ M ts pu) 1 (.inl (cI, 8, .inl (upd (fun i => nI (M 1 i)) i (nI x)))) j = wcE ad cI cJ cQ (mup M 1 i x) ts pu j := by
  intro j _
  have hA : ∀ a b, mup M 1 i x (10 + 3 * a) b = M (10 + 3 * a) b := fun a b => mup_k (by omega)
  have hB : ∀ a b, mup M 1 i x (11 + 3 * a) b = M (11 + 3 * a) b := fun a b => mup_k (by omega)
  have hC : ∀ a b, mup M 1 i x (12 + 3 * a) b = M (12 + 3 * a) b := fun a b => mup_k (by omega)
  rw [nI_mup]
  by_cases hj : j = 1
  · subst hj; simp [va_up, wcE]
  · simp [va_up, wcE, hj, hA, hB, hC, mup_k]
theorem wcS_zo : ∀ j, j < 27 → va_up (wcE ad cI cJ cQ M ts pu) 2 (.inl (cI, 8, .inl (upd (fun i => nI (M 2 i)) i (nI x)))) j = wcE ad cI cJ cQ (mup M 2 i x) ts pu j := by
  intro j _
  have hA : ∀ a b, mup M 2 i x (10 + 3 * a) b = M (10 + 3 * a) b := fun a b => mup_k (by omega)
  have hB : ∀ a b, mup M 2 i x (11 + 3 * a) b = M (11 + 3 * a) b := fun a b => mup_k (by omega)
  have hC : ∀ a b, mup M 2 i x (12 + 3 * a) b = M (12 + 3 * a) b := fun a b => mup_k (by omega)
  rw [nI_mup]
  by_cases hj : j = 2
  · subst hj; simp [va_up, wcE]
  · simp [va_up, wcE, hj, hA, hB, hC, mup_k]
theorem wcS_li : ∀ j, j < 27 → va_up (wcE ad cI cJ cQ M ts pu) 3 (.inl (cI, 8, .inl (upd (fun i => nI (M 3 i)) i (nI x)))) j = wcE ad cI cJ cQ (mup M 3 i x) ts pu j := by
  intro j _
  have hA : ∀ a b, mup M 3 i x (10 + 3 * a) b = M (10 + 3 * a) b := fun a b => mup_k (by omega)
  have hB : ∀ a b, mup M 3 i x (11 + 3 * a) b = M (11 + 3 * a) b := fun a b => mup_k (by omega)
  have hC : ∀ a b, mup M 3 i x (12 + 3 * a) b = M (12 + 3 * a) b := fun a b => mup_k (by omega)
  rw [nI_mup]
  by_cases hj : j = 3
  · subst hj; simp [va_up, wcE]
  · simp [va_up, wcE, hj, hA, hB, hC, mup_k]
theorem wcS_sp : ∀ j, j < 27 → va_up (wcE ad cI cJ cQ M ts pu) 5 (.inl (cI, 4, .inl (upd (fun i => nI (M 6 i)) i (nI x)))) j = wcE ad cI cJ cQ (mup M 6 i x) ts pu j := by
  intro j _
  have hA : ∀ a b, mup M 6 i x (10 + 3 * a) b = M (10 + 3 * a) b := fun a b => mup_k (by omega)
  have hB : ∀ a b, mup M 6 i x (11 + 3 * a) b = M (11 + 3 * a) b := fun a b => mup_k (by omega)
  have hC : ∀ a b, mup M 6 i x (12 + 3 * a) b = M (12 + 3 * a) b := fun a b => mup_k (by omega)
  rw [nI_mup]
  by_cases hj : j = 5
  · subst hj; simp [va_up, wcE]
  · simp [va_up, wcE, hj, hA, hB, hC, mup_k]
theorem wcS_lm : ∀ j, j < 27 → va_up (wcE ad cI cJ cQ M ts pu) 6 (.inl (cI, 4, .inl (upd (fun i => nI (M 7 i)) i (nI x)))) j = wcE ad cI cJ cQ (mup M 7 i x) ts pu j := by
  intro j _
  have hA : ∀ a b, mup M 7 i x (10 + 3 * a) b = M (10 + 3 * a) b := fun a b => mup_k (by omega)
  have hB : ∀ a b, mup M 7 i x (11 + 3 * a) b = M (11 + 3 * a) b := fun a b => mup_k (by omega)
  have hC : ∀ a b, mup M 7 i x (12 + 3 * a) b = M (12 + 3 * a) b := fun a b => mup_k (by omega)
  rw [nI_mup]
  by_cases hj : j = 6
  · subst hj; simp [va_up, wcE]
  · simp [va_up, wcE, hj, hA, hB, hC, mup_k]
def nup (f : Nat → Nat) (i x : Nat) : Nat → Nat := fun j => if j = i then x else f j
theorem wcS_ts : ∀ j, j < 27 → va_up (wcE ad cI cJ cQ M ts pu) 8 (.inl (cI, 5, .inl (upd (fun i => nI (ts i)) i (nI x)))) j = wcE ad cI cJ cQ M (nup ts i x) pu j := by
  intro j _
  have e : upd (fun i => nI (ts i)) i (nI x) = fun j => nI (nup ts i x j) := by
    funext j
    by_cases h : j = i
    · simp [upd, nup, h]
    · simp [upd, nup, h]
  rw [e]
  by_cases hj : j = 8
  · subst hj; simp [va_up, wcE]
  · simp [va_up, wcE, hj]
theorem wcS_pu {v : Int64} : ∀ j, j < 27 → va_up (wcE ad cI cJ cQ M ts pu) 10 (.inl (cJ, 36, .inr (.inl (vp_updL pu i v)))) j = wcE ad cI cJ cQ M ts (vp_updL pu i v) j := by
  intro j _
  by_cases hj : j = 10
  · subst hj; simp [va_up, wcE]
  · simp [va_up, wcE, hj]
theorem wcS_un {w : Nat} (hw : w < 8) : ∀ j, j < 27 → va_up (wcE ad cI cJ cQ M ts pu) (11 + w) (.inl (cI, 36, .inl (upd (fun j => nI (M (10 + 3 * w) j)) i (nI x)))) j = wcE ad cI cJ cQ (mup M (10 + 3 * w) i x) ts pu j := by
  intro j hj27
  rw [nI_mup]
  by_cases hj : j = 11 + w
  · subst hj
    rw [wcE_pump hw]
    simp [va_up]
  · have h1 : va_up (wcE ad cI cJ cQ M ts pu) (11 + w) (.inl (cI, 36, .inl (fun j => nI (mup M (10 + 3 * w) i x (10 + 3 * w) j)))) j = wcE ad cI cJ cQ M ts pu j := by simp [va_up, hj]
    rw [h1]
    have h2 : ∀ a b, a < 10 → mup M (10 + 3 * w) i x a b = M a b := fun a b h => mup_k (by omega)
    have h3 : ∀ a b, a ≠ 10 + 3 * w → mup M (10 + 3 * w) i x a b = M a b := fun a b h => mup_k h
    rcases Nat.lt_or_ge j 11 with q | q
    · rcases (show j = 0 ∨ j = 1 ∨ j = 2 ∨ j = 3 ∨ j = 4 ∨ j = 5 ∨ j = 6 ∨ j = 7 ∨ j = 8 ∨ j = 9 ∨ j = 10 by omega) with h | h | h | h | h | h | h | h | h | h | h <;> subst h <;> simp [wcE, h2]
    · rcases Nat.lt_or_ge j 19 with q2 | q2
      · obtain ⟨k, rfl⟩ : ∃ k, j = 11 + k := ⟨j - 11, by omega⟩
        rw [wcE_pump (by omega), wcE_pump (by omega)]
        simp only [h3 (10 + 3 * k) _ (by omega)]
      · rcases Nat.lt_or_ge j 24 with q3 | q3
        · obtain ⟨k, rfl⟩ : ∃ k, j = 19 + k := ⟨j - 19, by omega⟩
          rw [wcE_tab (by omega), wcE_tab (by omega)]
          simp only [h3 (11 + 3 * k) _ (by omega)]
        · obtain ⟨k, rfl⟩ : ∃ k, j = 24 + k := ⟨j - 24, by omega⟩
          rw [wcE_rat (by omega), wcE_rat (by omega)]
          simp only [h3 (12 + 3 * k) _ (by omega)]
theorem wcS_tb {w : Nat} (hw : w < 5) : ∀ j, j < 27 → va_up (wcE ad cI cJ cQ M ts pu) (19 + w) (.inl (cI, 12, .inl (upd (fun j => nI (M (11 + 3 * w) j)) i (nI x)))) j = wcE ad cI cJ cQ (mup M (11 + 3 * w) i x) ts pu j := by
  intro j hj27
  rw [nI_mup]
  by_cases hj : j = 19 + w
  · subst hj
    rw [wcE_tab hw]
    simp [va_up]
  · have h1 : va_up (wcE ad cI cJ cQ M ts pu) (19 + w) (.inl (cI, 12, .inl (fun j => nI (mup M (11 + 3 * w) i x (11 + 3 * w) j)))) j = wcE ad cI cJ cQ M ts pu j := by simp [va_up, hj]
    rw [h1]
    have h2 : ∀ a b, a < 10 → mup M (11 + 3 * w) i x a b = M a b := fun a b h => mup_k (by omega)
    have h3 : ∀ a b, a ≠ 11 + 3 * w → mup M (11 + 3 * w) i x a b = M a b := fun a b h => mup_k h
    rcases Nat.lt_or_ge j 11 with q | q
    · rcases (show j = 0 ∨ j = 1 ∨ j = 2 ∨ j = 3 ∨ j = 4 ∨ j = 5 ∨ j = 6 ∨ j = 7 ∨ j = 8 ∨ j = 9 ∨ j = 10 by omega) with h | h | h | h | h | h | h | h | h | h | h <;> subst h <;> simp [wcE, h2]
    · rcases Nat.lt_or_ge j 19 with q2 | q2
      · obtain ⟨k, rfl⟩ : ∃ k, j = 11 + k := ⟨j - 11, by omega⟩
        rw [wcE_pump (by omega), wcE_pump (by omega)]
        simp only [h3 (10 + 3 * k) _ (by omega)]
      · rcases Nat.lt_or_ge j 24 with q3 | q3
        · obtain ⟨k, rfl⟩ : ∃ k, j = 19 + k := ⟨j - 19, by omega⟩
          rw [wcE_tab (by omega), wcE_tab (by omega)]
          simp only [h3 (11 + 3 * k) _ (by omega)]
        · obtain ⟨k, rfl⟩ : ∃ k, j = 24 + k := ⟨j - 24, by omega⟩
          rw [wcE_rat (by omega), wcE_rat (by omega)]
          simp only [h3 (12 + 3 * k) _ (by omega)]
theorem wcS_ra {w : Nat} (hw : w < 3) : ∀ j, j < 27 → va_up (wcE ad cI cJ cQ M ts pu) (24 + w) (.inl (cI, 3, .inl (upd (fun j => nI (M (12 + 3 * w) j)) i (nI x)))) j = wcE ad cI cJ cQ (mup M (12 + 3 * w) i x) ts pu j := by
  intro j hj27
  rw [nI_mup]
  by_cases hj : j = 24 + w
  · subst hj
    rw [wcE_rat hw]
    simp [va_up]
  · have h1 : va_up (wcE ad cI cJ cQ M ts pu) (24 + w) (.inl (cI, 3, .inl (fun j => nI (mup M (12 + 3 * w) i x (12 + 3 * w) j)))) j = wcE ad cI cJ cQ M ts pu j := by simp [va_up, hj]
    rw [h1]
    have h2 : ∀ a b, a < 10 → mup M (12 + 3 * w) i x a b = M a b := fun a b h => mup_k (by omega)
    have h3 : ∀ a b, a ≠ 12 + 3 * w → mup M (12 + 3 * w) i x a b = M a b := fun a b h => mup_k h
    rcases Nat.lt_or_ge j 11 with q | q
    · rcases (show j = 0 ∨ j = 1 ∨ j = 2 ∨ j = 3 ∨ j = 4 ∨ j = 5 ∨ j = 6 ∨ j = 7 ∨ j = 8 ∨ j = 9 ∨ j = 10 by omega) with h | h | h | h | h | h | h | h | h | h | h <;> subst h <;> simp [wcE, h2]
    · rcases Nat.lt_or_ge j 19 with q2 | q2
      · obtain ⟨k, rfl⟩ : ∃ k, j = 11 + k := ⟨j - 11, by omega⟩
        rw [wcE_pump (by omega), wcE_pump (by omega)]
        simp only [h3 (10 + 3 * k) _ (by omega)]
      · rcases Nat.lt_or_ge j 24 with q3 | q3
        · obtain ⟨k, rfl⟩ : ∃ k, j = 19 + k := ⟨j - 19, by omega⟩
          rw [wcE_tab (by omega), wcE_tab (by omega)]
          simp only [h3 (11 + 3 * k) _ (by omega)]
        · obtain ⟨k, rfl⟩ : ∃ k, j = 24 + k := ⟨j - 24, by omega⟩
          rw [wcE_rat (by omega), wcE_rat (by omega)]
          simp only [h3 (12 + 3 * k) _ (by omega)]
/-! the reference's -/
end ST
