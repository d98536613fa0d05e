/-! what the years' check counts -/
theorem zer_i {pv : Nat → Int32} {k : Nat} (h : ∀ t, t < k → pv t = nI 0) : ∀ t, t < k + 1 → upd pv k (nI 0) t = nI 0 := by
  intro t ht
  by_cases q : t = k
  · subst q
    exact pk_us
  · rw [pk_un q]
    exact h t (by omega)
theorem ysm_tk0 (M : Mdl) (w : Nat) {y : Nat} (hy : y < 3) : ysm (fun t => 0 + ssum (fun m => tkc M w m t) (12 * y)) y = tk M w y (y * 12) := by
  have e : (fun t => 0 + ssum (fun m => tkc M w m t) (12 * y)) = fun t => ssum (fun m => tkc M w m t) (y * 12) := funext fun t => by rw [Nat.zero_add, Nat.mul_comm]
  rw [e]
  exact ysm_tk M w _ hy
def bys (M : Mdl) (y v : Nat) : Nat := ssum (fun w => yr M w y - M 3 w) (min v (M 0 0))
theorem bys_0 (M : Mdl) (y : Nat) : bys M y 0 = 0 := by
  unfold bys
  rw [Nat.zero_min]
  rfl
theorem bys_s {M : Mdl} {y v : Nat} (h : v < M 0 0) : bys M y v + (yr M v y - M 3 v) = bys M y (v + 1) := by
  unfold bys
  rw [Nat.min_eq_left (by omega), Nat.min_eq_left (by omega)]
  rfl
theorem bys_k {M : Mdl} {y v : Nat} (h : M 0 0 ≤ v) : bys M y v = bys M y (v + 1) := by
  unfold bys
  rw [Nat.min_eq_right (by omega), Nat.min_eq_right (by omega)]
theorem bys_e (M : Mdl) (y : Nat) : bys M y (M 0 0 + 1) = byd M y := by
  unfold bys
  rw [Nat.min_eq_right (by omega)]
  rfl
theorem byd_le {M : Mdl} (hI : Inv M) (y : Nat) : byd M y ≤ 96000 := by
  unfold byd
  have h := ssum_le (f := fun w => yr M w y - M 3 w) (c := 12000) (n := M 0 0) (fun k hk => by
    have := yr_le hI (w := k) (by have := hI.nw; omega) y
    show yr M k y - M 3 k ≤ 12000
    omega)
  have h2 : M 0 0 * 12000 ≤ 8 * 12000 := Nat.mul_le_mul_right _ hI.nw
  omega
theorem tks_le {M : Mdl} (hI : Inv M) {w : Nat} (hw : w < 8) (y m : Nat) : tks M w y m ≤ 2000 := by
  have h := hI.un w hw m
  have h1 : ∀ {p : Prop} [Decidable p] (a : Nat), a ≤ 1000 → (if p then a else 0) ≤ 1000 := fun a ha => by split <;> omega
  have h2 := h1 (p := (m + M 1 w / 5) / 12 = y) (M (10 + 3 * w) m - M (10 + 3 * w) m / 2) (by omega)
  have h3 := h1 (p := (m + M 1 w / 5 + 1) / 12 = y) (M (10 + 3 * w) m / 2) (by omega)
  unfold tks
  omega
theorem tk_le {M : Mdl} (hI : Inv M) {w : Nat} (hw : w < 8) (y E : Nat) : tk M w y E ≤ E * 2000 := ssum_le (fun m _ => tks_le hI hw y m)
theorem tka_le {M : Mdl} (hI : Inv M) (y : Nat) : tka M y ≤ 576000 := by
  unfold tka
  have h := ssum_le (f := fun w => tk M w y 36) (c := 72000) (n := M 0 0) (fun k hk => tk_le hI (by have := hI.nw; omega) y 36)
  have h2 : M 0 0 * 72000 ≤ 8 * 72000 := Nat.mul_le_mul_right _ hI.nw
  omega
