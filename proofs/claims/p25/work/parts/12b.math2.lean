theorem cn_s {M : Mdl} {f t u : Nat} (h : cn M f t u = true) : u ≤ M 3 f ∧ M 3 t + gt M f t u ≤ 20000 := by
  unfold cn at h
  have h1 := Bool.and_eq_true_iff.mp h
  have h2 := Bool.and_eq_true_iff.mp h1.1
  exact ⟨of_decide_eq_true h2.1, of_decide_eq_true h2.2⟩
theorem mtr_min (M : Mdl) (f t : Nat) : mtr M f t (min (M 3 f) 5000) = mtr M f t 5000 := by
  rcases Nat.lt_or_ge 5000 (M 3 f) with q | q
  · rw [show min (M 3 f) 5000 = 5000 by omega]
  · rw [show min (M 3 f) 5000 = M 3 f by omega]
    exact (mtr_cut (Nat.le_refl _) 5000 q).symm
theorem azs_mono {n : Nat} {ad : Nat → Nat} {a b q : Nat} (h : a ≤ b) (hq : azs n ad b q) : azs n ad a q := hq.imp id (fun z => Nat.le_trans h z)
/-- what a month of pumping lays on a month -/
def cpl (M : Mdl) (v w mo t : Nat) : Nat := if mo ≤ t ∧ t < mo + d12 (36 - mo) then M (10 + 3 * w) mo * tbn M (rch M w v) (t - mo) else 0
theorem cpl_eq (M : Mdl) (v w : Nat) {t : Nat} (ht : t < 36) : ssum (fun mo => cpl M v w mo t) 36 = ddw M v t w := by
  rw [← drw_eq]
  unfold drw
  refine (ssum_cut (f := fun mo => cpl M v w mo t) (a := t + 1) (by omega) (fun k h1 h2 => by show cpl M v w k t = 0; unfold cpl; exact if_neg (by omega))).trans ?_
  refine ssum_congr (fun k hk => ?_)
  have hs := d12_s (36 - k)
  show cpl M v w k t = _
  unfold cpl
  by_cases q : t - k < 12
  · rw [if_pos (by omega), ans_tb q]
  · rw [if_neg (by omega), ans_0 (by omega), Nat.mul_zero]
def pls (M : Mdl) (v t w mo : Nat) : Nat := ssum (fun w => ssum (fun mo => cpl M v w mo t) 36) w + ssum (fun mo => cpl M v w mo t) mo
theorem pls_end (M : Mdl) (v : Nat) {t : Nat} (ht : t < 36) : pls M v t (M 0 0) 0 = dd M v t := by
  unfold pls
  rw [ssum_0, Nat.add_zero]
  exact ssum_congr (fun w _ => cpl_eq M v w ht)
theorem pls_s (M : Mdl) (v t w : Nat) : pls M v t w 36 = pls M v t (w + 1) 0 := by
  show ssum (fun w => ssum (fun mo => cpl M v w mo t) 36) w + ssum (fun mo => cpl M v w mo t) 36 = ssum (fun w => ssum (fun mo => cpl M v w mo t) 36) (w + 1) + 0
  rw [Nat.add_zero, ssum_s (n := w)]
theorem pls_k (M : Mdl) (v t w mo : Nat) : pls M v t w mo + cpl M v w mo t = pls M v t w (mo + 1) := by
  unfold pls
  rw [ssum_s, Nat.add_assoc]
theorem lay_k {pv pu : Nat → Int64} {mo d x : Nat} {f : Nat → Nat} (h : ∀ t, pv t = pu t + lN (if mo ≤ t ∧ t < mo + d then x * f (t - mo) else 0)) : ∀ t, vp_updL pv (mo + d) (pv (mo + d) + lN (x * f d)) t = pu t + lN (if mo ≤ t ∧ t < mo + (d + 1) then x * f (t - mo) else 0) := by
  intro t
  by_cases q : t = mo + d
  · subst q
    rw [pk_uLs, h, if_neg (by omega), if_pos (by omega), show mo + d - mo = d by omega]
    rw [show lN 0 = 0 from rfl, Int64.add_zero]
  · rw [pk_uLn q, h]
    congr 2
    by_cases q2 : mo ≤ t ∧ t < mo + d
    · rw [if_pos q2, if_pos (by omega)]
    · rw [if_neg q2, if_neg (by omega)]
theorem rsn_s (mo n : Nat) (h : mo < 36) : mo + rsn mo n = min (mo + n) 36 ∧ rsn mo n ≤ 36 := by
  unfold rsn
  split <;> omega
