/-! what the law's own methods count, in the numbers of the class -/
def by5 (w : Nat) : Nat := if w < 4 then w else 4
theorem by5_lt (w : Nat) : by5 w < 5 := by
  unfold by5
  split <;> omega
theorem by5_w {w : Nat} (h : w < 5) : by5 w = w := by
  unfold by5
  split <;> omega
theorem by5_s (w : Nat) : (w < 4 ∧ by5 w = w) ∨ (4 ≤ w ∧ by5 w = 4) := by
  unfold by5
  split <;> omega
/-- how many delays a reach has in a month -/
def rl5 (r m : Nat) : Nat := if r < 5 then d12 (36 - m) else 0
theorem rl5_s (r m : Nat) : (r < 5 ∧ rl5 r m = d12 (36 - m)) ∨ (5 ≤ r ∧ rl5 r m = 0) := by
  unfold rl5
  split <;> omega
def al5 (r : Nat) : Nat := if r < 5 then 12 else 0
theorem al5_s (r : Nat) : (r < 5 ∧ al5 r = 12) ∨ (5 ≤ r ∧ al5 r = 0) := by
  unfold al5
  split <;> omega
theorem cpl_rl (M : Mdl) (v w mo t : Nat) : (if mo ≤ t ∧ t < mo + rl5 (rch M w v) mo then M (10 + 3 * w) mo * M (11 + 3 * rch M w v) (t - mo) else 0) = cpl M v w mo t := by
  unfold cpl tbn rl5
  by_cases q : rch M w v < 5
  · simp only [if_pos q]
  · simp only [if_neg q, Nat.mul_zero, ite_self]
    exact if_neg (by omega)
theorem low_k {M : Mdl} {v w m : Nat} {pv pu qv : Nat → Int64} (h : ∀ t, pu t = qv t + lN (ssum (fun mo => cpl M v w mo t) m)) (h2 : ∀ t, pv t = pu t + lN (if m ≤ t ∧ t < m + rl5 (rch M w v) m then M (10 + 3 * w) m * M (11 + 3 * rch M w v) (t - m) else 0)) : ∀ t, pv t = qv t + lN (ssum (fun mo => cpl M v w mo t) (m + 1)) := by
  intro t
  rw [h2 t, h t, cpl_rl, Int64.add_assoc, lN_add, ssum_s]
theorem low_w {M : Mdl} {v w : Nat} {pv qv : Nat → Int64} (h : ∀ t, t < 36 → qv t = lN (ssum (fun w => ssum (fun mo => cpl M v w mo t) 36) w)) (h2 : ∀ t, pv t = qv t + lN (ssum (fun mo => cpl M v w mo t) 36)) : ∀ t, t < 36 → pv t = lN (ssum (fun w => ssum (fun mo => cpl M v w mo t) 36) (w + 1)) := by
  intro t ht
  rw [h2 t, h t ht, lN_add]
  exact congrArg lN (ssum_s (f := fun w => ssum (fun mo => cpl M v w mo t) 36) (n := w)).symm
theorem low_e {M : Mdl} {v : Nat} {qv : Nat → Int64} (h : ∀ t, t < 36 → qv t = lN (ssum (fun w => ssum (fun mo => cpl M v w mo t) 36) (M 0 0))) : ∀ t, t < 36 → qv t = lN (dd M v t) := by
  intro t ht
  rw [h t ht]
  exact congrArg lN (ssum_congr (fun w _ => cpl_eq M v w ht))
/-- what a unit of a month takes -/
def tku (M : Mdl) (w m u : Nat) : Nat := M (10 + 3 * w) m / 2 + (if u = 0 then M (10 + 3 * w) m % 2 else 0)
/-- what a month of pumping takes in a month -/
def tkc (M : Mdl) (w m t : Nat) : Nat := ssum (fun u => if m + M 1 w / 5 + u = t then tku M w m u else 0) 2
theorem tkc_e (M : Mdl) (w m t : Nat) : tkc M w m t = (if m + M 1 w / 5 = t then M (10 + 3 * w) m - M (10 + 3 * w) m / 2 else 0) + (if m + M 1 w / 5 + 1 = t then M (10 + 3 * w) m / 2 else 0) := by
  unfold tkc
  rw [ssum_s, ssum_s, ssum_0, Nat.zero_add]
  show (if m + M 1 w / 5 + 0 = t then tku M w m 0 else 0) + (if m + M 1 w / 5 + 1 = t then tku M w m 1 else 0) = _
  unfold tku
  rw [if_pos rfl, if_neg (show ¬ (1 : Nat) = 0 by omega)]
  simp only [Nat.add_zero]
  rw [show M (10 + 3 * w) m / 2 + M (10 + 3 * w) m % 2 = M (10 + 3 * w) m - M (10 + 3 * w) m / 2 by omega]
theorem tku_le {M : Mdl} (hI : Inv M) {w : Nat} (hw : w < 8) (m u : Nat) : tku M w m u ≤ 1000 := by
  have h := hI.un w hw m
  unfold tku
  split <;> omega
theorem tkc_le {M : Mdl} (hI : Inv M) {w : Nat} (hw : w < 8) (m t : Nat) : tkc M w m t ≤ 2000 := by
  have h := ssum_le (f := fun u => if m + M 1 w / 5 + u = t then tku M w m u else 0) (c := 1000) (n := 2) (fun u _ => by
    have := tku_le hI hw m u
    show (if _ then _ else _) ≤ _
    split <;> omega)
  exact h
theorem tk_st {gn : Nat → Int32} {g : Nat → Nat} {a x : Nat} (h : ∀ t, t < 36 → gn t = nI (g t)) : ∀ t, t < 36 → upd gn a (nI (g a + x)) t = nI (g t + (if a = t then x else 0)) := by
  intro t ht
  by_cases q : t = a
  · subst q
    rw [pk_us, if_pos rfl]
  · rw [pk_un q, h t ht, if_neg (fun z => q z.symm), Nat.add_zero]
theorem tk_sn {gn : Nat → Int32} {g : Nat → Nat} {a x : Nat} (h : ∀ t, t < 36 → gn t = nI (g t)) (ha : 36 ≤ a) : ∀ t, t < 36 → gn t = nI (g t + (if a = t then x else 0)) := by
  intro t ht
  rw [h t ht, if_neg (by omega), Nat.add_zero]
/-- what a row of months has in a year -/
def ysm (g : Nat → Nat) (y : Nat) : Nat := ssum (fun m => if m / 12 = y then g m else 0) 36
theorem ssum_add {f g : Nat → Nat} : ∀ {n : Nat}, ssum (fun k => f k + g k) n = ssum f n + ssum g n
  | 0 => rfl
  | n + 1 => by
    rw [ssum_s, ssum_s, ssum_s, ssum_add (n := n)]
    omega
theorem ysm_0 (y : Nat) : ysm (fun _ => 0) y = 0 := ssum_0s (fun k _ => by show (if _ then 0 else 0) = 0; rw [ite_self])
theorem ysm_add {f g : Nat → Nat} (y : Nat) : ysm (fun t => f t + g t) y = ysm f y + ysm g y := by
  unfold ysm
  rw [← ssum_add]
  refine ssum_congr (fun k _ => ?_)
  show (if k / 12 = y then f k + g k else 0) = (if k / 12 = y then f k else 0) + (if k / 12 = y then g k else 0)
  split <;> omega
theorem ysm_sum {f : Nat → Nat → Nat} (y : Nat) : ∀ n : Nat, ysm (fun t => ssum (fun k => f k t) n) y = ssum (fun k => ysm (f k) y) n
  | 0 => ysm_0 y
  | n + 1 => by
    rw [ssum_s, ← ysm_sum y n]
    exact ysm_add (f := fun t => ssum (fun k => f k t) n) (g := f n) y
theorem ysm_1 {a x y : Nat} (hy : y < 3) : ysm (fun t => if a = t then x else 0) y = if a / 12 = y then x else 0 := by
  unfold ysm
  by_cases q : a < 36
  · have e : ∀ n, a < n → ssum (fun m => if m / 12 = y then (if a = m then x else 0) else 0) n = if a / 12 = y then x else 0 := by
      intro n
      induction n with
      | zero => intro h; omega
      | succ n ih =>
        intro h
        rw [ssum_s]
        by_cases q2 : a = n
        · subst q2
          rw [ssum_0s (fun k hk => by rw [if_neg (show ¬ a = k by omega), ite_self]), if_pos rfl, Nat.zero_add]
        · rw [ih (by omega), if_neg q2, ite_self, Nat.add_zero]
    exact e 36 q
  · rw [if_neg (by omega)]
    exact ssum_0s (fun k hk => by
      show (if _ then (if _ then _ else _) else _) = _
      rw [if_neg (show ¬ a = k by omega), ite_self])
theorem ysm_tkc (M : Mdl) (w m : Nat) {y : Nat} (hy : y < 3) : ysm (tkc M w m) y = tks M w y m := by
  have e : tkc M w m = fun t => (if m + M 1 w / 5 = t then M (10 + 3 * w) m - M (10 + 3 * w) m / 2 else 0) + (if m + M 1 w / 5 + 1 = t then M (10 + 3 * w) m / 2 else 0) := funext (fun t => tkc_e M w m t)
  rw [e, ysm_add, ysm_1 hy, ysm_1 hy]
  rfl
theorem ysm_tk (M : Mdl) (w E : Nat) {y : Nat} (hy : y < 3) : ysm (fun t => ssum (fun m => tkc M w m t) E) y = tk M w y E := by
  rw [ysm_sum]
  exact ssum_congr (fun m _ => ysm_tkc M w m hy)
theorem ysm_tka (M : Mdl) {y : Nat} (hy : y < 3) : ysm (fun t => ssum (fun w => ssum (fun m => tkc M w m t) 36) (M 0 0)) y = tka M y := by
  rw [ysm_sum (f := fun w t => ssum (fun m => tkc M w m t) 36)]
  exact ssum_congr (fun w _ => ysm_tk M w 36 hy)
theorem ysm_yr (M : Mdl) (w : Nat) {y : Nat} (hy : y < 3) : ysm (M (10 + 3 * w)) y = yr M w y := by
  unfold ysm yr
  have key : ∀ (f : Nat → Nat), ssum (fun m => if m / 12 = y then f m else 0) 36 = ssum (fun k => f (y * 12 + k)) 12 := by
    intro f
    rcases (show y = 0 ∨ y = 1 ∨ y = 2 by omega) with rfl | rfl | rfl <;> simp [ssum]
  exact key _
theorem ysm_le {g : Nat → Nat} {y c : Nat} (h : ∀ t, t < 36 → g t ≤ c) : ysm g y ≤ 36 * c :=
  ssum_le (fun k hk => by
    have := h k hk
    show (if _ then _ else _) ≤ _
    split <;> omega)
/-- trades -/
theorem mup_eta {M : Mdl} {k i : Nat} : mup M k i (M k i) = M := by
  funext a b
  unfold mup
  by_cases h : a = k ∧ b = i
  · rw [if_pos h, h.1, h.2]
  · rw [if_neg h]
theorem tr_back {M : Mdl} {f t a b : Nat} (h : f ≠ t) : mup (mup (mup (mup M 3 f a) 3 t b) 3 f (M 3 f)) 3 t (M 3 t) = M := by
  funext x y
  unfold mup
  by_cases h1 : x = 3 ∧ y = t
  · rw [if_pos h1, h1.1, h1.2]
  · rw [if_neg h1]
    by_cases h2 : x = 3 ∧ y = f
    · rw [if_pos h2, h2.1, h2.2]
    · rw [if_neg h2, if_neg h1, if_neg h2]
theorem als_up {M : Mdl} {i x w v : Nat} : als (mup M 3 i x) w v = als M w v := by
  unfold als
  refine ssum_congr (fun d _ => ?_)
  have e1 : rch (mup M 3 i x) w v = rch M w v := by
    unfold rch
    rw [mup_k (by omega), mup_k (by omega)]
  unfold ans
  rw [e1, mup_k (by omega)]
theorem ssum_set {g : Nat → Nat} {L : Nat → Nat} {i x : Nat} : ∀ {n : Nat}, i < n → ssum (fun w => (if w = i then x else L w) * g w) n + L i * g i = ssum (fun w => L w * g w) n + x * g i
  | 0, h => by omega
  | n + 1, h => by
    rw [ssum_s, ssum_s]
    by_cases e : n = i
    · subst e
      have h1 : ssum (fun w => (if w = n then x else L w) * g w) n = ssum (fun w => L w * g w) n := ssum_congr (fun k hk => by rw [if_neg (by omega)])
      rw [h1, if_pos rfl]
      omega
    · have h1 := ssum_set (g := g) (L := L) (i := i) (x := x) (n := n) (by omega)
      rw [if_neg e]
      omega
theorem bud_up {M : Mdl} {i x v : Nat} (hi : i < M 0 0) : bud (mup M 3 i x) v + M 3 i * als M i v = bud M v + x * als M i v := by
  have h := ssum_set (g := fun w => als M w v) (L := M 3) (i := i) (x := x) (n := M 0 0) hi
  have e : bud (mup M 3 i x) v = ssum (fun w => (if w = i then x else M 3 w) * als M w v) (M 0 0) := by
    unfold bud
    rw [show mup M 3 i x 0 0 = M 0 0 from mup_k (by omega)]
    refine ssum_congr (fun w _ => ?_)
    rw [als_up]
    show (if 3 = 3 ∧ w = i then x else M 3 w) * _ = _
    by_cases q : w = i
    · rw [if_pos ⟨rfl, q⟩, if_pos q]
    · rw [if_neg (fun z => q z.2), if_neg q]
  rw [e]
  exact h
theorem bud_trade {M : Mdl} {f t a x v : Nat} (hf : f < M 0 0) (ht : t < M 0 0) (hne : f ≠ t) (ha : a ≤ M 3 f) : bud (mup (mup M 3 f (M 3 f - a)) 3 t (M 3 t + x)) v + a * als M f v = bud M v + x * als M t v := by
  have h1 := bud_up (M := M) (i := f) (x := M 3 f - a) (v := v) hf
  have h2 := bud_up (M := mup M 3 f (M 3 f - a)) (i := t) (x := M 3 t + x) (v := v) (by rw [mup_k (by omega)]; exact ht)
  rw [als_up, mup_i (fun z => hne z.symm)] at h2
  have e1 : (M 3 f - a) * als M f v + a * als M f v = M 3 f * als M f v := by
    rw [← Nat.add_mul, Nat.sub_add_cancel ha]
  have e2 : (M 3 t + x) * als M t v = M 3 t * als M t v + x * als M t v := Nat.add_mul _ _ _
  omega
theorem bud_le {M : Mdl} (hI : Inv M) (v : Nat) : bud M v ≤ 1920000000 := by
  unfold bud
  have h := ssum_le (f := fun w => M 3 w * als M w v) (c := 240000000) (n := M 0 0) (fun k _ => Nat.mul_le_mul (hI.li k) (als_le hI k v))
  have h2 : M 0 0 * 240000000 ≤ 8 * 240000000 := Nat.mul_le_mul_right _ hI.nw
  omega
