/-! which exception: its place in the throws clause, 0 for none -/
def cd1 (a : Bool) : Nat := if a = true then 0 else 1
def cd2 (a b : Bool) : Nat := if a = true then (if b = true then 0 else 2) else 1
def cd3 (a b c : Bool) : Nat := if a = true then (if b = true then (if c = true then 0 else 3) else 2) else 1
theorem addsub_nI {a x b : Nat} (h : b ≤ a + x) : nI a + (nI x - nI b) = nI (a + x - b) := by
  rw [← pk_sub h, ← nI_add, Int32.sub_eq_add_neg, Int32.sub_eq_add_neg, Int32.add_assoc]
theorem clN_nI {j : Nat} (h : j < 2 ^ 31) : clN (nI j) = j := nI_clamp h
/-- what the calls make of the state -/
def nx_well (M : Mdl) (p0 p1 p2 : Nat) : Mdl := mup (mup (mup (mup M 1 (M 0 0) p0) 2 (M 0 0) p1) 3 (M 0 0) p2) 0 0 (M 0 0 + 1)
def nx_watch (M : Mdl) (p0 p1 : Nat) : Mdl := mup (mup (mup M 6 (M 5 0) p0) 7 (M 5 0) p1) 5 0 (M 5 0 + 1)
def nx_response (M : Mdl) (r d x : Nat) : Mdl := mup M (11 + 3 * r) d x
def nx_pump (M : Mdl) (w m x : Nat) : Mdl := mup M (10 + 3 * w) m x
/-- the months of a rest -/
def rsn (m n : Nat) : Nat := if m + n ≤ 36 then n else 36 - m
def nx_rest (M : Mdl) (w m n : Nat) : Mdl := rst M w m (rsn m n)
def nx_ratio (M : Mdl) (f t x : Nat) : Mdl := mup M (12 + 3 * f) t x
def nx_trade (M : Mdl) (f t u : Nat) : Mdl := mup (mup M 3 f (M 3 f - u)) 3 t (M 3 t + gt M f t u)
def hTs (M : Mdl) (ts : Nat → Nat) : Prop := ∀ r, r < 5 → ts r = ssum (fun d => M (11 + 3 * r) d) 12
theorem ssum_up {f : Nat → Nat} {d x : Nat} : ∀ {n : Nat}, d < n → ssum (fun k => if k = d then x else f k) n + f d = ssum f n + x
  | 0, h => by omega
  | n + 1, h => by
    rw [ssum_s, ssum_s]
    by_cases e : n = d
    · subst e
      have h1 : ssum (fun k => if k = n then x else f k) n = ssum f n := ssum_congr (fun k hk => if_neg (by omega))
      rw [h1, if_pos rfl]
      omega
    · have h1 := ssum_up (f := f) (d := d) (x := x) (n := n) (by omega)
      rw [if_neg e]
      omega
theorem hTs_response {M : Mdl} {ts : Nat → Nat} {r d x : Nat} (h : hTs M ts) (hr : r < 5) (hd : d < 12) : M (11 + 3 * r) d ≤ ts r + x ∧ hTs (nx_response M r d x) (nup ts r (ts r + x - M (11 + 3 * r) d)) := by
  have e : ∀ k, nx_response M r d x (11 + 3 * r) k = if k = d then x else M (11 + 3 * r) k := fun k => by
    by_cases q : k = d
    · subst q; simp [nx_response, mup]
    · simp [nx_response, mup, q]
  have h1 : ssum (fun k => if k = d then x else M (11 + 3 * r) k) 12 + M (11 + 3 * r) d = ts r + x := by
    rw [h r hr]
    exact ssum_up hd
  refine ⟨by omega, fun k hk => ?_⟩
  by_cases q : k = r
  · subst q
    show (if k = k then _ else _) = _
    rw [if_pos rfl, ssum_congr (fun j _ => e j)]
    omega
  · show (if k = r then _ else ts k) = _
    rw [if_neg q, h k hk]
    exact ssum_congr (fun j _ => (mup_k (by omega)).symm)
theorem hTs_k {M : Mdl} {ts : Nat → Nat} {k i v : Nat} (h : hTs M ts) (hk : ∀ r, r < 5 → 11 + 3 * r ≠ k) : hTs (mup M k i v) ts := fun r hr => by
  rw [h r hr]
  exact ssum_congr (fun j _ => (mup_k (hk r hr)).symm)
theorem Inv.up {M : Mdl} (h : Inv M) {k i v : Nat} (h0 : k = 0 → i = 0 → v ≤ 8) (h5 : k = 5 → i = 0 → v ≤ 4) (h1 : k = 1 → v ≤ 99) (h2 : k = 2 → v ≤ 2) (h3 : k = 3 → v ≤ 20000) (h6 : k = 6 → v ≤ 99) (h7 : k = 7 → v ≤ 10000) (h8 : 10 ≤ k → k % 3 = 1 → v ≤ 1000) (h9 : 10 ≤ k → k % 3 = 2 → v ≤ 1000) (h10 : 10 ≤ k → k % 3 = 0 → v ≤ 200) : Inv (mup M k i v) := by
  have key : ∀ (a b c : Nat), M a b ≤ c → (a = k → b = i → v ≤ c) → mup M k i v a b ≤ c := fun a b c q1 q2 => by
    by_cases q : a = k ∧ b = i
    · obtain ⟨rfl, rfl⟩ := q
      rw [mup_s]
      exact q2 rfl rfl
    · have e : mup M k i v a b = M a b := if_neg q
      rw [e]
      exact q1
  refine ⟨key _ _ _ h.nw (fun a b => h0 a.symm b.symm), key _ _ _ h.nv (fun a b => h5 a.symm b.symm), fun j => key _ _ _ (h.pl j) (fun a _ => h1 a.symm), fun j => key _ _ _ (h.zo j) (fun a _ => h2 a.symm), fun j => key _ _ _ (h.li j) (fun a _ => h3 a.symm), fun w hw j => key _ _ _ (h.un w hw j) (fun a _ => h8 (by omega) (by omega)), fun j => key _ _ _ (h.sp j) (fun a _ => h6 a.symm), fun j => key _ _ _ (h.lm j) (fun a _ => h7 a.symm), fun w hw j => key _ _ _ (h.tb w hw j) (fun a _ => h9 (by omega) (by omega)), fun w hw j => key _ _ _ (h.ra w hw j) (fun a _ => h10 (by omega) (by omega))⟩
