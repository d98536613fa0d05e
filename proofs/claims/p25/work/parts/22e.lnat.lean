/-! the class's own tests, of numbers that are known -/
theorem rgB_n {a lo hi : Nat} (ha : a < 2 ^ 31) (hl : lo < 2 ^ 31) (hh : hi < 2 ^ 31) : rgB (nI a) (nI lo) (nI hi) = decide (lo ≤ a ∧ a ≤ hi) := by
  unfold rgB
  exact decide_eq_decide.mpr (and_congr (nI_leI hl ha) (nI_leI ha hh))
theorem ixB_n {a n : Nat} (ha : a < 2 ^ 31) (hn : n < 2 ^ 31) : ixB (nI a) n = decide (a < n) := by
  unfold ixB
  exact decide_eq_decide.mpr ⟨fun h => (nI_ltI ha hn).mp h.2, fun h => ⟨nI_pos' ha, (nI_ltI ha hn).mpr h⟩⟩
theorem ixB_m {n : Nat} : ixB (-1) n = false := decide_eq_false (fun h => absurd h.1 (by decide))
theorem rgB_m {h : Int32} : rgB (-1) (nI 0) h = false := decide_eq_false (fun z => absurd z.1 (by decide))
theorem rg_t {a lo hi : Nat} (h1 : lo ≤ a) (h2 : a ≤ hi) (hh : hi < 2 ^ 31) : rgB (nI a) (nI lo) (nI hi) = true := by
  rw [rgB_n (by omega) (by omega) hh]
  exact decide_eq_true ⟨h1, h2⟩
theorem rg_f {a lo hi : Nat} (h : a < lo ∨ hi < a) (ha : a < 2 ^ 31) (hl : lo < 2 ^ 31) (hh : hi < 2 ^ 31) : rgB (nI a) (nI lo) (nI hi) = false := by
  rw [rgB_n ha hl hh]
  exact decide_eq_false (fun z => by omega)
theorem ix_t {a n : Nat} (h : a < n) (hn : n < 2 ^ 31) : ixB (nI a) n = true := ixB_nI hn h
theorem ix_f {a n : Nat} (h : n ≤ a) (ha : a < 2 ^ 31) : ixB (nI a) n = false := by
  rw [ixB_n ha (by omega)]
  exact decide_eq_false (by omega)
theorem ix2_t {a b m n : Nat} (h1 : a < m) (h2 : b < n) (hm : m < 2 ^ 31) (hn : n < 2 ^ 31) : (ixB (nI a) m && ixB (nI b) n) = true := by
  rw [ix_t h1 hm, ix_t h2 hn]
  rfl
theorem ix2_f {a b m n : Nat} (h : m ≤ a ∨ n ≤ b) (ha : a < 2 ^ 31) (hb : b < 2 ^ 31) (hm : m < 2 ^ 31) (hn : n < 2 ^ 31) : (ixB (nI a) m && ixB (nI b) n) = false := by
  rw [ixB_n ha hm, ixB_n hb hn]
  rcases h with h | h
  · rw [decide_eq_false (by omega : ¬ a < m), Bool.false_and]
  · rw [decide_eq_false (by omega : ¬ b < n), Bool.and_false]
theorem ix2_m {b m n : Nat} : (ixB (-1) m && ixB (nI b) n) = false := by rw [ixB_m]; rfl
theorem ix2_n {a : Int32} {m n : Nat} : (ixB a m && ixB (-1) n) = false := by rw [ixB_m, Bool.and_false]
theorem rg3_t {a b c : Nat} (h1 : a ≤ 99) (h2 : b ≤ 2) (h3 : c ≤ 5000) : (rgB (nI a) (nI 0) (nI 99) && rgB (nI b) (nI 0) (nI 2) && rgB (nI c) (nI 0) (nI 5000)) = true := by
  rw [rg_t (by omega) h1 (by omega), rg_t (by omega) h2 (by omega), rg_t (by omega) h3 (by omega)]
  rfl
theorem rg3_f {a b c : Nat} (h : 99 < a ∨ 2 < b ∨ 5000 < c) (ha : a < 2 ^ 31) (hb : b < 2 ^ 31) (hc : c < 2 ^ 31) : (rgB (nI a) (nI 0) (nI 99) && rgB (nI b) (nI 0) (nI 2) && rgB (nI c) (nI 0) (nI 5000)) = false := by
  rcases h with h | h | h
  · rw [rg_f (Or.inr h) ha (by omega) (by omega)]
    rfl
  · rw [rg_f (a := b) (Or.inr h) hb (by omega) (by omega), Bool.and_false]
    rfl
  · rw [rg_f (a := c) (Or.inr h) hc (by omega) (by omega), Bool.and_false]
theorem rg2_t {a b : Nat} (h1 : a ≤ 99) (h2 : b ≤ 10000) : (rgB (nI a) (nI 0) (nI 99) && rgB (nI b) (nI 0) (nI 10000)) = true := by
  rw [rg_t (by omega) h1 (by omega), rg_t (by omega) h2 (by omega)]
  rfl
theorem rg2_f {a b : Nat} (h : 10000 < b) (hb : b < 2 ^ 31) : (rgB (nI a) (nI 0) (nI 99) && rgB (nI b) (nI 0) (nI 10000)) = false := by
  rw [rg_f (a := b) (Or.inr h) hb (by omega) (by omega), Bool.and_false]
theorem rg2_m {b : Int32} : (rgB (-1) (nI 0) (nI 99) && rgB b (nI 0) (nI 10000)) = false := by rw [rgB_m]; rfl
theorem cd1_0 {a : Bool} (h : a = true) : cd1 a = 0 := by subst h; rfl
theorem cd1_1 {a : Bool} (h : a = false) : cd1 a = 1 := by subst h; rfl
theorem cd2_0 {a b : Bool} (h : a = true) (h2 : b = true) : cd2 a b = 0 := by subst h; subst h2; rfl
theorem cd2_1 {a b : Bool} (h : a = false) : cd2 a b = 1 := by subst h; rfl
theorem cd2_2 {a b : Bool} (h : a = true) (h2 : b = false) : cd2 a b = 2 := by subst h; subst h2; rfl
theorem cd3_0 {a b c : Bool} (h : a = true) (h2 : b = true) (h3 : c = true) : cd3 a b c = 0 := by subst h; subst h2; subst h3; rfl
theorem cd3_1 {a b c : Bool} (h : a = false) : cd3 a b c = 1 := by subst h; rfl
theorem cd3_2 {a b c : Bool} (h : a = true) (h2 : b = false) : cd3 a b c = 2 := by subst h; subst h2; rfl
theorem cd3_3 {a b c : Bool} (h : a = true) (h2 : b = true) (h3 : c = false) : cd3 a b c = 3 := by subst h; subst h2; subst h3; rfl
/-! what the law's numbers keep to, through each call -/
theorem inl_up {K : Mdl} {k i v : Nat} (h : Inl K) (h0 : k = 0 → i = 0 → v ≤ 5) (h5 : k = 5 → i = 0 → v ≤ 3) (h1 : k = 1 → v ≤ 99) (h2 : k = 2 → v ≤ 2) (h3 : k = 3 → v ≤ 20000) (h6 : k = 6 → v ≤ 99) (h7 : k = 7 → v ≤ 10000) (h8 : 10 ≤ k → k % 3 = 1 → v ≤ 1000) (h9 : 10 ≤ k → k % 3 = 2 → v ≤ 1000) (h10 : 10 ≤ k → k % 3 = 0 → v ≤ 200) : Inl (mup K k i v) := by
  have b1 := h.nw
  have b2 := h.nv
  refine ⟨Inv.up h.inv (fun a b => by have := h0 a b; omega) (fun a b => by have := h5 a b; omega) h1 h2 h3 h6 h7 h8 h9 h10, ?_, ?_⟩
  · show (if 0 = k ∧ 0 = i then v else K 0 0) ≤ 5
    split
    · next q => exact h0 q.1.symm q.2.symm
    · exact b1
  · show (if 5 = k ∧ 0 = i then v else K 5 0) ≤ 3
    split
    · next q => exact h5 q.1.symm q.2.symm
    · exact b2
theorem inl_well {K : Mdl} {a b c : Nat} (h : Inl K) (ha : a ≤ 99) (hb : b ≤ 2) (hc : c ≤ 5000) (h5 : K 0 0 < 5) : Inl (nx_well K a b c) := by
  unfold nx_well
  exact inl_up (inl_up (inl_up (inl_up h (by omega) (by omega) (by omega) (by omega) (by omega) (by omega) (by omega) (by omega) (by omega) (by omega)) (by omega) (by omega) (by omega) (by omega) (by omega) (by omega) (by omega) (by omega) (by omega) (by omega)) (by omega) (by omega) (by omega) (by omega) (by omega) (by omega) (by omega) (by omega) (by omega) (by omega)) (by omega) (by omega) (by omega) (by omega) (by omega) (by omega) (by omega) (by omega) (by omega) (by omega)
theorem inl_watch {K : Mdl} {a b : Nat} (h : Inl K) (ha : a ≤ 99) (hb : b ≤ 10000) (h3 : K 5 0 < 3) : Inl (nx_watch K a b) := by
  unfold nx_watch
  exact inl_up (inl_up (inl_up h (by omega) (by omega) (by omega) (by omega) (by omega) (by omega) (by omega) (by omega) (by omega) (by omega)) (by omega) (by omega) (by omega) (by omega) (by omega) (by omega) (by omega) (by omega) (by omega) (by omega)) (by omega) (by omega) (by omega) (by omega) (by omega) (by omega) (by omega) (by omega) (by omega) (by omega)
theorem inl_response {K : Mdl} {a b c : Nat} (h : Inl K) (hc : c ≤ 1000) : Inl (nx_response K a b c) := inl_up h (by omega) (by omega) (by omega) (by omega) (by omega) (by omega) (by omega) (by omega) (by omega) (by omega)
theorem inl_pump {K : Mdl} {a b c : Nat} (h : Inl K) (hc : c ≤ 1000) : Inl (nx_pump K a b c) := inl_up h (by omega) (by omega) (by omega) (by omega) (by omega) (by omega) (by omega) (by omega) (by omega) (by omega)
theorem inl_ratio {K : Mdl} {a b c : Nat} (h : Inl K) (hc : c ≤ 200) : Inl (nx_ratio K a b c) := inl_up h (by omega) (by omega) (by omega) (by omega) (by omega) (by omega) (by omega) (by omega) (by omega) (by omega)
theorem inl_rst {K : Mdl} (h : Inl K) {w m : Nat} : ∀ {k : Nat}, Inl (rst K w m k)
  | 0 => h
  | k + 1 => inl_up (inl_rst h) (by omega) (by omega) (by omega) (by omega) (by omega) (by omega) (by omega) (by omega) (by omega) (by omega)
theorem inl_trade {K : Mdl} {a b u : Nat} (h : Inl K) (hc : cn K a b u = true) : Inl (nx_trade K a b u) := by
  have h2 := cn_s hc
  have h3 := h.inv.li a
  unfold nx_trade
  exact inl_up (inl_up h (by omega) (by omega) (by omega) (by omega) (by omega) (by omega) (by omega) (by omega) (by omega) (by omega)) (by omega) (by omega) (by omega) (by omega) (by omega) (by omega) (by omega) (by omega) (by omega) (by omega)
theorem mtr_le (M : Mdl) (f t : Nat) : ∀ u, mtr M f t u ≤ u
  | 0 => Nat.le_refl _
  | u + 1 => by
    have h := mtr_le M f t u
    unfold mtr
    split <;> omega
theorem nI_ne {a b : Nat} (ha : a < 2 ^ 31) (hb : b < 2 ^ 31) (h : a ≠ b) : nI a ≠ nI b := fun e => h ((nI_eq ha hb).mp e)
theorem frm_1 {j n : Nat} (h : j < n + 1) : nI j - nI 1 = -1 ∨ ∃ i : Nat, i ≤ n ∧ nI j - nI 1 = nI i := by
  rcases Nat.eq_zero_or_pos j with q | q
  · subst q
    exact Or.inl (by decide)
  · exact Or.inr ⟨j - 1, by omega, pk_sub q⟩
theorem frm_0 {j n : Nat} (h : j < n + 1) : nI j - nI 0 = -1 ∨ ∃ i : Nat, i ≤ n ∧ nI j - nI 0 = nI i := Or.inr ⟨j - 0, by omega, pk_sub (Nat.zero_le _)⟩
