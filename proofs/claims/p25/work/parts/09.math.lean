/-! the numbers that both sides tell -/
def d12 (x : Nat) : Nat := if x ≤ 12 then x else 12
theorem d12_s (x : Nat) : d12 x ≤ 12 ∧ d12 x ≤ x ∧ (d12 x = 12 ∨ d12 x = x) := by
  unfold d12
  split <;> omega
/-- how far a well is from a watch -/
def rch (M : Mdl) (w v : Nat) : Nat := ((M 1 w - M 6 v) + (M 6 v - M 1 w)) / 10
/-- the table's number -/
def tbn (M : Mdl) (r d : Nat) : Nat := if r < 5 then M (11 + 3 * r) d else 0
def ans (M : Mdl) (w v d : Nat) : Nat := if rch M w v < 5 ∧ d < 12 then M (11 + 3 * rch M w v) d else 0
theorem ans_tb {M : Mdl} {w v d : Nat} (h : d < 12) : ans M w v d = tbn M (rch M w v) d := by
  unfold ans tbn
  by_cases q : rch M w v < 5
  · rw [if_pos ⟨q, h⟩, if_pos q]
  · rw [if_neg (fun z => q z.1), if_neg q]
theorem ans_0 {M : Mdl} {w v d : Nat} (h : 12 ≤ d) : ans M w v d = 0 := if_neg (fun z => by omega)
theorem tbn_le {M : Mdl} (hI : Inv M) (r d : Nat) : tbn M r d ≤ 1000 := by
  unfold tbn
  split
  · next h => exact hI.tb r h d
  · omega
theorem ans_le {M : Mdl} (hI : Inv M) (w v d : Nat) : ans M w v d ≤ 1000 := by
  unfold ans
  split
  · next h => exact hI.tb _ h.1 d
  · omega
/-- what a well pumps in a year -/
def yr (M : Mdl) (w y : Nat) : Nat := ssum (fun k => M (10 + 3 * w) (y * 12 + k)) 12
theorem yr_le {M : Mdl} (hI : Inv M) {w : Nat} (hw : w < 8) (y : Nat) : yr M w y ≤ 12000 := by
  have h := ssum_le (f := fun k => M (10 + 3 * w) (y * 12 + k)) (c := 1000) (n := 12) (fun k _ => hI.un w hw _)
  exact h
/-- the drawdown of a watch by one well, as the class adds it up -/
def ddw (M : Mdl) (v m w : Nat) : Nat := ssum (fun d => M (10 + 3 * w) (m - d) * tbn M (rch M w v) d) (d12 (m + 1))
def dd (M : Mdl) (v m : Nat) : Nat := ssum (fun w => ddw M v m w) (M 0 0)
/-- .. as the reference does -/
def drw (M : Mdl) (v m w : Nat) : Nat := ssum (fun k => M (10 + 3 * w) k * ans M w v (m - k)) (m + 1)
theorem drw_eq (M : Mdl) (v m w : Nat) : drw M v m w = ddw M v m w := by
  unfold drw ddw
  have e1 : ssum (fun k => M (10 + 3 * w) k * ans M w v (m - k)) (m + 1) = ssum (fun k => (fun d => M (10 + 3 * w) (m - d) * ans M w v d) (m - k)) (m + 1) := ssum_congr (fun k hk => by
    show M (10 + 3 * w) k * ans M w v (m - k) = M (10 + 3 * w) (m - (m - k)) * ans M w v (m - k)
    rw [show m - (m - k) = k by omega])
  refine e1.trans ((ssum_r (f := fun d => M (10 + 3 * w) (m - d) * ans M w v d)).trans ?_)
  have hs := d12_s (m + 1)
  rw [ssum_cut (a := d12 (m + 1)) hs.2.1 (fun k h1 h2 => by rw [ans_0 (by omega), Nat.mul_zero])]
  exact ssum_congr (fun k hk => by rw [ans_tb (by omega)])
theorem drd_eq (M : Mdl) (v m : Nat) : ssum (fun w => drw M v m w) (M 0 0) = dd M v m := ssum_congr (fun k _ => drw_eq M v m k)
theorem ddw_le {M : Mdl} (hI : Inv M) {w : Nat} (hw : w < 8) (v m : Nat) : ddw M v m w ≤ 12000000 := by
  unfold ddw
  have hs := d12_s (m + 1)
  have h := ssum_le (f := fun d => M (10 + 3 * w) (m - d) * tbn M (rch M w v) d) (c := 1000000) (n := d12 (m + 1)) (fun k _ => Nat.le_trans (Nat.mul_le_mul (hI.un w hw _) (tbn_le hI _ _)) (by decide))
  have h2 : d12 (m + 1) * 1000000 ≤ 12 * 1000000 := Nat.mul_le_mul_right _ hs.1
  omega
theorem dd_le {M : Mdl} (hI : Inv M) (v m : Nat) : dd M v m ≤ 96000000 := by
  unfold dd
  have h := ssum_le (f := fun w => ddw M v m w) (c := 12000000) (n := M 0 0) (fun k hk => ddw_le hI (by have := hI.nw; omega) v m)
  have h2 : M 0 0 * 12000000 ≤ 8 * 12000000 := Nat.mul_le_mul_right _ hI.nw
  omega
/-- how much more, by one watch: up to D delays -/
def ulf (M : Mdl) (v r m : Nat) : Nat → Nat
  | 0 => 1000
  | d + 1 => if 0 < tbn M r d then min (ulf M v r m d) ((1000 * M 7 v - dd M v (m + d)) / tbn M r d) else ulf M v r m d
theorem ulf_le (M : Mdl) (v r m : Nat) : ∀ D, ulf M v r m D ≤ 1000
  | 0 => Nat.le_refl _
  | d + 1 => by
    have h := ulf_le M v r m d
    unfold ulf
    split <;> omega
def hdr (M : Mdl) (w m : Nat) : Nat → Nat
  | 0 => 1000 - M (10 + 3 * w) m
  | v + 1 => min (hdr M w m v) (ulf M v (rch M w v) m (d12 (36 - m)))
theorem hdr_le (M : Mdl) (w m : Nat) : ∀ v, hdr M w m v ≤ 1000
  | 0 => by show 1000 - _ ≤ 1000; omega
  | v + 1 => by
    have h := hdr_le M w m v
    show min _ _ ≤ 1000
    omega
/-- .. the reference's, from a start -/
def hdi (M : Mdl) (w v m x : Nat) : Nat → Nat
  | 0 => x
  | d + 1 => if 0 < ans M w v d then min (hdi M w v m x d) ((1000 * M 7 v - dd M v (m + d)) / ans M w v d) else hdi M w v m x d
theorem hdi_eq (M : Mdl) (w v m x : Nat) (hx : x ≤ 1000) : ∀ D, D ≤ 12 → hdi M w v m x D = min x (ulf M v (rch M w v) m D)
  | 0, _ => by show x = min x 1000; omega
  | d + 1, h => by
    have e := hdi_eq M w v m x hx d (by omega)
    unfold hdi ulf
    rw [ans_tb (by omega : d < 12), e]
    split <;> omega
theorem hdi_le (M : Mdl) (w v m x : Nat) (hx : x ≤ 1000) : ∀ D, hdi M w v m x D ≤ 1000
  | 0 => hx
  | d + 1 => by
    have h := hdi_le M w v m x hx d
    unfold hdi
    split <;> omega
/-- what a well's pumping of a month lowers in all -/
def lia (M : Mdl) (w v m : Nat) : Nat := ssum (fun d => M (10 + 3 * w) m * tbn M (rch M w v) d) (d12 (36 - m))
theorem lia_le {M : Mdl} (hI : Inv M) {w : Nat} (hw : w < 8) (v m : Nat) : lia M w v m ≤ 12000000 := by
  unfold lia
  have hs := d12_s (36 - m)
  have h := ssum_le (f := fun d => M (10 + 3 * w) m * tbn M (rch M w v) d) (c := 1000000) (n := d12 (36 - m)) (fun k _ => Nat.le_trans (Nat.mul_le_mul (hI.un w hw _) (tbn_le hI _ _)) (by decide))
  have h2 : d12 (36 - m) * 1000000 ≤ 12 * 1000000 := Nat.mul_le_mul_right _ hs.1
  omega
def hvm (M : Mdl) (v m : Nat) : Nat → Nat
  | 0 => 0
  | w + 1 => if hvm M v m w < lia M w v m then lia M w v m else hvm M v m w
def hvb (M : Mdl) (v m : Nat) : Nat → Int32
  | 0 => -1
  | w + 1 => if hvm M v m w < lia M w v m then nI w else hvb M v m w
theorem hvm_le {M : Mdl} (hI : Inv M) (v m : Nat) : ∀ w, w ≤ 8 → hvm M v m w ≤ 12000000
  | 0, _ => by show 0 ≤ _; omega
  | w + 1, h => by
    have h1 := hvm_le hI v m w (by omega)
    have h2 := lia_le hI (show w < 8 by omega) v m
    unfold hvm
    split <;> omega
/-- what a well takes of the stream in a year by its first E months -/
def tks (M : Mdl) (w y m : Nat) : Nat := (if (m + M 1 w / 5) / 12 = y then M (10 + 3 * w) m - M (10 + 3 * w) m / 2 else 0) + (if (m + M 1 w / 5 + 1) / 12 = y then M (10 + 3 * w) m / 2 else 0)
def tk (M : Mdl) (w y E : Nat) : Nat := ssum (fun m => tks M w y m) E
/-- licences -/
def als (M : Mdl) (w v : Nat) : Nat := ssum (fun d => ans M w v d) 12
theorem als_le {M : Mdl} (hI : Inv M) (w v : Nat) : als M w v ≤ 12000 := by
  have h := ssum_le (f := fun d => ans M w v d) (c := 1000) (n := 12) (fun k _ => ans_le hI w v k)
  exact h
theorem als_5 {M : Mdl} {w v : Nat} (h : rch M w v < 5) : als M w v = ssum (fun d => M (11 + 3 * rch M w v) d) 12 := ssum_congr (fun k hk => if_pos ⟨h, hk⟩)
theorem als_0 {M : Mdl} {w v : Nat} (h : 5 ≤ rch M w v) : als M w v = 0 := ssum_0s (fun k hk => if_neg (fun z => by omega))
def bud (M : Mdl) (v : Nat) : Nat := ssum (fun w => M 3 w * als M w v) (M 0 0)
def gt (M : Mdl) (f t u : Nat) : Nat := u * M (12 + 3 * M 2 f) (M 2 t) / 100
theorem gt_le {M : Mdl} (hI : Inv M) (f t : Nat) {u : Nat} (hu : u ≤ 5000) : u * M (12 + 3 * M 2 f) (M 2 t) ≤ 1000000 ∧ gt M f t u ≤ 10000 := by
  have h := hI.ra (M 2 f) (by have := hI.zo f; omega) (M 2 t)
  have h2 : u * M (12 + 3 * M 2 f) (M 2 t) ≤ 5000 * 200 := Nat.mul_le_mul hu h
  refine ⟨h2, ?_⟩
  unfold gt
  omega
def cnv (M : Mdl) (f t u : Nat) : Nat → Bool
  | 0 => true
  | v + 1 => cnv M f t u v && decide (gt M f t u * als M t v ≤ u * als M f v)
def cn (M : Mdl) (f t u : Nat) : Bool := decide (u ≤ M 3 f) && decide (M 3 t + gt M f t u ≤ 20000) && cnv M f t u (M 5 0)
theorem cnv_f {M : Mdl} {f t u : Nat} {v : Nat} : ∀ {n : Nat}, v < n → ¬ gt M f t u * als M t v ≤ u * als M f v → cnv M f t u n = false
  | 0, h, _ => by omega
  | n + 1, h, hn => by
    unfold cnv
    rcases Nat.lt_or_ge v n with q | q
    · rw [cnv_f q hn]
      rfl
    · have e : v = n := by omega
      subst e
      simp [hn]
def mtr (M : Mdl) (f t : Nat) : Nat → Nat
  | 0 => 0
  | u + 1 => if cn M f t (u + 1) = true then u + 1 else mtr M f t u
theorem mtr_cut {M : Mdl} {f t : Nat} {a : Nat} (h : M 3 f ≤ a) : ∀ b, a ≤ b → mtr M f t b = mtr M f t a
  | 0, hb => by rw [show a = 0 by omega]
  | b + 1, hb => by
    rcases Nat.lt_or_ge b a with q | q
    · rw [show a = b + 1 by omega]
    · have e : cn M f t (b + 1) = false := by
        unfold cn
        rw [decide_eq_false (show ¬ b + 1 ≤ M 3 f by omega)]
        rfl
      show (if cn M f t (b + 1) = true then b + 1 else mtr M f t b) = _
      rw [e, if_neg (by decide)]
      exact mtr_cut h b q
/-- the greatest month, so far -/
def wst (M : Mdl) (v : Nat) : Nat → Nat
  | 0 => 0
  | k + 1 => if dd M v (wst M v k) < dd M v (k + 1) then k + 1 else wst M v k
theorem wst_le (M : Mdl) (v : Nat) : ∀ k, wst M v k ≤ k
  | 0 => Nat.le_refl _
  | k + 1 => by
    have h := wst_le M v k
    unfold wst
    split <;> omega
def ovc (M : Mdl) (v m : Nat) : Nat := if 1000 * M 7 v < dd M v m then 1 else 0
def ovr (M : Mdl) (v : Nat) : Nat := ssum (fun m => ovc M v m) 36
def byd (M : Mdl) (y : Nat) : Nat := ssum (fun w => yr M w y - M 3 w) (M 0 0)
def tka (M : Mdl) (y : Nat) : Nat := ssum (fun w => tk M w y 36) (M 0 0)
/-- a well rests -/
def rst (M : Mdl) (w m : Nat) : Nat → Mdl
  | 0 => M
  | k + 1 => mup (rst M w m k) (10 + 3 * w) (m + k) 0
def rss (M : Mdl) (w m n : Nat) : Nat := ssum (fun k => M (10 + 3 * w) (m + k)) n
theorem rst_at (M : Mdl) (w m : Nat) : ∀ k j, k ≤ j → rst M w m k (10 + 3 * w) (m + j) = M (10 + 3 * w) (m + j)
  | 0, _, _ => rfl
  | k + 1, j, h => by
    show mup (rst M w m k) (10 + 3 * w) (m + k) 0 (10 + 3 * w) (m + j) = _
    rw [mup_i (by omega), rst_at M w m k j (by omega)]
/-- signed differences -/
theorem lt_sub0 {a b : Nat} (ha : a < 2 ^ 62) (hb : b < 2 ^ 62) : lN a - lN b < lN 0 ↔ a < b := by
  rw [Int64.lt_iff_toInt_lt, Int64.toInt_sub, pk_lT (by omega), pk_lT (by omega), pk_lT (by decide)]
  have e : ((a : Int) - (b : Int)).bmod (2 ^ 64) = (a : Int) - b := by
    rw [Int.bmod_eq_of_le (by omega) (by omega)]
  rw [e]
  omega
theorem max_sub0 {a b : Nat} (ha : a < 2 ^ 62) (hb : b < 2 ^ 62) : (if lN a - lN b < lN 0 then lN 0 else lN a - lN b) = lN (a - b) := by
  by_cases h : a < b
  · rw [if_pos ((lt_sub0 ha hb).mpr h), show a - b = 0 by omega]
  · rw [if_neg (fun q => h ((lt_sub0 ha hb).mp q)), lN_sub (by omega)]
theorem min_lN {a b : Nat} (ha : a < 2 ^ 62) (hb : b < 2 ^ 62) : (if lN b < lN a then lN b else lN a) = lN (min a b) := by
  by_cases h : b < a
  · rw [if_pos ((pk_lLT (by omega) (by omega)).mpr h), show min a b = b by omega]
  · rw [if_neg (fun q => h ((pk_lLT (by omega) (by omega)).mp q)), show min a b = a by omega]
theorem nlt_sub0 {a b : Nat} (ha : a < 2 ^ 30) (hb : b < 2 ^ 30) : nI 0 < nI a - nI b ↔ b < a := by
  rw [Int32.lt_iff_toInt_lt, pk_sub_toInt ha hb, nI_toInt (by decide)]
  omega
theorem nmax_sub0 {a b : Nat} (ha : a < 2 ^ 30) (hb : b < 2 ^ 30) : (if nI 0 < nI a - nI b then nI a - nI b else nI 0) = nI (a - b) := by
  by_cases h : b < a
  · rw [if_pos ((nlt_sub0 ha hb).mpr h), pk_sub (by omega)]
  · rw [if_neg (fun q => h ((nlt_sub0 ha hb).mp q)), show a - b = 0 by omega]
theorem nmin_nI {a b : Nat} (ha : a < 2 ^ 31) (hb : b < 2 ^ 31) : (if nI b < nI a then nI b else nI a) = nI (min a b) := by
  by_cases h : b < a
  · rw [if_pos ((nI_ltI (by omega) (by omega)).mpr h), show min a b = b by omega]
  · rw [if_neg (fun q => h ((nI_ltI (by omega) (by omega)).mp q)), show min a b = a by omega]
/-- the distance -/
theorem abs_nI {a b : Nat} (ha : a < 2 ^ 30) (hb : b < 2 ^ 30) : (if 0 ≤ nI a - nI b then nI a - nI b else 0 - (nI a - nI b)) = nI ((a - b) + (b - a)) := by
  have h1 : (0 ≤ nI a - nI b) ↔ b ≤ a := by
    rw [Int32.le_iff_toInt_le, pk_sub_toInt ha hb]
    have : (0 : Int32).toInt = 0 := by decide
    rw [this]
    omega
  by_cases h : b ≤ a
  · rw [if_pos (h1.mpr h), pk_sub h, show (a - b) + (b - a) = a - b by omega]
  · rw [if_neg (fun q => h (h1.mp q)), show (a - b) + (b - a) = b - a by omega, ← pk_sub (by omega : a ≤ b)]
    rw [Int32.zero_sub, Int32.neg_sub]
theorem neg_nI {a b : Nat} (ha : a < 2 ^ 30) (hb : b < 2 ^ 30) (h : a < b) : -(nI a - nI b) = nI (b - a) := by
  rw [Int32.neg_sub, pk_sub (by omega)]
theorem fl_un {M : Mdl} {w m : Nat} (h : m < 36) : (fun i => nI (M (10 + 3 * (i / 36)) (i % 36))) (36 * w + m) = nI (M (10 + 3 * w) m) := by
  show nI (M (10 + 3 * ((36 * w + m) / 36)) ((36 * w + m) % 36)) = _
  rw [show (36 * w + m) / 36 = w by omega, show (36 * w + m) % 36 = m by omega]
theorem fl_tb {M : Mdl} {w m : Nat} (h : m < 12) : (fun i => nI (M (11 + 3 * (i / 12)) (i % 12))) (12 * w + m) = nI (M (11 + 3 * w) m) := by
  show nI (M (11 + 3 * ((12 * w + m) / 12)) ((12 * w + m) % 12)) = _
  rw [show (12 * w + m) / 12 = w by omega, show (12 * w + m) % 12 = m by omega]
theorem fl_ra {M : Mdl} {w m : Nat} (h : m < 3) : (fun i => nI (M (12 + 3 * (i / 3)) (i % 3))) (3 * w + m) = nI (M (12 + 3 * w) m) := by
  show nI (M (12 + 3 * ((3 * w + m) / 3)) ((3 * w + m) % 3)) = _
  rw [show (3 * w + m) / 3 = w by omega, show (3 * w + m) % 3 = m by omega]
theorem rch_le {M : Mdl} (hI : Inv M) (w v : Nat) : rch M w v ≤ 9 := by
  have h1 := hI.pl w
  have h2 := hI.sp v
  unfold rch
  omega
/-- the machine's own tests, told in truth values -/
def ixB (x : Int32) (n : Nat) : Bool := decide (0 ≤ x ∧ x < nI n)
def rgB (x lo hi : Int32) : Bool := decide (lo ≤ x ∧ x ≤ hi)
theorem ixB_of {x : Int32} {n : Nat} (hn : n < 2 ^ 31) (h : ixB x n = true) : ∃ j : Nat, j < n ∧ x = nI j := by
  obtain ⟨h1, h2⟩ := of_decide_eq_true h
  have h0 : ¬ x < 0 := by
    rw [Int32.lt_iff_toInt_lt]
    rw [Int32.le_iff_toInt_le] at h1
    omega
  obtain ⟨j, hj, rfl⟩ := nI_of h0
  exact ⟨j, (nI_ltI hj hn).mp h2, rfl⟩
theorem ixB_nI {j n : Nat} (hn : n < 2 ^ 31) (h : j < n) : ixB (nI j) n = true := decide_eq_true ⟨nI_pos' (by omega), (nI_ltI (by omega) hn).mpr h⟩
theorem rgB_of {x : Int32} {a b : Nat} (hb : b < 2 ^ 31) (h : rgB x (nI a) (nI b) = true) (ha : a < 2 ^ 31) : ∃ j : Nat, a ≤ j ∧ j ≤ b ∧ x = nI j := by
  obtain ⟨h1, h2⟩ := of_decide_eq_true h
  have h0 : ¬ x < 0 := by
    rw [Int32.lt_iff_toInt_lt]
    rw [Int32.le_iff_toInt_le, nI_toInt ha] at h1
    have : (0 : Int32).toInt = 0 := by decide
    omega
  obtain ⟨j, hj, rfl⟩ := nI_of h0
  exact ⟨j, (nI_leI ha hj).mp h1, (nI_leI hj hb).mp h2, rfl⟩
theorem rg_ix {x : Int32} {n : Nat} (hn : n + 1 < 2 ^ 31) : rgB x (nI 0) (nI n) = ixB x (n + 1) := by
  unfold rgB ixB
  apply decide_eq_decide.mpr
  rw [nI_0]
  refine and_congr_right (fun _ => ?_)
  rw [Int32.le_iff_toInt_le, Int32.lt_iff_toInt_lt, nI_toInt (by omega), nI_toInt hn]
  omega
/-- .. up to one less than a number that may be 0 -/
theorem rg_ixm {x : Int32} {n : Nat} (hn : n < 2 ^ 30) : rgB x (nI 0) (nI n - nI 1) = ixB x n := by
  unfold rgB ixB
  apply decide_eq_decide.mpr
  rw [nI_0]
  refine and_congr_right (fun _ => ?_)
  rw [Int32.le_iff_toInt_le, Int32.lt_iff_toInt_lt, pk_sub_toInt hn (by decide), nI_toInt (by omega)]
  omega
abbrev clN (x : Int32) : Nat := x.toNatClampNeg
theorem ls0_of {a b : Nat} (ha : a < 2 ^ 62) (hb : b < 2 ^ 62) (h : lN 0 ≤ lN a - lN b) : b ≤ a := by
  rcases Nat.lt_or_ge a b with q | q
  · have h1 := (lt_sub0 ha hb).mpr q
    rw [Int64.lt_iff_toInt_lt] at h1
    rw [Int64.le_iff_toInt_le] at h
    omega
  · exact q
