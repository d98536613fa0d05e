/-! p25's law: its own rows, told in the same numbers -/
/-- the law's rows: how many, the wells, the watches, the responses, the ratios, what five wells pump -/
def rwC (K : Mdl) : Nat → Int32 := fun i => nI (if i < 2 then K (5 * i) 0 else 0)
def rwW (K : Mdl) : Nat → Int32 := fun i => nI (if i < 15 then K (i / 5 + 1) (i % 5) else 0)
def rwV (K : Mdl) : Nat → Int32 := fun i => nI (if i < 6 then K (i / 3 + 6) (i % 3) else 0)
def rwT (K : Mdl) : Nat → Int32 := fun i => nI (K (11 + 3 * (i / 12)) (i % 12))
def rwR (K : Mdl) : Nat → Int32 := fun i => nI (K (12 + 3 * (i / 3)) (i % 3))
def rwP (K : Mdl) (w : Nat) : Nat → Int32 := fun i => nI (K (10 + 3 * w) i)
def wlE (cI : ClassId) (K : Mdl) : Nat → va_E := fun k =>
  if k = 0 then .inl (cI, 2, .inl (rwC K))
  else if k = 1 then .inl (cI, 15, .inl (rwW K))
  else if k = 2 then .inl (cI, 6, .inl (rwV K))
  else if k = 3 then .inl (cI, 60, .inl (rwT K))
  else if k = 4 then .inl (cI, 9, .inl (rwR K))
  else .inl (cI, 36, .inl (rwP K (k - 5)))
/-- the class's object, the law's rows behind it (from place 27 on), and what else there is (from place 37 on) -/
def wxE (ad : Nat → Nat) (cI cJ cQ : ClassId) (M : Mdl) (ts : Nat → Nat) (pu : Nat → Int64) (K : Mdl) (X : Nat → va_E) : Nat → va_E := fun k =>
  if k < 27 then wcE ad cI cJ cQ M ts pu k else if k < 37 then wlE cI K (k - 27) else X (k - 37)
def X2 (a b : va_E) : Nat → va_E := fun e => if e = 0 then a else b
/-- the bounds of the law's own numbers -/
def Inl (K : Mdl) : Prop := Inv K ∧ K 0 0 ≤ 5 ∧ K 5 0 ≤ 3
theorem Inl.inv {K : Mdl} (h : Inl K) : Inv K := h.1
theorem Inl.nw {K : Mdl} (h : Inl K) : K 0 0 ≤ 5 := h.2.1
theorem Inl.nv {K : Mdl} (h : Inl K) : K 5 0 ≤ 3 := h.2.2
section WX
variable {D : va_G} {n : Nat} {ad : Nat → Nat} {cI cJ cQ : ClassId} {M K : Mdl} {ts : Nat → Nat} {pu : Nat → Int64} {X : Nat → va_E} {F : Nat → va_E} {sa : Nat → Nat} {Z : Nat → Prop} {sz : Nat} {H H1 : Heap} {s : State} {As av : List Value}
theorem wx_p {w : Nat} (h : w < 5) : wxE ad cI cJ cQ M ts pu K X (32 + w) = .inl (cI, 36, .inl (rwP K w)) := by
  unfold wxE wlE
  rw [if_neg (by omega), if_pos (by omega), if_neg (by omega), if_neg (by omega), if_neg (by omega), if_neg (by omega), if_neg (by omega), show 32 + w - 27 - 5 = w by omega]
theorem wx_x {e : Nat} : wxE ad cI cJ cQ M ts pu K X (37 + e) = X e := by
  unfold wxE
  rw [if_neg (by omega), if_neg (by omega), Nat.add_sub_cancel_left]
theorem wx_c {k : Nat} (h : k < 27) : wxE ad cI cJ cQ M ts pu K X k = wcE ad cI cJ cQ M ts pu k := if_pos h
theorem wx_l {k : Nat} (h : k < 10) : wxE ad cI cJ cQ M ts pu K X (27 + k) = wlE cI K k := by
  unfold wxE
  rw [if_neg (by omega), if_pos (by omega), Nat.add_sub_cancel_left]
theorem fc_0 : rwC K 0 = nI (K 0 0) := rfl
theorem fc_1 : rwC K 1 = nI (K 5 0) := rfl
theorem fw_1 {i : Nat} (h : i < 5) : rwW K i = nI (K 1 i) := by
  unfold rwW
  rw [if_pos (by omega), show i / 5 = 0 by omega, show i % 5 = i by omega]
theorem fw_2 {i : Nat} (h : i < 5) : rwW K (5 + i) = nI (K 2 i) := by
  unfold rwW
  rw [if_pos (by omega), show (5 + i) / 5 = 1 by omega, show (5 + i) % 5 = i by omega]
theorem fw_3 {i : Nat} (h : i < 5) : rwW K (10 + i) = nI (K 3 i) := by
  unfold rwW
  rw [if_pos (by omega), show (10 + i) / 5 = 2 by omega, show (10 + i) % 5 = i by omega]
theorem fv_1 {i : Nat} (h : i < 3) : rwV K i = nI (K 6 i) := by
  unfold rwV
  rw [if_pos (by omega), show i / 3 = 0 by omega, show i % 3 = i by omega]
theorem fv_2 {i : Nat} (h : i < 3) : rwV K (3 + i) = nI (K 7 i) := by
  unfold rwV
  rw [if_pos (by omega), show (3 + i) / 3 = 1 by omega, show (3 + i) % 3 = i by omega]
theorem ft_1 {r d : Nat} (h : d < 12) : rwT K (12 * r + d) = nI (K (11 + 3 * r) d) := by
  unfold rwT
  rw [show (12 * r + d) / 12 = r by omega, show (12 * r + d) % 12 = d by omega]
theorem fr_1 {r d : Nat} (h : d < 3) : rwR K (3 * r + d) = nI (K (12 + 3 * r) d) := by
  unfold rwR
  rw [show (3 * r + d) / 3 = r by omega, show (3 * r + d) % 3 = d by omega]
/-! .. stored -/
theorem mupQ {f i x a b : Nat} : mup K f i x a b = if a = f ∧ b = i then x else K a b := rfl
theorem rwC_k {f i x : Nat} (h0 : f ≠ 0) (h5 : f ≠ 5) : rwC (mup K f i x) = rwC K := funext fun j => by
  unfold rwC
  by_cases q : j < 2
  · rw [if_pos q, if_pos q, mup_k (by omega)]
  · rw [if_neg q, if_neg q]
theorem rwW_k {f i x : Nat} (h1 : f ≠ 1) (h2 : f ≠ 2) (h3 : f ≠ 3) : rwW (mup K f i x) = rwW K := funext fun j => by
  unfold rwW
  by_cases q : j < 15
  · rw [if_pos q, if_pos q, mup_k (by omega)]
  · rw [if_neg q, if_neg q]
theorem rwV_k {f i x : Nat} (h1 : f ≠ 6) (h2 : f ≠ 7) : rwV (mup K f i x) = rwV K := funext fun j => by
  unfold rwV
  by_cases q : j < 6
  · rw [if_pos q, if_pos q, mup_k (by omega)]
  · rw [if_neg q, if_neg q]
theorem rwT_k {f i x : Nat} (h : ∀ r, f ≠ 11 + 3 * r) : rwT (mup K f i x) = rwT K := funext fun j => by
  unfold rwT
  rw [mup_k (fun e => h _ e.symm)]
theorem rwR_k {f i x : Nat} (h : ∀ r, f ≠ 12 + 3 * r) : rwR (mup K f i x) = rwR K := funext fun j => by
  unfold rwR
  rw [mup_k (fun e => h _ e.symm)]
theorem rwP_k {f i x w : Nat} (h : f ≠ 10 + 3 * w) : rwP (mup K f i x) w = rwP K w := funext fun j => by
  unfold rwP
  rw [mup_k (fun e => h e.symm)]
theorem rwC_s {g x : Nat} (hg : g < 2) : upd (rwC K) g (nI x) = rwC (mup K (5 * g) 0 x) := funext fun j => by
  by_cases q : j = g
  · subst q
    rw [pk_us]
    unfold rwC
    rw [if_pos hg, mup_s]
  · rw [pk_un q]
    unfold rwC
    rw [mup_k (by omega)]
theorem rwW_s {g i x : Nat} (hg : g < 3) (hi : i < 5) : upd (rwW K) (5 * g + i) (nI x) = rwW (mup K (g + 1) i x) := funext fun j => by
  by_cases q : j = 5 * g + i
  · subst q
    rw [pk_us]
    unfold rwW
    rw [if_pos (by omega), show (5 * g + i) / 5 = g by omega, show (5 * g + i) % 5 = i by omega, mup_s]
  · rw [pk_un q]
    unfold rwW
    rw [mupQ, if_neg (fun z : j / 5 + 1 = g + 1 ∧ j % 5 = i => by omega)]
theorem rwV_s {g i x : Nat} (hg : g < 2) (hi : i < 3) : upd (rwV K) (3 * g + i) (nI x) = rwV (mup K (g + 6) i x) := funext fun j => by
  by_cases q : j = 3 * g + i
  · subst q
    rw [pk_us]
    unfold rwV
    rw [if_pos (by omega), show (3 * g + i) / 3 = g by omega, show (3 * g + i) % 3 = i by omega, mup_s]
  · rw [pk_un q]
    unfold rwV
    rw [mupQ, if_neg (fun z : j / 3 + 6 = g + 6 ∧ j % 3 = i => by omega)]
theorem rwT_s {r d x : Nat} (hd : d < 12) : upd (rwT K) (12 * r + d) (nI x) = rwT (mup K (11 + 3 * r) d x) := funext fun j => by
  by_cases q : j = 12 * r + d
  · subst q
    rw [pk_us]
    unfold rwT
    rw [show (12 * r + d) / 12 = r by omega, show (12 * r + d) % 12 = d by omega, mup_s]
  · rw [pk_un q]
    unfold rwT
    rw [mupQ, if_neg (fun z : 11 + 3 * (j / 12) = 11 + 3 * r ∧ j % 12 = d => by omega)]
theorem rwR_s {r d x : Nat} (hd : d < 3) : upd (rwR K) (3 * r + d) (nI x) = rwR (mup K (12 + 3 * r) d x) := funext fun j => by
  by_cases q : j = 3 * r + d
  · subst q
    rw [pk_us]
    unfold rwR
    rw [show (3 * r + d) / 3 = r by omega, show (3 * r + d) % 3 = d by omega, mup_s]
  · rw [pk_un q]
    unfold rwR
    rw [mupQ, if_neg (fun z : 12 + 3 * (j / 3) = 12 + 3 * r ∧ j % 3 = d => by omega)]
theorem rwP_s {w i x : Nat} : upd (rwP K w) i (nI x) = rwP (mup K (10 + 3 * w) i x) w := funext fun j => by
  by_cases q : j = i
  · subst q
    rw [pk_us]
    unfold rwP
    rw [mup_s]
  · rw [pk_un q]
    unfold rwP
    rw [mup_i q]
theorem wl_keep {f i x b : Nat} (h0 : b = 0 → f ≠ 0 ∧ f ≠ 5) (h1 : b = 1 → f ≠ 1 ∧ f ≠ 2 ∧ f ≠ 3) (h2 : b = 2 → f ≠ 6 ∧ f ≠ 7) (h3 : b = 3 → ∀ r, f ≠ 11 + 3 * r) (h4 : b = 4 → ∀ r, f ≠ 12 + 3 * r) (h5 : 5 ≤ b → f ≠ 10 + 3 * (b - 5)) : wlE cI K b = wlE cI (mup K f i x) b := by
  unfold wlE
  by_cases q0 : b = 0
  · rw [if_pos q0, if_pos q0, rwC_k (h0 q0).1 (h0 q0).2]
  · rw [if_neg q0, if_neg q0]
    by_cases q1 : b = 1
    · rw [if_pos q1, if_pos q1, rwW_k (h1 q1).1 (h1 q1).2.1 (h1 q1).2.2]
    · rw [if_neg q1, if_neg q1]
      by_cases q2 : b = 2
      · rw [if_pos q2, if_pos q2, rwV_k (h2 q2).1 (h2 q2).2]
      · rw [if_neg q2, if_neg q2]
        by_cases q3 : b = 3
        · rw [if_pos q3, if_pos q3, rwT_k (h3 q3)]
        · rw [if_neg q3, if_neg q3]
          by_cases q4 : b = 4
          · rw [if_pos q4, if_pos q4, rwR_k (h4 q4)]
          · rw [if_neg q4, if_neg q4, rwP_k (h5 (by omega))]
/-- a store into one of the law's rows, told in the numbers -/
theorem wxS_of {a x : Nat} {K' : Mdl} {e : va_E} (ha : a < 10) (h0 : e = wlE cI K' a) (h1 : ∀ b, b < 10 → b ≠ a → wlE cI K b = wlE cI K' b) : ∀ j, j < x → va_up (wxE ad cI cJ cQ M ts pu K X) (27 + a) e j = wxE ad cI cJ cQ M ts pu K' X j := by
  intro j _
  unfold va_up
  by_cases q : j = 27 + a
  · rw [if_pos q, q, wx_l ha, h0]
  · rw [if_neg q]
    by_cases q2 : j < 27
    · rw [wx_c q2, wx_c q2]
    · by_cases q3 : j < 37
      · obtain ⟨b, rfl⟩ : ∃ b, j = 27 + b := ⟨j - 27, by omega⟩
        rw [wx_l (by omega), wx_l (by omega)]
        exact h1 b (by omega) (by omega)
      · obtain ⟨b, rfl⟩ : ∃ b, j = 37 + b := ⟨j - 37, by omega⟩
        rw [wx_x, wx_x]
theorem wlS_c0 {x : Nat} : ∀ j, j < n → va_up (wxE ad cI cJ cQ M ts pu K X) (27) (.inl (cI, 2, .inl (upd (rwC K) (0) (nI x)))) j = wxE ad cI cJ cQ M ts pu (mup K (0) 0 x) X j :=
  wxS_of (a := 0) (by omega) (by rw [rwC_s (g := 0) (by omega)]; rfl) (fun b h1 h2 => wl_keep (fun q => by omega) (fun q => by omega) (fun q => by omega) (fun q r => by omega) (fun q r => by omega) (fun q => by omega))
theorem wlS_c1 {x : Nat} : ∀ j, j < n → va_up (wxE ad cI cJ cQ M ts pu K X) (27) (.inl (cI, 2, .inl (upd (rwC K) (1) (nI x)))) j = wxE ad cI cJ cQ M ts pu (mup K (5) 0 x) X j :=
  wxS_of (a := 0) (by omega) (by rw [rwC_s (g := 1) (by omega)]; rfl) (fun b h1 h2 => wl_keep (fun q => by omega) (fun q => by omega) (fun q => by omega) (fun q r => by omega) (fun q r => by omega) (fun q => by omega))
theorem wlS_w1 {x i : Nat} (hi : i < 5) : ∀ j, j < n → va_up (wxE ad cI cJ cQ M ts pu K X) (28) (.inl (cI, 15, .inl (upd (rwW K) (i) (nI x)))) j = wxE ad cI cJ cQ M ts pu (mup K (1) i x) X j :=
  wxS_of (a := 1) (by omega) (by have e := rwW_s (K := K) (g := 0) (x := x) (by omega) hi; rw [show 5 * 0 + i = i by omega] at e; rw [e]; rfl) (fun b h1 h2 => wl_keep (fun q => by omega) (fun q => by omega) (fun q => by omega) (fun q r => by omega) (fun q r => by omega) (fun q => by omega))
theorem wlS_w2 {x i : Nat} (hi : i < 5) : ∀ j, j < n → va_up (wxE ad cI cJ cQ M ts pu K X) (28) (.inl (cI, 15, .inl (upd (rwW K) (5 + i) (nI x)))) j = wxE ad cI cJ cQ M ts pu (mup K (2) i x) X j :=
  wxS_of (a := 1) (by omega) (by have e := rwW_s (K := K) (g := 1) (x := x) (by omega) hi; rw [show 5 * 1 + i = 5 + i by omega] at e; rw [e]; rfl) (fun b h1 h2 => wl_keep (fun q => by omega) (fun q => by omega) (fun q => by omega) (fun q r => by omega) (fun q r => by omega) (fun q => by omega))
theorem wlS_w3 {x i : Nat} (hi : i < 5) : ∀ j, j < n → va_up (wxE ad cI cJ cQ M ts pu K X) (28) (.inl (cI, 15, .inl (upd (rwW K) (10 + i) (nI x)))) j = wxE ad cI cJ cQ M ts pu (mup K (3) i x) X j :=
  wxS_of (a := 1) (by omega) (by have e := rwW_s (K := K) (g := 2) (x := x) (by omega) hi; rw [show 5 * 2 + i = 10 + i by omega] at e; rw [e]; rfl) (fun b h1 h2 => wl_keep (fun q => by omega) (fun q => by omega) (fun q => by omega) (fun q r => by omega) (fun q r => by omega) (fun q => by omega))
theorem wlS_v1 {x i : Nat} (hi : i < 3) : ∀ j, j < n → va_up (wxE ad cI cJ cQ M ts pu K X) (29) (.inl (cI, 6, .inl (upd (rwV K) (i) (nI x)))) j = wxE ad cI cJ cQ M ts pu (mup K (6) i x) X j :=
  wxS_of (a := 2) (by omega) (by have e := rwV_s (K := K) (g := 0) (x := x) (by omega) hi; rw [show 3 * 0 + i = i by omega] at e; rw [e]; rfl) (fun b h1 h2 => wl_keep (fun q => by omega) (fun q => by omega) (fun q => by omega) (fun q r => by omega) (fun q r => by omega) (fun q => by omega))
theorem wlS_v2 {x i : Nat} (hi : i < 3) : ∀ j, j < n → va_up (wxE ad cI cJ cQ M ts pu K X) (29) (.inl (cI, 6, .inl (upd (rwV K) (3 + i) (nI x)))) j = wxE ad cI cJ cQ M ts pu (mup K (7) i x) X j :=
  wxS_of (a := 2) (by omega) (by have e := rwV_s (K := K) (g := 1) (x := x) (by omega) hi; rw [show 3 * 1 + i = 3 + i by omega] at e; rw [e]; rfl) (fun b h1 h2 => wl_keep (fun q => by omega) (fun q => by omega) (fun q => by omega) (fun q r => by omega) (fun q r => by omega) (fun q => by omega))
theorem wlS_t {x i r : Nat} (hr : r < 5) (hi : i < 12) : ∀ j, j < n → va_up (wxE ad cI cJ cQ M ts pu K X) (30) (.inl (cI, 60, .inl (upd (rwT K) (12 * r + i) (nI x)))) j = wxE ad cI cJ cQ M ts pu (mup K (11 + 3 * r) i x) X j :=
  wxS_of (a := 3) (by omega) (by rw [rwT_s hi]; rfl) (fun b h1 h2 => wl_keep (fun q => by omega) (fun q => by omega) (fun q => by omega) (fun q r => by omega) (fun q r => by omega) (fun q => by omega))
theorem wlS_r {x i r : Nat} (hr : r < 3) (hi : i < 3) : ∀ j, j < n → va_up (wxE ad cI cJ cQ M ts pu K X) (31) (.inl (cI, 9, .inl (upd (rwR K) (3 * r + i) (nI x)))) j = wxE ad cI cJ cQ M ts pu (mup K (12 + 3 * r) i x) X j :=
  wxS_of (a := 4) (by omega) (by rw [rwR_s hi]; rfl) (fun b h1 h2 => wl_keep (fun q => by omega) (fun q => by omega) (fun q => by omega) (fun q r => by omega) (fun q r => by omega) (fun q => by omega))
theorem wlS_p {x i w : Nat} (hw : w < 5) : ∀ j, j < n → va_up (wxE ad cI cJ cQ M ts pu K X) (32 + w) (.inl (cI, 36, .inl (upd (rwP K w) i (nI x)))) j = wxE ad cI cJ cQ M ts pu (mup K (10 + 3 * w) i x) X j := by
  have h := wxS_of (ad := ad) (cI := cI) (cJ := cJ) (cQ := cQ) (M := M) (ts := ts) (pu := pu) (K := K) (X := X) (x := n) (a := 5 + w) (K' := mup K (10 + 3 * w) i x) (e := .inl (cI, 36, .inl (upd (rwP K w) i (nI x)))) (by omega) (by
    rw [rwP_s]
    unfold wlE
    rw [if_neg (by omega), if_neg (by omega), if_neg (by omega), if_neg (by omega), if_neg (by omega), Nat.add_sub_cancel_left]) (fun b h1 h2 => wl_keep (fun q => by omega) (fun q => by omega) (fun q => by omega) (fun q r => by omega) (fun q r => by omega) (fun q => by omega))
  rw [show 27 + (5 + w) = 32 + w by omega] at h
  exact h
theorem wxS_x0 {a b e : va_E} : ∀ j, j < n → va_up (wxE ad cI cJ cQ M ts pu K (X2 a b)) 37 e j = wxE ad cI cJ cQ M ts pu K (X2 e b) j := by
  intro j _
  unfold va_up
  by_cases q : j = 37
  · rw [if_pos q, q]
    rfl
  · rw [if_neg q]
    unfold wxE X2
    by_cases q1 : j < 27
    · rw [if_pos q1, if_pos q1]
    · by_cases q2 : j < 37
      · rw [if_neg q1, if_neg q1, if_pos q2, if_pos q2]
      · rw [if_neg q1, if_neg q1, if_neg q2, if_neg q2, if_neg (by omega), if_neg (by omega)]
theorem wxS_x1 {a b e : va_E} : ∀ j, j < 39 → va_up (wxE ad cI cJ cQ M ts pu K (X2 a b)) 38 e j = wxE ad cI cJ cQ M ts pu K (X2 a e) j := by
  intro j h
  unfold va_up
  by_cases q : j = 38
  · rw [if_pos q, q]
    rfl
  · rw [if_neg q]
    unfold wxE X2
    by_cases q1 : j < 27
    · rw [if_pos q1, if_pos q1]
    · by_cases q2 : j < 37
      · rw [if_neg q1, if_neg q1, if_pos q2, if_pos q2]
      · rw [if_neg q1, if_neg q1, if_neg q2, if_neg q2, if_pos (by omega), if_pos (by omega)]
end WX
/-- what a law's method finds -/
def KA (D : va_G) (n : Nat) (ad : Nat → Nat) (cI cJ cQ : ClassId) (F : Nat → va_E) (U : State) : Prop := va_K D vwCl [(cI, .int), (cJ, .long), (cQ, .array .int)] U ∧ va_P D vwCl (wz n ad F) U.heap
/-- .. one that writes -/
def KAS (D : va_G) (n : Nat) (ad : Nat → Nat) (cI cJ cQ : ClassId) (F : Nat → va_E) (sz : Nat) (U : State) : Prop := U.heap.size = sz ∧ KA D n ad cI cJ cQ F U
/-- .. one that asks the class -/
def KV (D : va_G) (n : Nat) (ad : Nat → Nat) (cI cJ cQ : ClassId) (F : Nat → va_E) (sa : Nat → Nat) (Z : Nat → Prop) (sz : Nat) (U : State) : Prop := U.heap.size = sz ∧ KL sa Z U ∧ KA D n ad cI cJ cQ F U
section PA
variable {D : va_G} {n : Nat} {ad : Nat → Nat} {cI cJ cQ : ClassId} {F : Nat → va_E} {sa : Nat → Nat} {Z : Nat → Prop} {sz : Nat} {H H1 : Heap} {s : State} {As av : List Value}
theorem blA : FrameBlind (va_Pc av (KA D n ad cI cJ cQ F)) := fun a U g mk q => ⟨q.1, va_K.moved (u := U) (U := U.calling g mk a) (Vm.Alike.refl U.vm) q.2.1, q.2.2⟩
theorem psA (hK : va_K D vwCl [(cI, .int), (cJ, .long), (cQ, .array .int)] s) (hP : va_P D vwCl (wz n ad F) H) : PreS s H (va_Pc As (KA D n ad cI cJ cQ F)) As :=
  ⟨blA, fun U hU hW => ⟨rfl, va_K.moved hW.alike hK, by rw [hU]; exact hP⟩⟩
theorem blAS : FrameBlind (va_Pc av (KAS D n ad cI cJ cQ F sz)) := fun a U g mk q => ⟨q.1, q.2.1, va_K.moved (u := U) (U := U.calling g mk a) (Vm.Alike.refl U.vm) q.2.2.1, q.2.2.2⟩
theorem psAS (hK : va_K D vwCl [(cI, .int), (cJ, .long), (cQ, .array .int)] s) (hP : va_P D vwCl (wz n ad F) H) : PreS s H (va_Pc As (KAS D n ad cI cJ cQ F H.size)) As :=
  ⟨blAS, fun U hU hW => ⟨rfl, by rw [hU], va_K.moved hW.alike hK, by rw [hU]; exact hP⟩⟩
theorem blV : FrameBlind (va_Pc av (KV D n ad cI cJ cQ F sa Z sz)) := fun a U g mk q => ⟨q.1, q.2.1, q.2.2.1.same rfl rfl, va_K.moved (u := U) (U := U.calling g mk a) (Vm.Alike.refl U.vm) q.2.2.2.1, q.2.2.2.2⟩
theorem psV (hK : va_K D vwCl [(cI, .int), (cJ, .long), (cQ, .array .int)] s) (hP : va_P D vwCl (wz n ad F) H) (hX : KL sa Z s) (hh : ∀ a : Nat, a < s.heap.size → ¬ Z a → H[a]? = s.heap[a]?) : PreS s H (va_Pc As (KV D n ad cI cJ cQ F sa Z H.size)) As :=
  ⟨blV, fun U hU hW => ⟨rfl, by rw [hU], hX.at (by rw [hU]; exact hh) hW, va_K.moved hW.alike hK, by rw [hU]; exact hP⟩⟩
end PA
/-- where a law's method may write: at its rows, and behind z0 -/
abbrev zA (z0 : Nat) : Nat → Prop := fun q => z0 ≤ q
theorem zA_S {z0 : Nat} {H0 H : Heap} {locs : List Loc} (h : va_S (zA z0) H0 H locs) : ∀ a : Nat, a < H0.size → ¬ zA z0 a → H[a]? = H0[a]? := h.2.1
theorem us2 (x : Int32) : ∃ a : Nat, a < 2 ^ 30 ∧ (x.toUInt32 >>> ((nI 2).toUInt32 &&& Int32.toUInt32 31)).toInt32 = nI a := by
  have h := pk_ushr x (nI 2) 2 (by decide)
  have h2 : x.toBitVec.toNat < 2 ^ 32 := x.toBitVec.isLt
  refine ⟨x.toBitVec.toNat / 2 ^ 2, by omega, ?_⟩
  apply Int32.toBitVec_inj.mp
  apply BitVec.eq_of_toNat_eq
  rw [h, pk_tn (by omega)]
section ZV
variable {p : Program} {l : Launch} {e : Env} {R : Room} {s : State} {m : MethodId} {args : Array Value} {below : List Frame} {meth : Method} {c : Code} {H : Heap} {locs : List Loc} {cells slots : Nat} {Q : State → Prop}
variable {cc : ByteArray} {pc : Nat} {ls : Array Slot} {rest : List Value}
theorem zt_r {a b : Nat} (h : a = b) (k : W p l e R s m args below meth c H locs cells slots Q (F0 m pc ls (.ref b :: rest))) : W p l e R s m args below meth c H locs cells slots Q (F0 m pc ls (.ref a :: rest)) := h ▸ k
theorem zr_irem (hx : p.tables.exec = Jvm.exec) (hb : c.code = cc) {a b : Nat} (ha : a < 2 ^ 31) (h0 : 0 < b) (hb2 : b < 2 ^ 31) (hdg : decode cc pc = .ok (.irem, 1)) (k : W p l e R s m args below meth c H locs cells slots Q (F0 m (pc + 1) ls (.int (nI (a % b)) :: rest))) : W p l e R s m args below meth c H locs cells slots Q (F0 m pc ls (.int (nI b) :: .int (nI a) :: rest)) := by
  refine lv_irem hx hb hdg (nI_ne0 h0 hb2) ?_
  rw [pk_rem ha h0 hb2]
  exact k
theorem zb_0ge (hx : p.tables.exec = Jvm.exec) (hb : c.code = cc) {a : Nat} {off : Int} {tgt : Nat} (ha : a < 2 ^ 31) (hdg : decode cc pc = .ok (.ifCond .ge off, 3)) (ht : (pc : Int) + off = (tgt : Int))
    (kt : W p l e R s m args below meth c H locs cells slots Q (F0 m tgt ls rest)) : W p l e R s m args below meth c H locs cells slots Q (F0 m pc ls (.int (nI a) :: rest)) :=
  lv_if_ge hx hb hdg ht (fun _ => kt) (fun h => absurd (nI_pos' ha) h)
theorem zb_0lt (hx : p.tables.exec = Jvm.exec) (hb : c.code = cc) {a : Nat} {off : Int} {tgt : Nat} (ha : a < 2 ^ 31) (hdg : decode cc pc = .ok (.ifCond .lt off, 3)) (ht : (pc : Int) + off = (tgt : Int))
    (kf : W p l e R s m args below meth c H locs cells slots Q (F0 m (pc + 3) ls rest)) : W p l e R s m args below meth c H locs cells slots Q (F0 m pc ls (.int (nI a) :: rest)) :=
  lv_if_lt hx hb hdg ht (fun h => absurd h (by have h9 := nI_pos' ha; rw [Int32.le_iff_toInt_le] at h9; rw [Int32.lt_iff_toInt_lt]; omega)) (fun _ => kf)
/-- a law's method that asks the class has come back: it never throws -/
theorem zz_i {S : Type} {post : Int32 → S → Prop} {B : S → State → Prop} {A0 A1 : Nat → Prop} {H0 : Heap} {mc ms : Nat} {a : Array Value} {st0 : List Value} {free : Addr → Prop} (hr : vx_Run p l e R s m args below meth c H locs cells slots mc ms (F0 m pc ls st0) rest (va_Qi post B A1 a) (fun _ _ _ => False) free) (hS : va_S A0 H0 H locs) (hA : ∀ q, q < H.size → A1 q → A0 q) (hf : ∀ q, free q → A0 q)
    (kk : ∀ (r : Int32) (u : S) (t : State) (H1 : Heap) (locs1 : List Loc), t.heap = H1 → s.vm.Alike t.vm → post r u → B u t → H.size ≤ H1.size → (∀ q : Nat, q < H.size → ¬ A1 q → H1[q]? = H[q]?) → va_S A0 H0 H1 locs1 → W p l e R s m args below meth c H1 locs1 (cells + mc) (slots + ms) Q (F0 m (pc + 3) ls (.int r :: rest))) : W p l e R s m args below meth c H locs cells slots Q (F0 m pc ls st0) := by
  have hr9 : vx_Run p l e R s m args below meth c H locs cells slots mc ms (F0 m pc ls st0) rest (va_Qi post B A1 a) (vx_X (S := Unit) (fun _ => False) (fun _ _ _ => True) (fun _ => False)) free := by
    intro T hT X
    rcases hr T hT X with h | ⟨q, st₀, t, T', L, E, ce, h0, X', hL, e1, e2, hx, _⟩
    · exact Or.inl h
    · exact hx.elim
  exact vx_calli hr9 hS hA hf (fun _ _ h => h.elim) (fun _ _ _ _ _ _ _ _ _ hp => hp.elim) kk
theorem zz_l {S : Type} {post : Int64 → S → Prop} {B : S → State → Prop} {A0 A1 : Nat → Prop} {H0 : Heap} {mc ms : Nat} {a : Array Value} {st0 : List Value} {free : Addr → Prop} (hr : vx_Run p l e R s m args below meth c H locs cells slots mc ms (F0 m pc ls st0) rest (va_Ql post B A1 a) (fun _ _ _ => False) free) (hS : va_S A0 H0 H locs) (hA : ∀ q, q < H.size → A1 q → A0 q) (hf : ∀ q, free q → A0 q)
    (kk : ∀ (r : Int64) (u : S) (t : State) (H1 : Heap) (locs1 : List Loc), t.heap = H1 → s.vm.Alike t.vm → post r u → B u t → H.size ≤ H1.size → (∀ q : Nat, q < H.size → ¬ A1 q → H1[q]? = H[q]?) → va_S A0 H0 H1 locs1 → W p l e R s m args below meth c H1 locs1 (cells + mc) (slots + ms) Q (F0 m (pc + 3) ls (.long r :: rest))) : W p l e R s m args below meth c H locs cells slots Q (F0 m pc ls st0) := by
  have hr9 : vx_Run p l e R s m args below meth c H locs cells slots mc ms (F0 m pc ls st0) rest (va_Ql post B A1 a) (vx_X (S := Unit) (fun _ => False) (fun _ _ _ => True) (fun _ => False)) free := by
    intro T hT X
    rcases hr T hT X with h | ⟨q, st₀, t, T', L, E, ce, h0, X', hL, e1, e2, hx, _⟩
    · exact Or.inl h
    · exact hx.elim
  exact vx_calll hr9 hS hA hf (fun _ _ h => h.elim) (fun _ _ _ _ _ _ _ _ _ hp => hp.elim) kk
end ZV
section MKW
variable {l : Launch} {y : MethodName} {ws ws' : List Cond} {rm : Room} {cc : ByteArray} {maxL : Nat} {av : List Value} {B : State → Prop} {mc ms : Nat} {XC : String → State → State → Prop} {hh : List (Nat × Nat × Nat × Nat)}
/-- a law's method that answers a truth, and makes something -/
theorem mkW_Qz {S : Type} {post : Bool → S → Prop} {BQ : S → State → Prop} {A : Nat → Prop} (hy : plainName y.cls = true) (hw : ws = Cond.code y cc maxL (some .boolean) :: ws') (hn : (lg_sl av).length ≤ maxL)
    (body : ∀ {p : Program} {e : Env} {s : State} {m : MethodId} {args : Array Value} {below : List Frame} {meth : Method} {c : Code} (Q : State → Prop), Cx p s m args meth c cc maxL (some .boolean) ws y.cls → B s →
      (∀ {v : Int32} {b : Bool} {u : S} {H : Heap} {locs : List Loc} {pc cells slots : Nat} {ls : Array Slot}, cells ≤ mc → slots ≤ ms → post b u → v = bB b → va_S A s.heap H locs → (∀ t : State, t.heap = H → s.vm.Alike t.vm → BQ u t) → decode cc pc = .ok (.ireturn, 1) → W p l e rm s m args below meth c H locs cells slots Q (F0 m pc ls [.int v])) →
      ∀ ls : Array Slot, lv_has ls maxL (lv_args 0 av) → W p l e rm s m args below meth c s.heap [] 0 0 Q (F0 m 0 ls [])) : Met l y ws rm (va_Pc av B) (va_Qi (fun r u => ∃ b : Bool, r = bB b ∧ post b u) BQ A) mc ms A := by
  refine Met.ofW (cc := cc) (maxL := maxL) (ret := some .boolean) hy hw ?_
  intro p e s m args below meth c s₁ X hml hv
  obtain ⟨rfl, hB⟩ := hv
  have hl := lv_entry av (n := maxL) hn
  rw [lg_entry_eq]
  generalize (lg_sl av ++ List.replicate (maxL - (lg_sl av).length) Slot.unset).toArray = ls at hl ⊢
  exact body _ ⟨X.exec, X.bytes, X.returns, hml, findClass_of_methodNamed X.named, atoms_spec (ws := ws) X.pre, X.notSynchronized⟩ hB (fun {v b u H locs pc cells slots ls} hc hs hp hv hS hq hd => by
    subst hv
    exact W.widen hc hs (W.zret X.exec X.bytes X.returns (bB_nar b) (fun t ht hW => ⟨⟨_, u, rfl, ⟨b, rfl, hp⟩, hq t ht hW.alike⟩, hS.F ht⟩) hS.2.2 hd X.notSynchronized)) ls hl
/-- .. a long, behind handlers -/
theorem mkL_Ql {S : Type} {post : Int64 → S → Prop} {BQ : S → State → Prop} {A : Nat → Prop} (hy : plainName y.cls = true) (hw : ws = Cond.codeWith y cc maxL (some .long) hh :: ws') (hn : (lg_sl av).length ≤ maxL)
    (body : ∀ {p : Program} {e : Env} {s : State} {m : MethodId} {args : Array Value} {below : List Frame} {meth : Method} {c : Code} (Q : State → Prop), Cx p s m args meth c cc maxL (some .long) ws y.cls → c.exceptionTable.toList = tableOf hh → B s →
      (∀ {v : Int64} {u : S} {H : Heap} {locs : List Loc} {pc cells slots : Nat} {ls : Array Slot}, cells ≤ mc → slots ≤ ms → post v u → va_S A s.heap H locs → (∀ t : State, t.heap = H → s.vm.Alike t.vm → BQ u t) → decode cc pc = .ok (.lreturn, 1) → W p l e rm s m args below meth c H locs cells slots Q (F0 m pc ls [.long v])) →
      ∀ ls : Array Slot, lv_has ls maxL (lv_args 0 av) → W p l e rm s m args below meth c s.heap [] 0 0 Q (F0 m 0 ls [])) : vx_Met l y ws rm (va_Pc av B) (va_Ql post BQ A) XC mc ms A := by
  refine vx_ofWH (cc := cc) (maxL := maxL) (ret := some .long) (hh := hh) hy hw ?_
  intro p e s m args below meth c s₁ X hml hv
  obtain ⟨rfl, hB⟩ := hv
  have hts := atoms_spec (ws := ws) X.pre
  have htab := vx_table (x := y) X (hts _ (by rw [hw]; exact List.mem_cons_self))
  have hl := lv_entry av (n := maxL) hn
  rw [lg_entry_eq]
  generalize (lg_sl av ++ List.replicate (maxL - (lg_sl av).length) Slot.unset).toArray = ls at hl ⊢
  exact body _ ⟨X.exec, X.bytes, X.returns, hml, findClass_of_methodNamed X.named, hts, X.notSynchronized⟩ htab hB (fun hc hs hp hS hq hd => vx_ret (W.widen hc hs (W.lret X.exec X.bytes X.returns (fun t ht hW => ⟨⟨_, _, rfl, hp, hq t ht hW.alike⟩, hS.F ht⟩) hS.2.2 hd X.notSynchronized))) ls hl
end MKW
/-! the class asked out of the law -/
/-- what a law's method answers for a code: the value, or which exception it was -/
def rsc (c : Nat) (v : Int32) : Int32 := if c = 0 then v else if c = 1 then -101 else if c = 2 then -102 else -103
def rsl (c : Nat) (v : Int64) : Int64 := if c = 0 then v else -101
theorem rsc_0 {c : Nat} {v : Int32} (h : c = 0) : rsc c v = v := if_pos h
theorem rsc_1 {c : Nat} {v : Int32} (h : c = 1) : rsc c v = -101 := by subst h; rfl
theorem rsc_2 {c : Nat} {v : Int32} (h : c = 2) : rsc c v = -102 := by subst h; rfl
theorem rsc_3 {c : Nat} {v : Int32} (h : c = 3) : rsc c v = -103 := by subst h; rfl
theorem rsl_0 {c : Nat} {v : Int64} (h : c = 0) : rsl c v = v := if_pos h
theorem rsl_1 {c : Nat} {v : Int64} (h : c = 1) : rsl c v = -101 := by subst h; rfl
section WXP
variable {D : va_G} {n : Nat} {ad : Nat → Nat} {cI cJ cQ : ClassId} {M M1 K : Mdl} {ts ts1 : Nat → Nat} {pu pu1 : Nat → Int64} {X : Nat → va_E} {H H1 : Heap}
theorem wxP_c (hn : 37 ≤ n) (hP : va_P D vwCl (wz n ad (wxE ad cI cJ cQ M ts pu K X)) H) : va_P D vwCl (wz 27 ad (wcE ad cI cJ cQ M ts pu)) H := fun k q hk => by
  obtain ⟨h1, rfl⟩ := wz_inv hk
  have h := hP k _ (wz_at (by omega))
  rw [wx_c h1] at h
  exact h
theorem wxP_next (hn : 37 ≤ n) (hP0 : va_P D vwCl (wz n ad (wxE ad cI cJ cQ M ts pu K X)) H) (hnd : ndz n ad) (hk : ∀ q : Nat, q < H.size → ¬ azs 27 ad H.size q → H1[q]? = H[q]?) (hP : va_P D vwCl (wz 27 ad (wcE ad cI cJ cQ M1 ts1 pu1)) H1) : va_P D vwCl (wz n ad (wxE ad cI cJ cQ M1 ts1 pu1 K X)) H1 := fun k q hq => by
  obtain ⟨h1, rfl⟩ := wz_inv hq
  by_cases h : k < 27
  · rw [wx_c h]
    exact hP k _ (wz_at h)
  · have h2 := hP0 k _ (wz_at h1)
    have e : wxE ad cI cJ cQ M1 ts1 pu1 K X k = wxE ad cI cJ cQ M ts pu K X k := by
      unfold wxE
      rw [if_neg h, if_neg h]
    rw [e]
    have hlt : ad k < H.size := wz_lt hP0 h1
    refine h2.kept (hk _ hlt ?_)
    rintro (⟨i, hi, he⟩ | h9)
    · have := hnd k i h1 (by omega) he
      omega
    · exact absurd hlt (Nat.not_lt.mpr h9)
theorem azs_z {z0 : Nat} (hn : 37 ≤ n) (hAd : ∀ i, i < n → zA z0 (ad i)) (hz : z0 ≤ H.size) {q : Nat} (h : azs 27 ad H.size q) : zA z0 q := by
  rcases h with ⟨i, hi, rfl⟩ | h
  · exact hAd i (by omega)
  · exact Nat.le_trans hz h
end WXP
