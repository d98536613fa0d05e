/-! the state of both sides: a table of numbers, field by field (0 the wells' number, 1 places, 2 zones, 3 licences, 5 the watches' number, 6 their places, 7 limits, 10 + 3 w the units of the well w by months, 11 + 3 r the responses of the reach r by delays, 12 + 3 f the ratios from the zone f) -/
abbrev Mdl : Type := Nat → Nat → Nat
def mup (M : Mdl) (k i v : Nat) : Mdl := fun a b => if a = k ∧ b = i then v else M a b
theorem mup_s {M : Mdl} {k i v : Nat} : mup M k i v k i = v := if_pos ⟨rfl, rfl⟩
theorem mup_k {M : Mdl} {k i v a b : Nat} (h : a ≠ k) : mup M k i v a b = M a b := if_neg (fun q => h q.1)
theorem mup_i {M : Mdl} {k i v a b : Nat} (h : b ≠ i) : mup M k i v a b = M a b := if_neg (fun q => h q.2)
def ssum (f : Nat → Nat) : Nat → Nat
  | 0 => 0
  | n + 1 => ssum f n + f n
theorem ssum_0 {f : Nat → Nat} : ssum f 0 = 0 := rfl
theorem ssum_s {f : Nat → Nat} {n : Nat} : ssum f (n + 1) = ssum f n + f n := rfl
theorem ssum_congr {f g : Nat → Nat} : ∀ {n : Nat}, (∀ k, k < n → f k = g k) → ssum f n = ssum g n
  | 0, _ => rfl
  | n + 1, h => by rw [ssum_s, ssum_s, ssum_congr (fun k hk => h k (Nat.lt_succ_of_lt hk)), h n (Nat.lt_succ_self n)]
theorem ssum_le {f : Nat → Nat} {c : Nat} : ∀ {n : Nat}, (∀ k, k < n → f k ≤ c) → ssum f n ≤ n * c
  | 0, _ => by rw [ssum_0]; omega
  | n + 1, h => by
    have h1 := ssum_le (n := n) (fun k hk => h k (Nat.lt_succ_of_lt hk))
    have h2 := h n (Nat.lt_succ_self n)
    rw [ssum_s, Nat.succ_mul]
    omega
theorem ssum_0s {f : Nat → Nat} : ∀ {n : Nat}, (∀ k, k < n → f k = 0) → ssum f n = 0
  | 0, _ => rfl
  | n + 1, h => by rw [ssum_s, ssum_0s (fun k hk => h k (Nat.lt_succ_of_lt hk)), h n (Nat.lt_succ_self n)]
/-- the first one pulled out -/
theorem ssum_f {f : Nat → Nat} : ∀ {n : Nat}, ssum f (n + 1) = f 0 + ssum (fun k => f (k + 1)) n
  | 0 => by rw [ssum_s, ssum_0, ssum_0]; omega
  | n + 1 => by rw [ssum_s, ssum_f (n := n), ssum_s]; omega
/-- read backwards -/
theorem ssum_r {f : Nat → Nat} : ∀ {n : Nat}, ssum (fun k => f (n - k)) (n + 1) = ssum f (n + 1)
  | 0 => by rw [ssum_s, ssum_s, ssum_0, ssum_0]
  | n + 1 => by
    rw [ssum_f (f := fun k => f (n + 1 - k)), ssum_s (f := f) (n := n + 1)]
    have e : ssum (fun k => (fun k => f (n + 1 - k)) (k + 1)) (n + 1) = ssum (fun k => f (n - k)) (n + 1) := ssum_congr (fun k hk => by
      show f (n + 1 - (k + 1)) = f (n - k)
      rw [Nat.add_sub_add_right])
    rw [e, ssum_r (n := n), Nat.sub_zero, Nat.add_comm]
/-- what lies behind a bound is 0 -/
theorem ssum_cut {f : Nat → Nat} {a : Nat} : ∀ {n : Nat}, a ≤ n → (∀ k, a ≤ k → k < n → f k = 0) → ssum f n = ssum f a
  | 0, h, _ => by rw [Nat.le_zero.mp h]
  | n + 1, h, h0 => by
    rcases Nat.lt_or_ge n a with q | q
    · rw [show a = n + 1 by omega]
    · rw [ssum_s, ssum_cut q (fun k h1 h2 => h0 k h1 (Nat.lt_succ_of_lt h2)), h0 n q (Nat.lt_succ_self n), Nat.add_zero]
/-! a world by an address function -/
def wz (n : Nat) (ad : Nat → Nat) (F : Nat → va_E) : va_W := (List.range n).map (fun k => (ad k, F k))
theorem wz_at {n : Nat} {ad : Nat → Nat} {F : Nat → va_E} {k : Nat} (h : k < n) : (wz n ad F)[k]? = some (ad k, F k) := by
  simp [wz, h]
theorem wz_inv {n : Nat} {ad : Nat → Nat} {F : Nat → va_E} {k : Nat} {q : Nat × va_E} (h : (wz n ad F)[k]? = some q) : k < n ∧ q = (ad k, F k) := by
  rcases Nat.lt_or_ge k n with hk | hk
  · rw [wz_at hk] at h
    exact ⟨hk, (Option.some.inj h).symm⟩
  · have hl : (wz n ad F).length ≤ k := by simp [wz, hk]
    rw [List.getElem?_eq_none hl] at h
    cases h
theorem wz_ext {n : Nat} {ad : Nat → Nat} {F G : Nat → va_E} (h : ∀ k, k < n → F k = G k) : wz n ad F = wz n ad G := by
  unfold wz
  exact List.map_congr_left (fun k hk => by rw [h k (List.mem_range.mp hk)])
theorem wz_set {n : Nat} {ad : Nat → Nat} {F : Nat → va_E} {k : Nat} {e : va_E} (h : k < n) : (wz n ad F).set k (ad k, e) = wz n ad (va_up F k e) := by
  apply List.ext_getElem?
  intro i
  rw [List.getElem?_set]
  by_cases hi : k = i
  · subst hi
    rw [wz_at (F := va_up F k e) h, if_pos rfl]
    have hl : k < (wz n ad F).length := by simp [wz, h]
    rw [if_pos hl]
    show some (ad k, e) = some (ad k, if k = k then e else F k)
    rw [if_pos rfl]
  · rw [if_neg hi]
    rcases Nat.lt_or_ge i n with q | q
    · rw [wz_at q, wz_at q]
      simp [va_up, Ne.symm hi]
    · rw [List.getElem?_eq_none (by simp [wz, q]), List.getElem?_eq_none (by simp [wz, q])]
def ndz (n : Nat) (ad : Nat → Nat) : Prop := ∀ i j : Nat, i < n → j < n → ad i = ad j → i = j
theorem wz_D {n : Nat} {ad : Nat → Nat} {F : Nat → va_E} {A : Nat → Prop} (h : ndz n ad) (hA : ∀ i, i < n → A (ad i)) : va_D A (wz n ad F) := by
  refine ⟨fun i j p q hp hq e => ?_, fun k q hq => ?_⟩
  · obtain ⟨h1, rfl⟩ := wz_inv hp
    obtain ⟨h2, rfl⟩ := wz_inv hq
    exact h i j h1 h2 e
  · obtain ⟨h1, rfl⟩ := wz_inv hq
    exact hA k h1
/-- a method's own cells, and the new ones -/
def azs (n : Nat) (ad : Nat → Nat) (sz : Nat) : Nat → Prop := fun q => (∃ i, i < n ∧ q = ad i) ∨ sz ≤ q
theorem azs_i {n : Nat} {ad : Nat → Nat} {sz i : Nat} (h : i < n) : azs n ad sz (ad i) := Or.inl ⟨i, h, rfl⟩
theorem wz_kept {D : va_G} {cl : List vw_C} {n : Nat} {ad : Nat → Nat} {F : Nat → va_E} {H H1 : Heap} (h : va_P D cl (wz n ad F) H) (hq : ∀ i, i < n → H1[ad i]? = H[ad i]?) : va_P D cl (wz n ad F) H1 :=
  h.kept (fun k q hk => by
    obtain ⟨h1, rfl⟩ := wz_inv hk
    exact hq k h1)
theorem wz_lt {D : va_G} {cl : List vw_C} {n : Nat} {ad : Nat → Nat} {F : Nat → va_E} {H : Heap} (h : va_P D cl (wz n ad F) H) {i : Nat} (hi : i < n) : ad i < H.size := (h i _ (wz_at hi)).lt
/-- the class's object and its arrays -/
def wcE (ad : Nat → Nat) (cI cJ cQ : ClassId) (M : Mdl) (ts : Nat → Nat) (pu : Nat → Int64) : Nat → va_E := fun k =>
  if k = 0 then .inr (0, [.ref (ad 1), .ref (ad 2), .ref (ad 3), .ref (ad 4), .ref (ad 5), .ref (ad 6), .ref (ad 7), .ref (ad 8), .ref (ad 9), .ref (ad 10), .int (nI (M 0 0)), .int (nI (M 5 0))])
  else if k = 1 then .inl (cI, 8, .inl (fun i => nI (M 1 i)))
  else if k = 2 then .inl (cI, 8, .inl (fun i => nI (M 2 i)))
  else if k = 3 then .inl (cI, 8, .inl (fun i => nI (M 3 i)))
  else if k = 4 then .inl (cQ, 8, .inr (.inr (.inr (.inr (fun i => some (ad (11 + i)))))))
  else if k = 5 then .inl (cI, 4, .inl (fun i => nI (M 6 i)))
  else if k = 6 then .inl (cI, 4, .inl (fun i => nI (M 7 i)))
  else if k = 7 then .inl (cQ, 5, .inr (.inr (.inr (.inr (fun i => some (ad (19 + i)))))))
  else if k = 8 then .inl (cI, 5, .inl (fun i => nI (ts i)))
  else if k = 9 then .inl (cQ, 3, .inr (.inr (.inr (.inr (fun i => some (ad (24 + i)))))))
  else if k = 10 then .inl (cJ, 36, .inr (.inl pu))
  else if k < 19 then .inl (cI, 36, .inl (fun j => nI (M (10 + 3 * (k - 11)) j)))
  else if k < 24 then .inl (cI, 12, .inl (fun j => nI (M (11 + 3 * (k - 19)) j)))
  else .inl (cI, 3, .inl (fun j => nI (M (12 + 3 * (k - 24)) j)))
theorem wcE_pump {ad : Nat → Nat} {cI cJ cQ : ClassId} {M : Mdl} {ts : Nat → Nat} {pu : Nat → Int64} {w : Nat} (h : w < 8) : wcE ad cI cJ cQ M ts pu (11 + w) = .inl (cI, 36, .inl (fun j => nI (M (10 + 3 * w) j))) := by
  unfold wcE
  rw [if_neg (by omega), if_neg (by omega), if_neg (by omega), if_neg (by omega), if_neg (by omega), if_neg (by omega), if_neg (by omega), if_neg (by omega), if_neg (by omega), if_neg (by omega), if_neg (by omega), if_pos (by omega), Nat.add_sub_cancel_left]
theorem wcE_tab {ad : Nat → Nat} {cI cJ cQ : ClassId} {M : Mdl} {ts : Nat → Nat} {pu : Nat → Int64} {w : Nat} (h : w < 5) : wcE ad cI cJ cQ M ts pu (19 + w) = .inl (cI, 12, .inl (fun j => nI (M (11 + 3 * w) j))) := by
  unfold wcE
  rw [if_neg (by omega), if_neg (by omega), if_neg (by omega), if_neg (by omega), if_neg (by omega), if_neg (by omega), if_neg (by omega), if_neg (by omega), if_neg (by omega), if_neg (by omega), if_neg (by omega), if_neg (by omega), if_pos (by omega), Nat.add_sub_cancel_left]
theorem wcE_rat {ad : Nat → Nat} {cI cJ cQ : ClassId} {M : Mdl} {ts : Nat → Nat} {pu : Nat → Int64} {w : Nat} (h : w < 3) : wcE ad cI cJ cQ M ts pu (24 + w) = .inl (cI, 3, .inl (fun j => nI (M (12 + 3 * w) j))) := by
  unfold wcE
  rw [if_neg (by omega), if_neg (by omega), if_neg (by omega), if_neg (by omega), if_neg (by omega), if_neg (by omega), if_neg (by omega), if_neg (by omega), if_neg (by omega), if_neg (by omega), if_neg (by omega), if_neg (by omega), if_neg (by omega), Nat.add_sub_cancel_left]
/-- what the numbers keep to -/
def Inv (M : Mdl) : Prop := M 0 0 ≤ 8 ∧ M 5 0 ≤ 4 ∧ (∀ i, M 1 i ≤ 99) ∧ (∀ i, M 2 i ≤ 2) ∧ (∀ i, M 3 i ≤ 20000) ∧ (∀ w, w < 8 → ∀ i, M (10 + 3 * w) i ≤ 1000) ∧ (∀ i, M 6 i ≤ 99) ∧ (∀ i, M 7 i ≤ 10000) ∧ (∀ r, r < 5 → ∀ i, M (11 + 3 * r) i ≤ 1000) ∧ ∀ f, f < 3 → ∀ i, M (12 + 3 * f) i ≤ 200
theorem Inv.nw {M : Mdl} (h : Inv M) : M 0 0 ≤ 8 := h.1
theorem Inv.nv {M : Mdl} (h : Inv M) : M 5 0 ≤ 4 := h.2.1
theorem Inv.pl {M : Mdl} (h : Inv M) : ∀ i, M 1 i ≤ 99 := h.2.2.1
theorem Inv.zo {M : Mdl} (h : Inv M) : ∀ i, M 2 i ≤ 2 := h.2.2.2.1
theorem Inv.li {M : Mdl} (h : Inv M) : ∀ i, M 3 i ≤ 20000 := h.2.2.2.2.1
theorem Inv.un {M : Mdl} (h : Inv M) : ∀ w, w < 8 → ∀ i, M (10 + 3 * w) i ≤ 1000 := h.2.2.2.2.2.1
theorem Inv.sp {M : Mdl} (h : Inv M) : ∀ i, M 6 i ≤ 99 := h.2.2.2.2.2.2.1
theorem Inv.lm {M : Mdl} (h : Inv M) : ∀ i, M 7 i ≤ 10000 := h.2.2.2.2.2.2.2.1
theorem Inv.tb {M : Mdl} (h : Inv M) : ∀ r, r < 5 → ∀ i, M (11 + 3 * r) i ≤ 1000 := h.2.2.2.2.2.2.2.2.1
theorem Inv.ra {M : Mdl} (h : Inv M) : ∀ f, f < 3 → ∀ i, M (12 + 3 * f) i ≤ 200 := h.2.2.2.2.2.2.2.2.2
/-- what a class method finds: the tables' word on the classes, and the object -/
def KP0 (D : va_G) (ad : Nat → Nat) (cI cJ cQ : ClassId) (M : Mdl) (ts : Nat → Nat) (pu : Nat → Int64) (U : State) : Prop :=
  va_K D vwCl [(cI, .int), (cJ, .long), (cQ, .array .int)] U ∧ va_P D vwCl (wz 27 ad (wcE ad cI cJ cQ M ts pu)) U.heap
section ZR
variable {p : Program} {l : Launch} {e : Env} {R : Room} {s : State} {m : MethodId} {args : Array Value} {below : List Frame} {meth : Method} {c : Code} {H : Heap} {locs : List Loc} {cells slots : Nat} {Q : State → Prop}
variable {cc : ByteArray} {pc : Nat} {ls : Array Slot} {rest : List Value} {D : va_G} {cl : List vw_C} {tys : List (ClassId × FieldType)} {n : Nat} {ad : Nat → Nat} {F : Nat → va_E} {A : Nat → Prop} {H0 : Heap}
theorem zi_ld (hx : p.tables.exec = Jvm.exec) (hb : c.code = cc) (hK : va_K D cl tys s) (hP : va_P D cl (wz n ad F) H) (k : Nat) (hk : k < n) (t0 : Nat) {cA : ClassId} {len : Nat} {f : Nat → Int32} (hF : F k = .inl (cA, len, .inl f)) (ht : tys[t0]? = some (cA, .int)) (hl : len ≤ 1000) {i : Nat} (hi : i < len) {v : Int32} (hv : f i = v) (hdg : decode cc pc = .ok (.iaload, 1))
    (kk : W p l e R s m args below meth c H locs cells slots Q (F0 m (pc + 1) ls (.int v :: rest))) : W p l e R s m args below meth c H locs cells slots Q (F0 m pc ls (.int (nI i) :: .ref (ad k) :: rest)) := by
  have h := wz_at (ad := ad) (F := F) hk
  rw [hF] at h
  refine va_iald hx hb hK hP k t0 h ht (vp_in_nI hi (by omega)) hdg ?_
  rw [nI_clamp (by omega), hv]
  exact kk
theorem zl_ld (hx : p.tables.exec = Jvm.exec) (hb : c.code = cc) (hK : va_K D cl tys s) (hP : va_P D cl (wz n ad F) H) (k : Nat) (hk : k < n) (t0 : Nat) {cA : ClassId} {len : Nat} {f : Nat → Int64} (hF : F k = .inl (cA, len, .inr (.inl f))) (ht : tys[t0]? = some (cA, .long)) (hl : len ≤ 1000) {i : Nat} (hi : i < len) {v : Int64} (hv : f i = v) (hdg : decode cc pc = .ok (.laload, 1))
    (kk : W p l e R s m args below meth c H locs cells slots Q (F0 m (pc + 1) ls (.long v :: rest))) : W p l e R s m args below meth c H locs cells slots Q (F0 m pc ls (.int (nI i) :: .ref (ad k) :: rest)) := by
  have h := wz_at (ad := ad) (F := F) hk
  rw [hF] at h
  refine va_lald hx hb hK hP k t0 h ht (vp_in_nI hi (by omega)) hdg ?_
  rw [nI_clamp (by omega), hv]
  exact kk
theorem zq_ld (hx : p.tables.exec = Jvm.exec) (hb : c.code = cc) (hK : va_K D cl tys s) (hP : va_P D cl (wz n ad F) H) (k : Nat) (hk : k < n) (t0 : Nat) {cA : ClassId} {ty : FieldType} {len : Nat} {f : Nat → Option Nat} (hF : F k = .inl (cA, len, .inr (.inr (.inr (.inr f))))) (ht : tys[t0]? = some (cA, .array ty)) (hl : len ≤ 1000) {i : Nat} (hi : i < len) {a : Nat} (hv : f i = some a) (hdg : decode cc pc = .ok (.aaload, 1))
    (kk : W p l e R s m args below meth c H locs cells slots Q (F0 m (pc + 1) ls (.ref a :: rest))) : W p l e R s m args below meth c H locs cells slots Q (F0 m pc ls (.int (nI i) :: .ref (ad k) :: rest)) := by
  have h := wz_at (ad := ad) (F := F) hk
  rw [hF] at h
  have hin := vp_in_nI hi (show len < 2 ^ 31 by omega)
  have hc : (nI i).toNatClampNeg = i := nI_clamp (by omega)
  refine W.aald (v := .ref a) (ty := .array ty) hx hb (hP k _ h) ((hK.2 t0 _ ht).1 len (fun j => va_rf (f j))) rfl (fun q => by cases q) (by show ¬ ((nI i) < 0 ∨ (arrV _ _ _).slots.size ≤ _); rw [arrV_size]; exact hin) (by show (arrV _ _ _).slots[_]? = _; rw [hc, arrV_read _ _ hi, hv]; rfl) rfl rfl hdg kk
theorem zi_st (hx : p.tables.exec = Jvm.exec) (hb : c.code = cc) (hK : va_K D cl tys s) (hP : va_P D cl (wz n ad F) H) (hnd : ndz n ad) (hA : ∀ i, i < n → A (ad i)) (hS : va_S A H0 H locs) (k : Nat) (hk : k < n) (t0 : Nat) {cA : ClassId} {len : Nat} {f : Nat → Int32} (hF : F k = .inl (cA, len, .inl f)) (ht : tys[t0]? = some (cA, .int)) (hl : len ≤ 1000) {i : Nat} (hi : i < len) {x : Int32} (G : Nat → va_E) (hG : ∀ j, j < n → va_up F k (.inl (cA, len, .inl (upd f i x))) j = G j) (hdg : decode cc pc = .ok (.iastore, 1))
    (kk : ∀ (H1 : Heap) (locs1 : List Loc), va_P D cl (wz n ad G) H1 → va_S A H0 H1 locs1 → W p l e R s m args below meth c H1 locs1 cells slots Q (F0 m (pc + 1) ls rest)) : W p l e R s m args below meth c H locs cells slots Q (F0 m pc ls (.int x :: .int (nI i) :: .ref (ad k) :: rest)) := by
  have h := wz_at (ad := ad) (F := F) hk
  rw [hF] at h
  refine va_iast hx hb hK hP (wz_D hnd hA) hS k t0 h ht (vp_in_nI hi (by omega)) hdg (fun H1 locs1 hP1 _ hS1 => ?_)
  rw [nI_clamp (by omega), wz_set hk, wz_ext hG] at hP1
  exact kk H1 locs1 hP1 hS1
theorem zl_st (hx : p.tables.exec = Jvm.exec) (hb : c.code = cc) (hK : va_K D cl tys s) (hP : va_P D cl (wz n ad F) H) (hnd : ndz n ad) (hA : ∀ i, i < n → A (ad i)) (hS : va_S A H0 H locs) (k : Nat) (hk : k < n) (t0 : Nat) {cA : ClassId} {len : Nat} {f : Nat → Int64} (hF : F k = .inl (cA, len, .inr (.inl f))) (ht : tys[t0]? = some (cA, .long)) (hl : len ≤ 1000) {i : Nat} (hi : i < len) {x : Int64} (G : Nat → va_E) (hG : ∀ j, j < n → va_up F k (.inl (cA, len, .inr (.inl (vp_updL f i x)))) j = G j) (hdg : decode cc pc = .ok (.lastore, 1))
    (kk : ∀ (H1 : Heap) (locs1 : List Loc), va_P D cl (wz n ad G) H1 → va_S A H0 H1 locs1 → W p l e R s m args below meth c H1 locs1 cells slots Q (F0 m (pc + 1) ls rest)) : W p l e R s m args below meth c H locs cells slots Q (F0 m pc ls (.long x :: .int (nI i) :: .ref (ad k) :: rest)) := by
  have h := wz_at (ad := ad) (F := F) hk
  rw [hF] at h
  refine va_last hx hb hK hP (wz_D hnd hA) hS k t0 h ht (vp_in_nI hi (by omega)) hdg (fun H1 locs1 hP1 _ hS1 => ?_)
  rw [nI_clamp (by omega), wz_set hk, wz_ext hG] at hP1
  exact kk H1 locs1 hP1 hS1
theorem zg0 (hx : p.tables.exec = Jvm.exec) (hb : c.code = cc) (hw0 : ∀ w ∈ wsX00, w.before args s = true) (hown : s.vm.findClass RX0 = some m.cls) (hK : va_K D vwCl tys s) (hP : va_P D vwCl (wz n ad F) H) (hn : 0 < n) {fs : List Value} (hF : F 0 = .inr (0, fs)) (k : Nat) (hk : k < 12) {index : Nat} (hlink : (Cond.fieldLink RX0 index RX0 (TX0 k).2.1 (TX0 k).2.2.1).before args s = true) (hsame : (TX0 k).1 = RX0) {v : Value} (hv : fs[k]? = some v) (hdg : decode cc pc = .ok (.getfield index, 3))
    (kk : W p l e R s m args below meth c H locs cells slots Q (F0 m (pc + 3) ls (v :: rest))) : W p l e R s m args below meth c H locs cells slots Q (F0 m pc ls (.ref (ad 0) :: rest)) := by
  have h := wz_at (ad := ad) (F := F) hn
  rw [hF] at h
  exact va_get (own := RX0) (ref := RX0) (C := RX0) (T := TX0) (N := 12) hx hb (Ts := wsX00) hw0 (fun _ h => h) hown hK hP 0 h rfl k hk hlink (fun x hx => by rw [hsame] at hx; exact hx) hv hdg kk
theorem zp0 (hx : p.tables.exec = Jvm.exec) (hb : c.code = cc) (hw0 : ∀ w ∈ wsX00, w.before args s = true) (hown : s.vm.findClass RX0 = some m.cls) (hK : va_K D vwCl tys s) (hP : va_P D vwCl (wz n ad F) H) (hnd : ndz n ad) (hA : ∀ i, i < n → A (ad i)) (hS : va_S A H0 H locs) (hn : 0 < n) {fs : List Value} (hF : F 0 = .inr (0, fs)) (k : Nat) (hk : k < 12) {index : Nat} (hlink : (Cond.fieldLink RX0 index RX0 (TX0 k).2.1 (TX0 k).2.2.1).before args s = true) (hsame : (TX0 k).1 = RX0) (hfin : (TX0 k).2.2.2 = false) (hd : parseFieldDescriptor (TX0 k).2.2.1 = some .int) {x : Int32} (hl : k < fs.length) (G : Nat → va_E) (hG : ∀ j, j < n → va_up F 0 (.inr (0, fs.set k (.int x))) j = G j) (hdg : decode cc pc = .ok (.putfield index, 3))
    (kk : ∀ (H1 : Heap) (locs1 : List Loc), va_P D vwCl (wz n ad G) H1 → va_S A H0 H1 locs1 → W p l e R s m args below meth c H1 locs1 cells slots Q (F0 m (pc + 3) ls rest)) : W p l e R s m args below meth c H locs cells slots Q (F0 m pc ls (.int x :: .ref (ad 0) :: rest)) := by
  have h := wz_at (ad := ad) (F := F) hn
  rw [hF] at h
  refine va_put (own := RX0) (ref := RX0) (C := RX0) (T := TX0) (N := 12) (ty := .int) hx hb (Ts := wsX00) hw0 (fun _ h => h) tyX0 tyX0_ok nmX0 hown hK hP (wz_D hnd hA) hS 0 h rfl k hk hlink (fun x hx => by rw [hsame] at hx; exact hx) hfin hd rfl rfl hl hdg (fun H1 locs1 hP1 _ hS1 => ?_)
  rw [wz_set hn, wz_ext hG] at hP1
  exact kk H1 locs1 hP1 hS1
/-! numbers on the stack -/
theorem zt_i {x y : Int32} (h : x = y) (k : W p l e R s m args below meth c H locs cells slots Q (F0 m pc ls (.int y :: rest))) : W p l e R s m args below meth c H locs cells slots Q (F0 m pc ls (.int x :: rest)) := h ▸ k
theorem zt_l {x y : Int64} (h : x = y) (k : W p l e R s m args below meth c H locs cells slots Q (F0 m pc ls (.long y :: rest))) : W p l e R s m args below meth c H locs cells slots Q (F0 m pc ls (.long x :: rest)) := h ▸ k
theorem zn_inc (a : Nat) : nI a + Int32.ofInt 1 = nI (a + 1) := by
  rw [show Int32.ofInt 1 = 1 from by decide]
  exact nI_1 a
theorem zn_dec (a : Nat) : nI (a + 1) + Int32.ofInt (-1) = nI a := by
  rw [show Int32.ofInt (-1) = -1 from by decide]
  exact pk_m1 a
theorem zr_iadd (hx : p.tables.exec = Jvm.exec) (hb : c.code = cc) {a b : Nat} (hdg : decode cc pc = .ok (.iadd, 1)) (k : W p l e R s m args below meth c H locs cells slots Q (F0 m (pc + 1) ls (.int (nI (a + b)) :: rest))) : W p l e R s m args below meth c H locs cells slots Q (F0 m pc ls (.int (nI b) :: .int (nI a) :: rest)) := by
  refine lv_iadd hx hb hdg ?_
  rw [nI_add]
  exact k
theorem zr_imul (hx : p.tables.exec = Jvm.exec) (hb : c.code = cc) {a b : Nat} (hdg : decode cc pc = .ok (.imul, 1)) (k : W p l e R s m args below meth c H locs cells slots Q (F0 m (pc + 1) ls (.int (nI (a * b)) :: rest))) : W p l e R s m args below meth c H locs cells slots Q (F0 m pc ls (.int (nI b) :: .int (nI a) :: rest)) := by
  refine lv_imul hx hb hdg ?_
  rw [pk_mul]
  exact k
theorem zr_isub (hx : p.tables.exec = Jvm.exec) (hb : c.code = cc) {a b : Nat} (hle : b ≤ a) (hdg : decode cc pc = .ok (.isub, 1)) (k : W p l e R s m args below meth c H locs cells slots Q (F0 m (pc + 1) ls (.int (nI (a - b)) :: rest))) : W p l e R s m args below meth c H locs cells slots Q (F0 m pc ls (.int (nI b) :: .int (nI a) :: rest)) := by
  refine lv_isub hx hb hdg ?_
  rw [pk_sub hle]
  exact k
theorem zr_idiv (hx : p.tables.exec = Jvm.exec) (hb : c.code = cc) {a b : Nat} (ha : a < 2 ^ 31) (h0 : 0 < b) (hb2 : b < 2 ^ 31) (hdg : decode cc pc = .ok (.idiv, 1)) (k : W p l e R s m args below meth c H locs cells slots Q (F0 m (pc + 1) ls (.int (nI (a / b)) :: rest))) : W p l e R s m args below meth c H locs cells slots Q (F0 m pc ls (.int (nI b) :: .int (nI a) :: rest)) := by
  refine lv_idiv hx hb hdg (nI_ne0 h0 hb2) ?_
  rw [pk_div ha h0 hb2]
  exact k
theorem zr_ladd (hx : p.tables.exec = Jvm.exec) (hb : c.code = cc) {a b : Nat} (hdg : decode cc pc = .ok (.ladd, 1)) (k : W p l e R s m args below meth c H locs cells slots Q (F0 m (pc + 1) ls (.long (lN (a + b)) :: rest))) : W p l e R s m args below meth c H locs cells slots Q (F0 m pc ls (.long (lN b) :: .long (lN a) :: rest)) := by
  refine lv_ladd hx hb hdg ?_
  rw [lN_add]
  exact k
theorem zr_lmul (hx : p.tables.exec = Jvm.exec) (hb : c.code = cc) {a b : Nat} (hdg : decode cc pc = .ok (.lmul, 1)) (k : W p l e R s m args below meth c H locs cells slots Q (F0 m (pc + 1) ls (.long (lN (a * b)) :: rest))) : W p l e R s m args below meth c H locs cells slots Q (F0 m pc ls (.long (lN b) :: .long (lN a) :: rest)) := by
  refine lv_lmul hx hb hdg ?_
  rw [lN_mul]
  exact k
theorem zr_ldiv (hx : p.tables.exec = Jvm.exec) (hb : c.code = cc) {a b : Nat} (ha : a < 2 ^ 63) (h0 : 0 < b) (hb2 : b < 2 ^ 63) (hdg : decode cc pc = .ok (.ldiv, 1)) (k : W p l e R s m args below meth c H locs cells slots Q (F0 m (pc + 1) ls (.long (lN (a / b)) :: rest))) : W p l e R s m args below meth c H locs cells slots Q (F0 m pc ls (.long (lN b) :: .long (lN a) :: rest)) := by
  refine lv_ldiv hx hb hdg (fun q => ?_) ?_
  · have h1 := (pk_lEQ hb2 (show 0 < 2 ^ 63 by decide)).mp (q.trans (show (0 : Int64) = lN 0 from rfl))
    omega
  · rw [pk_lDiv ha h0 hb2]
    exact k
theorem zr_i2l (hx : p.tables.exec = Jvm.exec) (hb : c.code = cc) {a : Nat} (ha : a < 2 ^ 31) (hdg : decode cc pc = .ok (.i2l, 1)) (k : W p l e R s m args below meth c H locs cells slots Q (F0 m (pc + 1) ls (.long (lN a) :: rest))) : W p l e R s m args below meth c H locs cells slots Q (F0 m pc ls (.int (nI a) :: rest)) :=
  lv_i2l hx hb hdg (nI_l ha) k
theorem zr_l2i (hx : p.tables.exec = Jvm.exec) (hb : c.code = cc) {a : Nat} (hdg : decode cc pc = .ok (.l2i, 1)) (k : W p l e R s m args below meth c H locs cells slots Q (F0 m (pc + 1) ls (.int (nI a) :: rest))) : W p l e R s m args below meth c H locs cells slots Q (F0 m pc ls (.long (lN a) :: rest)) :=
  lv_l2i hx hb hdg (lN_i a) k
theorem zb_ge (hx : p.tables.exec = Jvm.exec) (hb : c.code = cc) {a b : Nat} {off : Int} {tgt : Nat} (ha : a < 2 ^ 31) (hb2 : b < 2 ^ 31) (hdg : decode cc pc = .ok (.if_icmp .ge off, 3)) (ht : (pc : Int) + off = (tgt : Int))
    (kt : b ≤ a → W p l e R s m args below meth c H locs cells slots Q (F0 m tgt ls rest)) (kf : a < b → W p l e R s m args below meth c H locs cells slots Q (F0 m (pc + 3) ls rest)) : W p l e R s m args below meth c H locs cells slots Q (F0 m pc ls (.int (nI b) :: .int (nI a) :: rest)) :=
  lv_icmp_ge hx hb hdg ht (fun h => kt ((nI_leI hb2 ha).mp h)) (fun h => kf (Nat.not_le.mp fun q => h ((nI_leI hb2 ha).mpr q)))
theorem zb_lt (hx : p.tables.exec = Jvm.exec) (hb : c.code = cc) {a b : Nat} {off : Int} {tgt : Nat} (ha : a < 2 ^ 31) (hb2 : b < 2 ^ 31) (hdg : decode cc pc = .ok (.if_icmp .lt off, 3)) (ht : (pc : Int) + off = (tgt : Int))
    (kt : a < b → W p l e R s m args below meth c H locs cells slots Q (F0 m tgt ls rest)) (kf : b ≤ a → W p l e R s m args below meth c H locs cells slots Q (F0 m (pc + 3) ls rest)) : W p l e R s m args below meth c H locs cells slots Q (F0 m pc ls (.int (nI b) :: .int (nI a) :: rest)) :=
  lv_icmp_lt hx hb hdg ht (fun h => kt ((nI_ltI ha hb2).mp h)) (fun h => kf (Nat.not_lt.mp fun q => h ((nI_ltI ha hb2).mpr q)))
theorem zb_gt (hx : p.tables.exec = Jvm.exec) (hb : c.code = cc) {a b : Nat} {off : Int} {tgt : Nat} (ha : a < 2 ^ 31) (hb2 : b < 2 ^ 31) (hdg : decode cc pc = .ok (.if_icmp .gt off, 3)) (ht : (pc : Int) + off = (tgt : Int))
    (kt : b < a → W p l e R s m args below meth c H locs cells slots Q (F0 m tgt ls rest)) (kf : a ≤ b → W p l e R s m args below meth c H locs cells slots Q (F0 m (pc + 3) ls rest)) : W p l e R s m args below meth c H locs cells slots Q (F0 m pc ls (.int (nI b) :: .int (nI a) :: rest)) :=
  lv_icmp_gt hx hb hdg ht (fun h => kt ((nI_ltI hb2 ha).mp h)) (fun h => kf (Nat.not_lt.mp fun q => h ((nI_ltI hb2 ha).mpr q)))
theorem zb_le (hx : p.tables.exec = Jvm.exec) (hb : c.code = cc) {a b : Nat} {off : Int} {tgt : Nat} (ha : a < 2 ^ 31) (hb2 : b < 2 ^ 31) (hdg : decode cc pc = .ok (.if_icmp .le off, 3)) (ht : (pc : Int) + off = (tgt : Int))
    (kt : a ≤ b → W p l e R s m args below meth c H locs cells slots Q (F0 m tgt ls rest)) (kf : b < a → W p l e R s m args below meth c H locs cells slots Q (F0 m (pc + 3) ls rest)) : W p l e R s m args below meth c H locs cells slots Q (F0 m pc ls (.int (nI b) :: .int (nI a) :: rest)) :=
  lv_icmp_le hx hb hdg ht (fun h => kt ((nI_leI ha hb2).mp h)) (fun h => kf (Nat.not_le.mp fun q => h ((nI_leI ha hb2).mpr q)))
theorem zb_eq (hx : p.tables.exec = Jvm.exec) (hb : c.code = cc) {a b : Nat} {off : Int} {tgt : Nat} (ha : a < 2 ^ 31) (hb2 : b < 2 ^ 31) (hdg : decode cc pc = .ok (.if_icmp .eq off, 3)) (ht : (pc : Int) + off = (tgt : Int))
    (kt : a = b → W p l e R s m args below meth c H locs cells slots Q (F0 m tgt ls rest)) (kf : a ≠ b → W p l e R s m args below meth c H locs cells slots Q (F0 m (pc + 3) ls rest)) : W p l e R s m args below meth c H locs cells slots Q (F0 m pc ls (.int (nI b) :: .int (nI a) :: rest)) :=
  lv_icmp_eq hx hb hdg ht (fun h => kt ((nI_eq ha hb2).mp h)) (fun h => kf (fun q => h ((nI_eq ha hb2).mpr q)))
theorem zb_ne (hx : p.tables.exec = Jvm.exec) (hb : c.code = cc) {a b : Nat} {off : Int} {tgt : Nat} (ha : a < 2 ^ 31) (hb2 : b < 2 ^ 31) (hdg : decode cc pc = .ok (.if_icmp .ne off, 3)) (ht : (pc : Int) + off = (tgt : Int))
    (kt : a ≠ b → W p l e R s m args below meth c H locs cells slots Q (F0 m tgt ls rest)) (kf : a = b → W p l e R s m args below meth c H locs cells slots Q (F0 m (pc + 3) ls rest)) : W p l e R s m args below meth c H locs cells slots Q (F0 m pc ls (.int (nI b) :: .int (nI a) :: rest)) :=
  lv_icmp_ne hx hb hdg ht (fun h => kt (fun q => h ((nI_eq ha hb2).mpr q))) (fun h => kf ((nI_eq ha hb2).mp h))
theorem zb_0le (hx : p.tables.exec = Jvm.exec) (hb : c.code = cc) {a : Nat} {off : Int} {tgt : Nat} (ha : a < 2 ^ 31) (hdg : decode cc pc = .ok (.ifCond .le off, 3)) (ht : (pc : Int) + off = (tgt : Int))
    (kt : a = 0 → W p l e R s m args below meth c H locs cells slots Q (F0 m tgt ls rest)) (kf : 0 < a → W p l e R s m args below meth c H locs cells slots Q (F0 m (pc + 3) ls rest)) : W p l e R s m args below meth c H locs cells slots Q (F0 m pc ls (.int (nI a) :: rest)) :=
  lv_if_le hx hb hdg ht (fun h => kt (by have h1 : a ≤ 0 := (nI_leI ha (by decide)).mp h; omega)) (fun h => kf (by rcases Nat.lt_or_ge 0 a with q | q; exact q; exact absurd ((nI_leI ha (by decide)).mpr q) h))
theorem zb_0eq (hx : p.tables.exec = Jvm.exec) (hb : c.code = cc) {a : Nat} {off : Int} {tgt : Nat} (ha : a < 2 ^ 31) (hdg : decode cc pc = .ok (.ifCond .eq off, 3)) (ht : (pc : Int) + off = (tgt : Int))
    (kt : a = 0 → W p l e R s m args below meth c H locs cells slots Q (F0 m tgt ls rest)) (kf : a ≠ 0 → W p l e R s m args below meth c H locs cells slots Q (F0 m (pc + 3) ls rest)) : W p l e R s m args below meth c H locs cells slots Q (F0 m pc ls (.int (nI a) :: rest)) :=
  lv_if_eq hx hb hdg ht (fun h => kt ((nI_eq ha (by decide)).mp h)) (fun h => kf (fun q => h ((nI_eq ha (by decide)).mpr q)))
theorem zb_0ne (hx : p.tables.exec = Jvm.exec) (hb : c.code = cc) {a : Nat} {off : Int} {tgt : Nat} (ha : a < 2 ^ 31) (hdg : decode cc pc = .ok (.ifCond .ne off, 3)) (ht : (pc : Int) + off = (tgt : Int))
    (kt : a ≠ 0 → W p l e R s m args below meth c H locs cells slots Q (F0 m tgt ls rest)) (kf : a = 0 → W p l e R s m args below meth c H locs cells slots Q (F0 m (pc + 3) ls rest)) : W p l e R s m args below meth c H locs cells slots Q (F0 m pc ls (.int (nI a) :: rest)) :=
  lv_if_ne hx hb hdg ht (fun h => kt (fun q => h ((nI_eq ha (by decide)).mpr q))) (fun h => kf ((nI_eq ha (by decide)).mp h))
/-! truth on the stack -/
def bB (b : Bool) : Int32 := if b = true then 1 else 0
theorem bB_t : bB true = 1 := rfl
theorem bB_f : bB false = 0 := rfl
theorem bB_of {b : Bool} {P : Prop} (h : b = true ↔ P) (hp : P) : (1 : Int32) = bB b := by rw [h.mpr hp]; rfl
theorem bB_nar (b : Bool) : narrow .boolean (.int (bB b)) = .int (bB b) := by cases b <;> rfl
theorem zb_Beq (hx : p.tables.exec = Jvm.exec) (hb : c.code = cc) {b : Bool} {off : Int} {tgt : Nat} (hdg : decode cc pc = .ok (.ifCond .eq off, 3)) (ht : (pc : Int) + off = (tgt : Int))
    (kt : b = false → W p l e R s m args below meth c H locs cells slots Q (F0 m tgt ls rest)) (kf : b = true → W p l e R s m args below meth c H locs cells slots Q (F0 m (pc + 3) ls rest)) : W p l e R s m args below meth c H locs cells slots Q (F0 m pc ls (.int (bB b) :: rest)) := by
  refine lv_if_eq hx hb hdg ht (fun h => kt ?_) (fun h => kf ?_)
  · cases b
    · rfl
    · exact absurd h (by decide)
  · cases b
    · exact absurd rfl h
    · rfl
theorem zb_Bne (hx : p.tables.exec = Jvm.exec) (hb : c.code = cc) {b : Bool} {off : Int} {tgt : Nat} (hdg : decode cc pc = .ok (.ifCond .ne off, 3)) (ht : (pc : Int) + off = (tgt : Int))
    (kt : b = true → W p l e R s m args below meth c H locs cells slots Q (F0 m tgt ls rest)) (kf : b = false → W p l e R s m args below meth c H locs cells slots Q (F0 m (pc + 3) ls rest)) : W p l e R s m args below meth c H locs cells slots Q (F0 m pc ls (.int (bB b) :: rest)) := by
  refine lv_if_ne hx hb hdg ht (fun h => kt ?_) (fun h => kf ?_)
  · cases b
    · exact absurd rfl h
    · rfl
  · cases b
    · rfl
    · exact absurd h (by decide)
/-- lcmp, then a branch -/
theorem zb_lle (hx : p.tables.exec = Jvm.exec) (hb : c.code = cc) {x y : Int64} {off : Int} {tgt : Nat} (hd0 : decode cc pc = .ok (.lcmp, 1)) (hdg : decode cc (pc + 1) = .ok (.ifCond .le off, 3)) (ht : (pc : Int) + 1 + off = (tgt : Int))
    (kt : x ≤ y → W p l e R s m args below meth c H locs cells slots Q (F0 m tgt ls rest)) (kf : y < x → W p l e R s m args below meth c H locs cells slots Q (F0 m (pc + 4) ls rest)) : W p l e R s m args below meth c H locs cells slots Q (F0 m pc ls (.long y :: .long x :: rest)) := by
  refine W.lcmp hx hb hd0 ?_
  refine lv_if_le hx hb hdg (by omega) (fun h => kt ((lg_cmp_le x y).mp h)) (fun h => kf ?_)
  have h1 : ¬ x ≤ y := fun q => h ((lg_cmp_le x y).mpr q)
  rw [Int64.le_iff_toInt_le] at h1
  rw [Int64.lt_iff_toInt_lt]
  omega
theorem zb_lge (hx : p.tables.exec = Jvm.exec) (hb : c.code = cc) {x y : Int64} {off : Int} {tgt : Nat} (hd0 : decode cc pc = .ok (.lcmp, 1)) (hdg : decode cc (pc + 1) = .ok (.ifCond .ge off, 3)) (ht : (pc : Int) + 1 + off = (tgt : Int))
    (kt : y ≤ x → W p l e R s m args below meth c H locs cells slots Q (F0 m tgt ls rest)) (kf : x < y → W p l e R s m args below meth c H locs cells slots Q (F0 m (pc + 4) ls rest)) : W p l e R s m args below meth c H locs cells slots Q (F0 m pc ls (.long y :: .long x :: rest)) := by
  refine W.lcmp hx hb hd0 ?_
  refine lv_if_ge hx hb hdg (by omega) (fun h => kt ((lg_cmp_ge x y).mp h)) (fun h => kf ?_)
  have h1 : ¬ y ≤ x := fun q => h ((lg_cmp_ge x y).mpr q)
  rw [Int64.le_iff_toInt_le] at h1
  rw [Int64.lt_iff_toInt_lt]
  omega
theorem lv_cast {nL : Nat} {l1 l2 : List (Nat × Value)} (h : lv_has ls nL l1) (e : l1 = l2) : lv_has ls nL l2 := e ▸ h
/-! a method's own ground -/
def Cx (p : Program) (s : State) (m : MethodId) (args : Array Value) (meth : Method) (c : Code) (cc : ByteArray) (maxL : Nat) (ret : Option FieldType) (ws : List Cond) (own : String) : Prop :=
  p.tables.exec = Jvm.exec ∧ c.code = cc ∧ meth.sig.returnType = ret ∧ c.maxLocals = maxL ∧ s.vm.findClass own = some m.cls ∧ (∀ w ∈ ws, w.before args s = true) ∧ meth.locks = false
end ZR
/-- rooms: reading methods (k: how deep they call), throwing ones -/
def rmP (k : Nat) : Room := { frames := k, cells := 0, slots := 0, locals := 32 * k }
def rmX (k n : Nat) : Room := { frames := 6 + k, cells := n, slots := 6 * n, locals := 170 + 32 * k }
section MK
variable {l : Launch} {y : MethodName} {ws ws' : List Cond} {rm : Room} {cc : ByteArray} {maxL : Nat} {av : List Value} {B : State → Prop}
theorem mk_Si {post : Int32 → Prop} (hy : plainName y.cls = true) (hw : ws = Cond.code y cc maxL (some .int) :: ws') (hn : (lg_sl av).length ≤ maxL)
    (body : ∀ {p : Program} {e : Env} {s : State} {m : MethodId} {args : Array Value} {below : List Frame} {meth : Method} {c : Code} (Q : State → Prop), Cx p s m args meth c cc maxL (some .int) ws y.cls → B s →
      (∀ {v : Int32} {pc : Nat} {ls : Array Slot}, post v → decode cc pc = .ok (.ireturn, 1) → W p l e rm s m args below meth c s.heap [] 0 0 Q (F0 m pc ls [.int v])) →
      ∀ ls : Array Slot, lv_has ls maxL (lv_args 0 av) → W p l e rm s m args below meth c s.heap [] 0 0 Q (F0 m 0 ls [])) : Met l y ws rm (va_Pc av B) (vp_Si post) 0 0 (fun _ => False) := by
  refine Met.ofW (cc := cc) (maxL := maxL) (ret := some .int) hy hw ?_
  intro p e s m args below meth c s₁ X hml hv
  obtain ⟨rfl, hB⟩ := hv
  have hl := lv_entry av (n := maxL) hn
  rw [lg_entry_eq]
  generalize (lg_sl av ++ List.replicate (maxL - (lg_sl av).length) Slot.unset).toArray = ls at hl ⊢
  exact body _ ⟨X.exec, X.bytes, X.returns, hml, findClass_of_methodNamed X.named, atoms_spec (ws := ws) X.pre, X.notSynchronized⟩ hB (fun hp hd => W.iret X.exec X.bytes X.returns (fun t ht hW => ⟨_, rfl, hp, ht⟩) (fun q h => by cases h) hd X.notSynchronized) ls hl
theorem mk_Sl {post : Int64 → Prop} (hy : plainName y.cls = true) (hw : ws = Cond.code y cc maxL (some .long) :: ws') (hn : (lg_sl av).length ≤ maxL)
    (body : ∀ {p : Program} {e : Env} {s : State} {m : MethodId} {args : Array Value} {below : List Frame} {meth : Method} {c : Code} (Q : State → Prop), Cx p s m args meth c cc maxL (some .long) ws y.cls → B s →
      (∀ {v : Int64} {pc : Nat} {ls : Array Slot}, post v → decode cc pc = .ok (.lreturn, 1) → W p l e rm s m args below meth c s.heap [] 0 0 Q (F0 m pc ls [.long v])) →
      ∀ ls : Array Slot, lv_has ls maxL (lv_args 0 av) → W p l e rm s m args below meth c s.heap [] 0 0 Q (F0 m 0 ls [])) : Met l y ws rm (va_Pc av B) (vp_Sl post) 0 0 (fun _ => False) := by
  refine Met.ofW (cc := cc) (maxL := maxL) (ret := some .long) hy hw ?_
  intro p e s m args below meth c s₁ X hml hv
  obtain ⟨rfl, hB⟩ := hv
  have hl := lv_entry av (n := maxL) hn
  rw [lg_entry_eq]
  generalize (lg_sl av ++ List.replicate (maxL - (lg_sl av).length) Slot.unset).toArray = ls at hl ⊢
  exact body _ ⟨X.exec, X.bytes, X.returns, hml, findClass_of_methodNamed X.named, atoms_spec (ws := ws) X.pre, X.notSynchronized⟩ hB (fun hp hd => W.lret X.exec X.bytes X.returns (fun t ht hW => ⟨_, rfl, hp, ht⟩) (fun q h => by cases h) hd X.notSynchronized) ls hl
theorem mk_Sz {post : Bool → Prop} (hy : plainName y.cls = true) (hw : ws = Cond.code y cc maxL (some .boolean) :: ws') (hn : (lg_sl av).length ≤ maxL)
    (body : ∀ {p : Program} {e : Env} {s : State} {m : MethodId} {args : Array Value} {below : List Frame} {meth : Method} {c : Code} (Q : State → Prop), Cx p s m args meth c cc maxL (some .boolean) ws y.cls → B s →
      (∀ {v : Int32} {b : Bool} {pc : Nat} {ls : Array Slot}, post b → v = bB b → decode cc pc = .ok (.ireturn, 1) → W p l e rm s m args below meth c s.heap [] 0 0 Q (F0 m pc ls [.int v])) →
      ∀ ls : Array Slot, lv_has ls maxL (lv_args 0 av) → W p l e rm s m args below meth c s.heap [] 0 0 Q (F0 m 0 ls [])) : Met l y ws rm (va_Pc av B) (vp_Si (fun r => ∃ b : Bool, r = bB b ∧ post b)) 0 0 (fun _ => False) := by
  refine Met.ofW (cc := cc) (maxL := maxL) (ret := some .boolean) hy hw ?_
  intro p e s m args below meth c s₁ X hml hv
  obtain ⟨rfl, hB⟩ := hv
  have hl := lv_entry av (n := maxL) hn
  rw [lg_entry_eq]
  generalize (lg_sl av ++ List.replicate (maxL - (lg_sl av).length) Slot.unset).toArray = ls at hl ⊢
  exact body _ ⟨X.exec, X.bytes, X.returns, hml, findClass_of_methodNamed X.named, atoms_spec (ws := ws) X.pre, X.notSynchronized⟩ hB (fun {v b pc ls} hp hv hd => by
    subst hv
    exact W.zret X.exec X.bytes X.returns (bB_nar b) (fun t ht hW => ⟨_, rfl, ⟨b, rfl, hp⟩, ht⟩) (fun q h => by cases h) hd X.notSynchronized) ls hl
end MK
