/-! the start: both objects, the answer's cell, and the loop behind them -/
theorem Inv_Mz : Inv Mz := ⟨Nat.zero_le _, Nat.zero_le _, fun _ => Nat.zero_le _, fun _ => Nat.zero_le _, fun _ => Nat.zero_le _, fun _ _ _ => Nat.zero_le _, fun _ => Nat.zero_le _, fun _ => Nat.zero_le _, fun _ _ _ => Nat.zero_le _, fun _ _ _ => Nat.zero_le _⟩
theorem Inv_rflat : ∀ k, Inv (rflat k)
  | 0 => Inv_Mz
  | k + 1 => Inv.up (Inv_rflat k) (by omega) (by omega) (by omega) (by omega) (by omega) (by omega) (by omega) (by omega) (by omega) (by omega)
theorem hTs_rflat : ∀ k, hTs (rflat k) (fun _ => 0)
  | 0 => fun r _ => rfl
  | k + 1 => hTs_k (hTs_rflat k) (fun r hr => by omega)
/-- one more address behind the twenty-seven -/
def adO (ad : Nat → Nat) (q : Nat) : Nat → Nat := fun k => if k = 27 then q else ad k
theorem adO_lt {ad : Nat → Nat} {q k : Nat} (h : k < 27) : adO ad q k = ad k := if_neg (by omega)
theorem wcP_ad {D : va_G} {ad : Nat → Nat} {q9 : Nat} {cI cJ cQ : ClassId} {M : Mdl} {ts : Nat → Nat} {pu : Nat → Int64} {H : Heap} (hP : va_P D vwCl (wz 27 ad (wcE ad cI cJ cQ M ts pu)) H) : va_P D vwCl (wz 27 (adO ad q9) (wcE (adO ad q9) cI cJ cQ M ts pu)) H := by
  intro k q hk
  obtain ⟨hk1, rfl⟩ := wz_inv hk
  exact match k, hk1 with
  | 0, _ => hP 0 _ (wz_at (by omega))
  | 1, _ => hP 1 _ (wz_at (by omega))
  | 2, _ => hP 2 _ (wz_at (by omega))
  | 3, _ => hP 3 _ (wz_at (by omega))
  | 4, _ => (hP 4 _ (wz_at (by omega))).trans (congrArg some (rows_congr (fun j hj => match j, hj with | 0, _ => rfl | 1, _ => rfl | 2, _ => rfl | 3, _ => rfl | 4, _ => rfl | 5, _ => rfl | 6, _ => rfl | 7, _ => rfl | n + 8, h => absurd h (by omega))))
  | 5, _ => hP 5 _ (wz_at (by omega))
  | 6, _ => hP 6 _ (wz_at (by omega))
  | 7, _ => (hP 7 _ (wz_at (by omega))).trans (congrArg some (rows_congr (fun j hj => match j, hj with | 0, _ => rfl | 1, _ => rfl | 2, _ => rfl | 3, _ => rfl | 4, _ => rfl | n + 5, h => absurd h (by omega))))
  | 8, _ => hP 8 _ (wz_at (by omega))
  | 9, _ => (hP 9 _ (wz_at (by omega))).trans (congrArg some (rows_congr (fun j hj => match j, hj with | 0, _ => rfl | 1, _ => rfl | 2, _ => rfl | n + 3, h => absurd h (by omega))))
  | 10, _ => hP 10 _ (wz_at (by omega))
  | 11, _ => hP 11 _ (wz_at (by omega))
  | 12, _ => hP 12 _ (wz_at (by omega))
  | 13, _ => hP 13 _ (wz_at (by omega))
  | 14, _ => hP 14 _ (wz_at (by omega))
  | 15, _ => hP 15 _ (wz_at (by omega))
  | 16, _ => hP 16 _ (wz_at (by omega))
  | 17, _ => hP 17 _ (wz_at (by omega))
  | 18, _ => hP 18 _ (wz_at (by omega))
  | 19, _ => hP 19 _ (wz_at (by omega))
  | 20, _ => hP 20 _ (wz_at (by omega))
  | 21, _ => hP 21 _ (wz_at (by omega))
  | 22, _ => hP 22 _ (wz_at (by omega))
  | 23, _ => hP 23 _ (wz_at (by omega))
  | 24, _ => hP 24 _ (wz_at (by omega))
  | 25, _ => hP 25 _ (wz_at (by omega))
  | 26, _ => hP 26 _ (wz_at (by omega))
  | n + 27, h => absurd h (by omega)
set_option maxHeartbeats 4000000 in
set_option maxRecDepth 100000 in
theorem whole_KL {s : State} {b : Nat} (hts : ∀ w ∈ lw_tbl, w.before #[Value.ref b] s = true) (hgv : (Jvm.Cond.and given_1 narrow_1).before #[Value.ref b] s = true) : ∃ sa : Nat → Nat, KL sa (fun q => s.heap.size ≤ q) s := by
  have hgs := flat_of_before _ hgv
  obtain ⟨c0, k0, hfc, -⟩ := Cond.instantiable_spec (hts (.instantiable RX0 12) (by decide +kernel))
  obtain ⟨-, -, -, a0, -, -, -, -, -, e0⟩ := Cond.stringRef_spec hfc (hts (.stringRef RX0 116 "no such number") (by decide +kernel))
  obtain ⟨-, -, -, a1, -, -, -, -, -, e1⟩ := Cond.stringRef_spec hfc (hts (.stringRef RX0 123 "out of its range") (by decide +kernel))
  obtain ⟨-, -, -, a2, -, -, -, -, -, e2⟩ := Cond.stringRef_spec hfc (hts (.stringRef RX0 128 "not allowed as things stand") (by decide +kernel))
  obtain ⟨-, -, -, a3, -, -, -, -, -, e3⟩ := Cond.stringRef_spec hfc (hts (.stringRef RX0 131 "both wells are the same") (by decide +kernel))
  have hini := hts (.initialized Bundle.tN) (by decide +kernel)
  refine ⟨fun k => if k = 0 then a0 else if k = 1 then a1 else if k = 2 then a2 else a3, ⟨vx_Zqof (hts (.laysStatic Bundle.tN "UNASSIGNED_STACK" Bundle.steD) (by decide +kernel)) hini (hgs _ (by decide +kernel)) (fun a h => Nat.not_le.mpr h), vx_Zqof (hts (.laysStatic Bundle.tN "SUPPRESSED_SENTINEL" Bundle.listD) (by decide +kernel)) hini (hgs _ (by decide +kernel)) (fun a h => Nat.not_le.mpr h), vk_R.of (hts (.stringRef RX0 116 "no such number") (by decide +kernel)) e0, vk_R.of (hts (.stringRef RX0 123 "out of its range") (by decide +kernel)) e1, vk_R.of (hts (.stringRef RX0 128 "not allowed as things stand") (by decide +kernel)) e2, vk_R.of (hts (.stringRef RX0 131 "both wells are the same") (by decide +kernel)) e3, va_Nw.of rfl (hts (.castable eI eI) (by decide +kernel)), va_Nw.of rfl (hts (.castable eA eA) (by decide +kernel)), va_Nw.of rfl (hts (.castable eS eS) (by decide +kernel)), va_Nw.of rfl (hts (.declares (Bundle.initS "java/lang/RuntimeException")) (by decide +kernel)), va_Nw.of rfl (hts (.declares (Bundle.initS "java/lang/Exception")) (by decide +kernel)), va_Nw.of rfl (hts (.declares (Bundle.initS Bundle.tN)) (by decide +kernel))⟩, va_Nc.of (hgs (.not (.castable eS eA)) (by decide +kernel)), va_Nc.of (hgs (.not (.castable eA eI)) (by decide +kernel)), va_Nc.of (hgs (.not (.castable eS eI)) (by decide +kernel))⟩
set_option maxHeartbeats 8000000 in
set_option maxRecDepth 100000 in
theorem whole_start {p : Program} {e : Env} {s : State} {m : MethodId} {below : List Frame} {meth : Method} {c : Code} (l : Launch) (hflags : l.flags = flags0) {b L : Nat} {xs : Nat → Int32} (hL : L ≤ 2048) (C0 : lw_At p s m meth c b L xs) : W p l e room_1 s m #[Value.ref b] below meth c s.heap [] 0 0 (lw_Z below #[Value.ref b] s) (entryFrame m ([Value.ref b] : List Value).toArray 8) := by
  obtain ⟨hx, hb, hr, hml, hown, hts0, hX, hbl, hlocks, hgv⟩ := id C0
  have hown : s.vm.findClass RL = some m.cls := hown
  have hb : c.code = cL_law := hb
  have hts : ∀ w ∈ wsL_law, w.before #[Value.ref b] s = true := fun w h => hts0 w (wsL_law_in w h)
  have hfl : l.stackTraces = false := by
    unfold Launch.stackTraces
    rw [hflags]
    decide +kernel
  obtain ⟨sa, hKL⟩ := whole_KL hts0 hgv
  have hA : ∀ q : Nat, s.heap.size ≤ q → (fun q : Nat => s.heap.size ≤ q) q := fun _ h => h
  obtain ⟨cc0, iS0, hKn0⟩ := u_known (C := RX0) (T := TX0) (N := 12) (n := 12) hts0 inX0 (hts0 (.instantiable RX0 12) (by decide +kernel))
  obtain ⟨cc1, iS1, hKn1⟩ := u_known (C := RX1) (T := TX1) (N := 11) (n := 11) hts0 inX1 (hts0 (.instantiable RX1 11) (by decide +kernel))
  obtain ⟨D, hKc⟩ : ∃ D : va_G, ∀ (k : Nat) (q : vw_C), vwCl[k]? = some q → u_Kn s q.1 q.2.1 q.2.2 (D.1 k) (D.2 k) := by
    refine ⟨(fun k => if k = 0 then cc0 else cc1, fun k => if k = 0 then iS0 else iS1), ?_⟩
    intro k q hq
    match k, hq with
    | 0, hq => cases hq; exact hKn0
    | 1, hq => cases hq; exact hKn1
    | k + 2, hq => simp [vwCl] at hq
  have hS : va_S (fun q : Nat => s.heap.size ≤ q) s.heap s.heap [] := va_S.rf
  have hK : va_K D vwCl [] s := ⟨hKc, fun k q h => by simp at h⟩
  have hK0 := hK
  have hP : va_P D vwCl [] s.heap := fun k q h => by simp at h
  have hD : va_D (fun q : Nat => s.heap.size ≤ q) [] := ⟨fun i j p q h => by simp at h, fun k q h => by simp at h⟩
  have hl := lv_entry ([.ref b]) (n := 8) (Nat.le_of_ble_eq_true rfl)
  rw [lg_entry_eq]
  generalize (lg_sl ([.ref b]) ++ List.replicate (8 - (lg_sl ([.ref b])).length) Slot.unset).toArray = ls at hl ⊢
  have hl : lv_has ls 8 [(0, .ref b)] := hl
  have hAO : va_AOA .int s := va_AOA.of (hts0 (.arrayOver (.array .int)) (by decide +kernel))
  -- the class's object
  refine va_new (ci := 0) (fs := [.null, .null, .null, .null, .null, .null, .null, .null, .null, .null, .int 0, .int 0]) (C := RX0) (T := TX0) (N := 12) hx hb hts0 inX0 tyX0 tyX0_ok hown (hts0 (.classLink RL 8 RX0) (by decide +kernel)) (hts0 (.instantiable RX0 12) (by decide +kernel)) (hts0 (.initialized RX0) (by decide +kernel)) hK hP hD hS hA rfl (fun j hj => match j, hj with | 0, _ => rfl | 1, _ => rfl | 2, _ => rfl | 3, _ => rfl | 4, _ => rfl | 5, _ => rfl | 6, _ => rfl | 7, _ => rfl | 8, _ => rfl | 9, _ => rfl | 10, _ => rfl | 11, _ => rfl | n + 12, h => absurd h (by omega)) (Nat.le_of_ble_eq_true rfl) (Nat.le_of_ble_eq_true rfl) dL_law_0 (fun q0 H hP hD hS => ?_)
  have hP : va_P D vwCl [(q0, .inr (0, [.null, .null, .null, .null, .null, .null, .null, .null, .null, .null, .int 0, .int 0]))] H := hP
  have hq0 : s.heap.size ≤ q0 := hD.2 0 _ rfl
  have hlt : q0 < H.size := (hP 0 _ rfl).lt
  refine lv_dup hx hb dL_law_3 rfl ?_
  refine va_callv (A0 := fun q => s.heap.size ≤ q) (H0 := s.heap) (va_runI (As := []) (rest := [.ref q0]) ⟨hx, hb, hml, hown, hts⟩ (c0_init l (D := D) (h0 := q0) (sz := H.size)) (cwI 0 hts gL_law_X0_init rfl rfl rfl (hts0 (.initialized RX0) (by decide +kernel)) (hts0 (.methodLink RL 80 yX0_init) (by decide +kernel)) (hts0 (.instanceMethod yX0_init) (by decide +kernel)) rfl (by decide +kernel) ⟨Nat.le_of_ble_eq_true rfl, Nat.le_of_ble_eq_true rfl⟩)
    ⟨fun a U g mk q => by obtain ⟨y0, y1, y2, y3, y4, y5⟩ := q; exact ⟨y0, y1, y2, va_K.moved (u := U) (U := U.calling g mk a) (Vm.Alike.refl U.vm) y3, va_AOA.moved (u := U) (U := U.calling g mk a) (Vm.Alike.refl U.vm) y4, y5⟩, fun U hU hW => ⟨rfl, by rw [hU], by rw [hU]; exact hP, va_K.moved hW.alike hK0, va_AOA.moved hW.alike hAO, hlt⟩⟩ rfl rfl hl.1 rfl (lv_room (Nat.le_of_ble_eq_true rfl)) dL_law_4 ⟨Nat.le_of_ble_eq_true rfl, Nat.le_of_ble_eq_true rfl⟩) hS
    (fun q hq h => h.elim (fun h => by rw [h]; exact hq0) (fun h => absurd hq (Nat.not_lt.mpr h))) (fun q h => h.elim (fun h => by rw [h]; exact hq0) (fun h => Nat.le_trans hS.1 h)) (fun u t H1 locs1 ht hv hp hB hz hk hS1 => ?_)
  obtain ⟨ad, cI, cJ, cQ⟩ := u
  obtain ⟨had0, hnd0, hAd0⟩ := hp
  have had0 : ad 0 = q0 := had0
  have hnd0 : ndz 27 ad := hnd0
  have hAd0 : ∀ i, i < 27 → aIn q0 H.size (ad i) := hAd0
  have hK : va_K D vwCl [(cI, .int), (cJ, .long), (cQ, .array .int)] s := va_K.moved hv.symm hB.1
  have hP1 : va_P D vwCl (wz 27 ad (wcE ad cI cJ cQ (rall 3) (fun _ => 0) (fun _ => lN 0))) H1 := by rw [← ht]; exact hB.2
  have hAd : ∀ i, i < 27 → s.heap.size ≤ ad i := fun i hi => (hAd0 i hi).elim (fun h => by rw [h]; exact hq0) (fun h => Nat.le_trans hS.1 h)
  refine lv_astore_n (lv' := [(1, .ref q0), (0, .ref b)]) hx hb dL_law_7 rfl hl (by decide) rfl (fun ls hl => ?_)
  have hD1 : va_D (fun q : Nat => s.heap.size ≤ q) (wz 27 ad (wcE ad cI cJ cQ (rall 3) (fun _ => 0) (fun _ => lN 0))) := wz_D hnd0 hAd
  -- the reference
  refine va_new (ci := 1) (fs := [.int 0, .null, .null, .null, .null, .int 0, .null, .null, .null, .null, .int 0]) (C := RX1) (T := TX1) (N := 11) hx hb hts0 inX1 tyX1 tyX1_ok hown (hts0 (.classLink RL 81 RX1) (by decide +kernel)) (hts0 (.instantiable RX1 11) (by decide +kernel)) (hts0 (.initialized RX1) (by decide +kernel)) hK hP1 hD1 hS1 hA rfl (fun j hj => match j, hj with | 0, _ => rfl | 1, _ => rfl | 2, _ => rfl | 3, _ => rfl | 4, _ => rfl | 5, _ => rfl | 6, _ => rfl | 7, _ => rfl | 8, _ => rfl | 9, _ => rfl | 10, _ => rfl | n + 11, h => absurd h (by omega)) (Nat.le_of_ble_eq_true rfl) (Nat.le_of_ble_eq_true rfl) dL_law_8 (fun q1 H2 hP2 hD2 hS2 => ?_)
  have hPm : va_P D vwCl [(q1, .inr (1, [.int 0, .null, .null, .null, .null, .int 0, .null, .null, .null, .null, .int 0]))] H2 := hP2.by (fun _ => 27) (fun k q hk => by
    match k, hk with
    | 0, hk => cases hk; rfl)
  have hPc : va_P D vwCl (wz 27 ad (wcE ad cI cJ cQ (rall 3) (fun _ => 0) (fun _ => lN 0))) H2 := hP2.by (fun k => k) (fun k q hk => by rw [List.getElem?_append_left (List.getElem?_eq_some_iff.mp hk).1]; exact hk)
  have hq1 : s.heap.size ≤ q1 := hD2.2 27 _ rfl
  have hlt1 : q1 < H2.size := (hPm 0 _ rfl).lt
  have hne1 : ∀ i, i < 27 → ad i ≠ q1 := fun i hi h => by
    have h1 : i = 27 := hD2.1 i 27 _ _ (by rw [List.getElem?_append_left (by simp [wz]; exact hi)]; exact wz_at hi) rfl h
    omega
  refine lv_dup hx hb dL_law_11 rfl ?_
  refine va_callv (A0 := fun q => s.heap.size ≤ q) (H0 := s.heap) (va_runI (As := []) (rest := [.ref q1]) ⟨hx, hb, hml, hown, hts⟩ (c1_init l (D := D) (h0 := q1) (sz := H2.size)) (cwI 0 hts gL_law_X1_init rfl rfl rfl (hts0 (.initialized RX1) (by decide +kernel)) (hts0 (.methodLink RL 83 yX1_init) (by decide +kernel)) (hts0 (.instanceMethod yX1_init) (by decide +kernel)) rfl (by decide +kernel) ⟨Nat.le_of_ble_eq_true rfl, Nat.le_of_ble_eq_true rfl⟩)
    ⟨fun a U g mk q => by obtain ⟨y0, y1, y2, y3, y5⟩ := q; exact ⟨y0, y1, y2, va_K.moved (u := U) (U := U.calling g mk a) (Vm.Alike.refl U.vm) y3, y5⟩, fun U hU hW => ⟨rfl, by rw [hU], by rw [hU]; exact hPm, va_K.moved hW.alike hK0, hlt1⟩⟩ rfl rfl hl.1 rfl (lv_room (Nat.le_of_ble_eq_true rfl)) dL_law_12 ⟨Nat.le_of_ble_eq_true rfl, Nat.le_of_ble_eq_true rfl⟩) hS2
    (fun q hq h => h.elim (fun h => by rw [h]; exact hq1) (fun h => absurd hq (Nat.not_lt.mpr h))) (fun q h => h.elim (fun h => by rw [h]; exact hq1) (fun h => Nat.le_trans hS2.1 h)) (fun u t3 H3 locs3 ht3 hv3 hp3 hB3 hz3 hk3 hS3 => ?_)
  obtain ⟨ae, cI2⟩ := u
  obtain ⟨hae0, hne0, hAe0⟩ := hp3
  have hK3 : va_K D vwCl [(cI2, .int)] s := va_K.moved hv3.symm hB3.1
  have eI2 : cI = cI2 := Option.some.inj ((hK.2 0 _ rfl).2.symm.trans (hK3.2 0 _ rfl).2)
  subst eI2
  have hae0 : ae 0 = q1 := hae0
  have hne0 : ndz 9 ae := hne0
  have hAe0 : ∀ i, i < 9 → aIn q1 H2.size (ae i) := hAe0
  have hPe : va_P D vwCl (wz 9 ae (wmE ae cI (rall 3) (nI 0))) H3 := by rw [← ht3]; exact hB3.2
  have hAe : ∀ i, i < 9 → s.heap.size ≤ ae i := fun i hi => (hAe0 i hi).elim (fun h => by rw [h]; exact hq1) (fun h => Nat.le_trans hS2.1 h)
  have hdj0 : ∀ i j, i < 27 → j < 9 → ad i ≠ ae j := fun i j hi hj h => (hAe0 j hj).elim (fun h1 => hne1 i hi (h.trans h1)) (fun h1 => absurd (wz_lt hPc hi) (by rw [h]; exact Nat.not_lt.mpr h1))
  have hPc3 : va_P D vwCl (wz 27 ad (wcE ad cI cJ cQ (rall 3) (fun _ => 0) (fun _ => lN 0))) H3 := wz_kept hPc (fun i hi => hk3 _ (wz_lt hPc hi) (fun h => h.elim (fun h => hne1 i hi h) (fun h => absurd (wz_lt hPc hi) (Nat.not_lt.mpr h))))
  refine lv_astore_n (lv' := [(2, .ref q1), (1, .ref q0), (0, .ref b)]) hx hb dL_law_15 rfl hl (by decide) rfl (fun ls hl => ?_)
  -- the answer's cell
  refine lv_iconst (v := nI 1) hx hb dL_law_16 (by decide) ?_
  have hD3 : va_D (fun q : Nat => s.heap.size ≤ q) (wz 27 ad (wcE ad cI cJ cQ (rall 3) (fun _ => 0) (fun _ => lN 0)) ++ wz 9 ae (wmE ae cI (rall 3) (nI 0))) := va_D.app (wz_D hnd0 hAd) (wz_D hne0 hAe) (fun i j p q hp hq => by
    obtain ⟨h1, rfl⟩ := wz_inv hp
    obtain ⟨h2, rfl⟩ := wz_inv hq
    exact hdj0 i j h1 h2)
  refine va_newa (atype := .long) (ty := .long) (a0 := (1, .inr (.inl (fun _ => lN 0)))) hx hb (hts0 (.arrayClass .long) (by decide +kernel)) rfl hK (va_P.app hPc3 hPe) hD3 hS3 hA (fun _ => rfl) (nI_pos (by decide)) (nI_clamp (by decide)) (by decide) (Nat.le_of_ble_eq_true rfl) (Nat.le_of_ble_eq_true rfl) dL_law_17 (fun q2 cJ2 H4 hK4 hP4 hD4 hS4 => ?_)
  have eJ : cJ = cJ2 := Option.some.inj ((hK4.2 1 _ rfl).2.symm.trans (hK4.2 3 _ rfl).2)
  subst eJ
  have hPc4 : va_P D vwCl (wz 27 ad (wcE ad cI cJ cQ (rall 3) (fun _ => 0) (fun _ => lN 0))) H4 := hP4.by (fun k => k) (fun k q hk => by rw [List.append_assoc, List.getElem?_append_left (List.getElem?_eq_some_iff.mp hk).1]; exact hk)
  have hPe4 : va_P D vwCl (wz 9 ae (wmE ae cI (rall 3) (nI 0))) H4 := hP4.by (fun k => 27 + k) (fun k q hk => by
    have h9 := (List.getElem?_eq_some_iff.mp hk).1
    rw [List.append_assoc, List.getElem?_append_right (by simp [wz]), show 27 + k - (wz 27 ad (wcE ad cI cJ cQ (rall 3) (fun _ => 0) (fun _ => lN 0))).length = k by simp [wz], List.getElem?_append_left h9]; exact hk)
  have hPo4 : va_at D vwCl (q2, oE cJ (lN 0)) H4 := hP4 36 _ rfl
  have hq2 : s.heap.size ≤ q2 := hD4.2 36 _ rfl
  have hne2 : ∀ i, i < 27 → ad i ≠ q2 := fun i hi h => by
    have h1 : i = 36 := hD4.1 i 36 _ _ (by rw [List.append_assoc, List.getElem?_append_left (by simp [wz]; exact hi)]; exact wz_at hi) rfl h
    omega
  have hne3 : ∀ j, j < 9 → q2 ≠ ae j := fun j hj h => by
    have h1 : 27 + j = 36 := hD4.1 (27 + j) 36 _ _ (by rw [List.append_assoc, List.getElem?_append_right (by simp [wz]), show 27 + j - (wz 27 ad (wcE ad cI cJ cQ (rall 3) (fun _ => 0) (fun _ => lN 0))).length = j by simp [wz], List.getElem?_append_left (by simp [wz]; exact hj)]; exact wz_at hj) rfl h.symm
    omega
  refine lv_astore_n (lv' := [(3, .ref q2), (2, .ref q1), (1, .ref q0), (0, .ref b)]) hx hb dL_law_19 rfl hl (by decide) rfl (fun ls hl => ?_)
  refine lv_iconst (v := nI 0) hx hb dL_law_20 (by decide) ?_
  refine lv_istore (lv' := [(4, .int (nI 0)), (3, .ref q2), (2, .ref q1), (1, .ref q0), (0, .ref b)]) hx hb dL_law_21 hl (by decide) rfl (fun ls hl => ?_)
  have hl : lv_has ls 8 [(0, .ref b), (1, .ref (adO ad q2 0)), (2, .ref (ae 0)), (3, .ref (adO ad q2 27)), (4, .int (nI 0))] := by
    rw [show adO ad q2 0 = q0 from had0, hae0, show adO ad q2 27 = q2 from rfl]
    exact lv_sub hl [4, 3, 2, 1, 0] rfl
  have hK9 : va_K D vwCl [(cI, .int), (cJ, .long), (cQ, .array .int)] s := hK
  have hCx : LCx p s m c b L xs l D (adO ad q2) ae cI cJ cQ sa := ⟨hx, hb, hml, hown, hts, hX, hbl, hfl, hKL, hK9, fun i j hi hj h => by
      rcases Nat.lt_or_ge i 27 with h1 | h1
      · rcases Nat.lt_or_ge j 27 with h2 | h2
        · rw [adO_lt h1, adO_lt h2] at h
          exact hnd0 i j h1 h2 h
        · have h3 : j = 27 := by omega
          subst h3
          rw [adO_lt h1] at h
          exact absurd h (hne2 i h1)
      · have h3 : i = 27 := by omega
        subst h3
        rcases Nat.lt_or_ge j 27 with h2 | h2
        · rw [adO_lt h2] at h
          exact absurd h.symm (hne2 j h2)
        · omega, hne0, fun i hi => by
      rcases Nat.lt_or_ge i 27 with h1 | h1
      · rw [adO_lt h1]; exact hAd i h1
      · have h3 : i = 27 := by omega
        subst h3; exact hq2, hAe, fun i j hi hj => by
      rcases Nat.lt_or_ge i 27 with h1 | h1
      · rw [adO_lt h1]; exact hdj0 i j h1 hj
      · have h3 : i = 27 := by omega
        subst h3; exact hne3 j hj⟩
  refine law_loop hCx hL (fun H locs ls cells slots hc hs hS => ?_) 512 0 (by omega) (by omega) (Nat.le_of_ble_eq_true rfl) (Nat.le_of_ble_eq_true rfl) ⟨Inv_rflat 9, hTs_rflat 9, woP_join (wcP_ad hPc4) hPo4, hPe4, hS4⟩ hl
  refine va_forget hS.2.2 (W.widen (k := 619404) (n := 7237891) hc hs ?_)
  refine lv_iconst (v := 1) hx hb dL_law_1529 (by decide) ?_
  exact lw_ret hx hb hr hlocks dL_law_1530
