/-! the law's start -/
theorem Inv_Mz : Inv Mz := ⟨Nat.zero_le _, Nat.zero_le _, fun _ => Nat.zero_le _, fun _ => Nat.zero_le _, fun _ => Nat.zero_le _, fun _ _ _ => Nat.zero_le _, fun _ => Nat.zero_le _, fun _ => Nat.zero_le _, fun _ _ _ => Nat.zero_le _, fun _ _ _ => Nat.zero_le _⟩
theorem Inl_rflat : ∀ k, Inl (rflat k)
  | 0 => ⟨Inv_Mz, Nat.zero_le _, Nat.zero_le _⟩
  | k + 1 => inl_up (Inl_rflat k) (by omega) (by omega) (by omega) (by omega) (by omega) (by omega) (by omega) (by omega) (by omega) (by omega)
theorem hTs_rflat : ∀ k, hTs (rflat k) (fun _ => 0)
  | 0 => fun r _ => rfl
  | k + 1 => hTs_k (hTs_rflat k) (fun r hr => by omega)
theorem rwC_z : rwC Mz = fun _ => nI 0 := funext fun i => by
  unfold rwC Mz
  rw [ite_self]
theorem rwW_z : rwW Mz = fun _ => nI 0 := funext fun i => by
  unfold rwW Mz
  rw [ite_self]
theorem rwV_z : rwV Mz = fun _ => nI 0 := funext fun i => by
  unfold rwV Mz
  rw [ite_self]
def zN (j : Nat) : Nat := if j = 0 then 2 else if j = 1 then 15 else if j = 2 then 6 else if j = 3 then 60 else if j = 4 then 9 else 36
theorem wl_z (cI : ClassId) (j : Nat) : wlE cI Mz j = .inl (cI, zN j, .inl (fun _ => nI 0)) := by
  unfold wlE zN
  by_cases q0 : j = 0
  · rw [if_pos q0, if_pos q0, rwC_z]
  · rw [if_neg q0, if_neg q0]
    by_cases q1 : j = 1
    · rw [if_pos q1, if_pos q1, rwW_z]
    · rw [if_neg q1, if_neg q1]
      by_cases q2 : j = 2
      · rw [if_pos q2, if_pos q2, rwV_z]
      · rw [if_neg q2, if_neg q2]
        by_cases q3 : j = 3
        · rw [if_pos q3, if_pos q3]
          rfl
        · rw [if_neg q3, if_neg q3]
          by_cases q4 : j = 4
          · rw [if_pos q4, if_pos q4]
            rfl
          · rw [if_neg q4, if_neg q4]
            rfl
theorem fz_j {ad : Nat → Nat} {cI cJ cQ : ClassId} {M : Mdl} {ts : Nat → Nat} {pu : Nat → Int64} {k j : Nat} (hk : k = 27 + j) (hj : j < 10) : (if k = 36 then .inl (cI, 36, .inl (fun _ => nI 0)) else if k = 35 then .inl (cI, 36, .inl (fun _ => nI 0)) else if k = 34 then .inl (cI, 36, .inl (fun _ => nI 0)) else if k = 33 then .inl (cI, 36, .inl (fun _ => nI 0)) else if k = 32 then .inl (cI, 36, .inl (fun _ => nI 0)) else if k = 31 then .inl (cI, 9, .inl (fun _ => nI 0)) else if k = 30 then .inl (cI, 60, .inl (fun _ => nI 0)) else if k = 29 then .inl (cI, 6, .inl (fun _ => nI 0)) else if k = 28 then .inl (cI, 15, .inl (fun _ => nI 0)) else if k = 27 then .inl (cI, 2, .inl (fun _ => nI 0)) else wcE ad cI cJ cQ M ts pu k) = (.inl (cI, zN j, .inl (fun _ => nI 0)) : va_E) := by
  unfold zN
  by_cases q0 : j = 0
  · subst q0
    subst hk
    rfl
  by_cases q1 : j = 1
  · subst q1
    subst hk
    rfl
  by_cases q2 : j = 2
  · subst q2
    subst hk
    rfl
  by_cases q3 : j = 3
  · subst q3
    subst hk
    rfl
  by_cases q4 : j = 4
  · subst q4
    subst hk
    rfl
  by_cases q5 : j = 5
  · subst q5
    subst hk
    rfl
  by_cases q6 : j = 6
  · subst q6
    subst hk
    rfl
  by_cases q7 : j = 7
  · subst q7
    subst hk
    rfl
  by_cases q8 : j = 8
  · subst q8
    subst hk
    rfl
  by_cases q9 : j = 9
  · subst q9
    subst hk
    rfl
  exact absurd hj (by omega)
theorem wx_start {D : va_G} {ad ad' : Nat → Nat} {cI cJ cQ : ClassId} {M : Mdl} {ts : Nat → Nat} {pu : Nat → Int64} {X : Nat → va_E} {H : Heap} (he : ∀ k, k < 27 → ad' k = ad k) (hP : va_P D vwCl (wz 37 ad' (fun k => if k = 36 then .inl (cI, 36, .inl (fun _ => nI 0)) else if k = 35 then .inl (cI, 36, .inl (fun _ => nI 0)) else if k = 34 then .inl (cI, 36, .inl (fun _ => nI 0)) else if k = 33 then .inl (cI, 36, .inl (fun _ => nI 0)) else if k = 32 then .inl (cI, 36, .inl (fun _ => nI 0)) else if k = 31 then .inl (cI, 9, .inl (fun _ => nI 0)) else if k = 30 then .inl (cI, 60, .inl (fun _ => nI 0)) else if k = 29 then .inl (cI, 6, .inl (fun _ => nI 0)) else if k = 28 then .inl (cI, 15, .inl (fun _ => nI 0)) else if k = 27 then .inl (cI, 2, .inl (fun _ => nI 0)) else wcE ad cI cJ cQ M ts pu k)) H) : va_P D vwCl (wz 37 ad' (wxE ad' cI cJ cQ M ts pu Mz X)) H := fun k q hk => by
  obtain ⟨h1, rfl⟩ := wz_inv hk
  have h := hP k _ (wz_at h1)
  by_cases q1 : k < 27
  · rw [if_neg (by omega), if_neg (by omega), if_neg (by omega), if_neg (by omega), if_neg (by omega), if_neg (by omega), if_neg (by omega), if_neg (by omega), if_neg (by omega), if_neg (by omega)] at h
    rw [wx_c q1]
    exact wcE_at (fun k hk => he k hk) q1 h
  · obtain ⟨j, hj⟩ : ∃ j, k = 27 + j := ⟨k - 27, by omega⟩
    rw [fz_j hj (by omega)] at h
    rw [show wxE ad' cI cJ cQ M ts pu Mz X k = wlE cI Mz j from by rw [hj]; exact wx_l (by omega), wl_z]
    exact h
set_option maxHeartbeats 4000000 in
set_option maxRecDepth 100000 in
/-- the ratios before any is told -/
theorem law_fill {p : Program} {l : Launch} {e : Env} {s : State} {m : MethodId} {below : List Frame} {meth : Method} {c : Code} {b L : Nat} {xs : Nat → Int32} {Q : State → Prop} {D : va_G} {ad : Nat → Nat} {cI cJ cQ : ClassId} {X : Nat → va_E} {sa : Nat → Nat} (hx : p.tables.exec = Jvm.exec) (hb : c.code = cL_law) (hml : c.maxLocals = 19) (hown : s.vm.findClass RL = some m.cls) (hts : ∀ w ∈ wsL_law, w.before #[Value.ref b] s = true) (hXs : va_X b L xs s s.heap) (hbl : b < s.heap.size) (hL : L ≤ 260) (hfl : l.stackTraces = false) (hX : KL sa (zA s.heap.size) s) (hK : va_K D vwCl [(cI, .int), (cJ, .long), (cQ, .array .int)] s) (hnd : ndz 37 ad) (hAd : ∀ i, i < 37 → zA s.heap.size (ad i)) (hend : ∀ (H : Heap) (locs : List Loc) (ls : Array Slot) (cells slots : Nat), cells ≤ 600130 → slots ≤ 7301080 → va_S (zA s.heap.size) s.heap H locs → W p l e room_1 s m #[Value.ref b] below meth c H locs cells slots Q (F0 m 427 ls [])) {H : Heap} {locs : List Loc} {ls : Array Slot} (hP : va_P D vwCl (wz 37 ad (wxE ad cI cJ cQ (rall 3) (fun _ => 0) (fun _ => lN 0) (rflat 0) X)) H) (hS : va_S (zA s.heap.size) s.heap H locs) (hl : lv_has ls 19 [(0, .ref (b)), (1, .ref (ad 0)), (2, .ref (ad 27)), (3, .ref (ad 28)), (4, .ref (ad 29)), (5, .ref (ad 30)), (6, .ref (ad 31)), (7, .ref (ad 32)), (8, .ref (ad 33)), (9, .ref (ad 34)), (10, .ref (ad 35)), (11, .ref (ad 36))]) : W p l e room_1 s m #[Value.ref b] below meth c H locs 500 5000 Q (F0 m 65 ls []) := by
  refine lv_iconst (v := nI 0) hx hb dL_law_65 (by decide) ?_
  refine lv_istore (lv' := [(12, .int (nI (0))), (0, .ref (b)), (1, .ref (ad 0)), (2, .ref (ad 27)), (3, .ref (ad 28)), (4, .ref (ad 29)), (5, .ref (ad 30)), (6, .ref (ad 31)), (7, .ref (ad 32)), (8, .ref (ad 33)), (9, .ref (ad 34)), (10, .ref (ad 35)), (11, .ref (ad 36))]) hx hb dL_law_66 hl (by decide) rfl (fun ls hl => ?_)
  have lp68 : ∀ (n9 k : Nat), k ≤ 9 → 9 - k < n9 → ∀ (H : Heap) (locs : List Loc), va_P D vwCl (wz 37 ad (wxE ad cI cJ cQ (rall 3) (fun _ => 0) (fun _ => lN 0) (rflat (k)) (X))) H → va_S (zA s.heap.size) s.heap H locs → ∀ ls : Array Slot, lv_has ls 19 [(0, .ref (b)), (1, .ref (ad 0)), (2, .ref (ad 27)), (3, .ref (ad 28)), (4, .ref (ad 29)), (5, .ref (ad 30)), (6, .ref (ad 31)), (7, .ref (ad 32)), (8, .ref (ad 33)), (9, .ref (ad 34)), (10, .ref (ad 35)), (11, .ref (ad 36)), (12, .int (nI (k)))] → W p l e room_1 s m #[Value.ref b] below meth c H locs (500) (5000) Q (F0 m 68 ls []) := by
    intro n9
    induction n9 with
    | zero => intro k q1 q2; omega
    | succ n9 ih68 =>
      intro k q1_68 q2_68 H locs hP hS ls hl
      refine lv_iload hx hb dL_law_68 (lv_at hl 12 rfl) ?_
      refine lv_bipush (v := nI 9) hx hb dL_law_70 (by decide) ?_
      refine zb_ge (tgt := 88) hx hb (by omega) (by omega) dL_law_72 (by decide) (fun c_1 => ?_) (fun c_1 => ?_)
      · skip
        have q_2 : k = 9 := by omega
        subst q_2
        refine lv_iconst (v := nI 0) hx hb dL_law_88 (by decide) ?_
        refine lv_istore (lv' := [(12, .int (nI (0))), (0, .ref (b)), (1, .ref (ad 0)), (2, .ref (ad 27)), (3, .ref (ad 28)), (4, .ref (ad 29)), (5, .ref (ad 30)), (6, .ref (ad 31)), (7, .ref (ad 32)), (8, .ref (ad 33)), (9, .ref (ad 34)), (10, .ref (ad 35)), (11, .ref (ad 36))]) hx hb dL_law_89 hl (by decide) rfl (fun ls hl => ?_)
        rw [← rflat_9] at hP
        refine W.widen (k := 1000 + 320 * 0) (n := 10000 + 1920 * 0) (Nat.le_of_ble_eq_true rfl) (Nat.le_of_ble_eq_true rfl) ?_
        exact law_loop hx hb hml hown hts hXs hbl hL hfl hX hK hnd hAd hend (Inl_rflat 9) (hTs_rflat 9) hP hS (lv_sub hl [1, 2, 3, 4, 5, 6, 7, 8, 9, 10, 11, 12, 0] rfl)
      · skip
        refine lv_aload hx hb dL_law_75 (lv_at hl 6 rfl) ?_
        refine lv_iload hx hb dL_law_77 (lv_at hl 12 rfl) ?_
        refine lv_bipush (v := nI 100) hx hb dL_law_79 (by decide) ?_
        refine zi_st hx hb hK hP hnd hAd hS 31 (by decide) 0 rfl rfl (by decide) (i := k) (by omega) (wxE ad cI cJ cQ (rall 3) (fun _ => 0) (fun _ => lN 0) (rflat (k + 1)) (X)) (wlS_r9 (by omega)) dL_law_81 (fun H locs hP hS => ?_)
        refine lv_iinc (v := nI (k + 1)) (lv' := [(12, .int (nI (k + 1))), (0, .ref (b)), (1, .ref (ad 0)), (2, .ref (ad 27)), (3, .ref (ad 28)), (4, .ref (ad 29)), (5, .ref (ad 30)), (6, .ref (ad 31)), (7, .ref (ad 32)), (8, .ref (ad 33)), (9, .ref (ad 34)), (10, .ref (ad 35)), (11, .ref (ad 36))]) hx hb dL_law_82 hl (k := 12) rfl (zn_inc (k)) (by decide) rfl (fun ls hl => ?_)
        refine lv_goto (tgt := 68) hx hb dL_law_85 (by decide) ?_
        exact ih68 (k + 1) (by omega) (by omega) _ _ hP hS _ (lv_sub hl [1, 2, 3, 4, 5, 6, 7, 8, 9, 10, 11, 12, 0] rfl)
  exact lp68 (9 - (0) + 1) (0) (by omega) (by omega) _ _ hP hS _ (lv_sub hl [1, 2, 3, 4, 5, 6, 7, 8, 9, 10, 11, 12, 0] rfl)
set_option maxHeartbeats 4000000 in
set_option maxRecDepth 100000 in
theorem whole_KL {s : State} {b : Nat} (hts : ∀ w ∈ lw_tbl, w.before #[Value.ref b] s = true) (hgv : (Jvm.Cond.and given_1 narrow_1).before #[Value.ref b] s = true) : ∃ sa : Nat → Nat, KL sa (fun q => s.heap.size ≤ q) s := by
  have hgs := flat_of_before _ hgv
  obtain ⟨c0, k0, hfc, -⟩ := Cond.instantiable_spec (hts (.instantiable RX0 12) (by decide +kernel))
  obtain ⟨-, -, -, a0, -, -, -, -, -, e0⟩ := Cond.stringRef_spec hfc (hts (.stringRef RX0 116 "no such number") (by decide +kernel))
  obtain ⟨-, -, -, a1, -, -, -, -, -, e1⟩ := Cond.stringRef_spec hfc (hts (.stringRef RX0 123 "out of its range") (by decide +kernel))
  obtain ⟨-, -, -, a2, -, -, -, -, -, e2⟩ := Cond.stringRef_spec hfc (hts (.stringRef RX0 128 "not allowed as things stand") (by decide +kernel))
  obtain ⟨-, -, -, a3, -, -, -, -, -, e3⟩ := Cond.stringRef_spec hfc (hts (.stringRef RX0 131 "both wells are the same") (by decide +kernel))
  have hini := hts (.initialized Bundle.tN) (by decide +kernel)
  refine ⟨fun k => if k = 0 then a0 else if k = 1 then a1 else if k = 2 then a2 else a3, ⟨vx_Zqof (hts (.laysStatic Bundle.tN "UNASSIGNED_STACK" Bundle.steD) (by decide +kernel)) hini (hgs _ (by decide +kernel)) (fun a h => Nat.not_le.mpr h), vx_Zqof (hts (.laysStatic Bundle.tN "SUPPRESSED_SENTINEL" Bundle.listD) (by decide +kernel)) hini (hgs _ (by decide +kernel)) (fun a h => Nat.not_le.mpr h), vk_R.of (hts (.stringRef RX0 116 "no such number") (by decide +kernel)) e0, vk_R.of (hts (.stringRef RX0 123 "out of its range") (by decide +kernel)) e1, vk_R.of (hts (.stringRef RX0 128 "not allowed as things stand") (by decide +kernel)) e2, vk_R.of (hts (.stringRef RX0 131 "both wells are the same") (by decide +kernel)) e3, va_Nw.of rfl (hts (.castable eI eI) (by decide +kernel)), va_Nw.of rfl (hts (.castable eA eA) (by decide +kernel)), va_Nw.of rfl (hts (.castable eS eS) (by decide +kernel)), va_Nw.of rfl (hts (.declares (Bundle.initS "java/lang/RuntimeException")) (by decide +kernel)), va_Nw.of rfl (hts (.declares (Bundle.initS "java/lang/Exception")) (by decide +kernel)), va_Nw.of rfl (hts (.declares (Bundle.initS Bundle.tN)) (by decide +kernel))⟩, va_Nc.of (hgs (.not (.castable eS eA)) (by decide +kernel)), va_Nc.of (hgs (.not (.castable eA eI)) (by decide +kernel)), va_Nc.of (hgs (.not (.castable eS eI)) (by decide +kernel))⟩
set_option maxHeartbeats 8000000 in
set_option maxRecDepth 100000 in
theorem whole_start {p : Program} {e : Env} {s : State} {m : MethodId} {below : List Frame} {meth : Method} {c : Code} (l : Launch) (hflags : l.flags = flags0) {b L : Nat} {xs : Nat → Int32} (hL : L ≤ 260) (C0 : lw_At p s m meth c b L xs) : W p l e room_1 s m #[Value.ref b] below meth c s.heap [] 0 0 (lw_Z below #[Value.ref b] s) (entryFrame m ([Value.ref b] : List Value).toArray 19) := by
  obtain ⟨hx, hb, hr, hml, hown, hts0, hX, hbl, hlocks, hgv⟩ := id C0
  have hown : s.vm.findClass RL = some m.cls := hown
  have hb : c.code = cL_law := hb
  have hts : ∀ w ∈ wsL_law, w.before #[Value.ref b] s = true := fun w h => hts0 w (wsL_law_in w h)
  have hfl : l.stackTraces = false := by
    unfold Launch.stackTraces
    rw [hflags]
    decide +kernel
  obtain ⟨sa, hKL⟩ := whole_KL hts0 hgv
  have hA : ∀ q : Nat, s.heap.size ≤ q → (fun q : Nat => s.heap.size ≤ q) q := fun _ h => h
  obtain ⟨cc0, iS0, hKn0⟩ := u_known (C := RX0) (T := TX0) (N := 12) (n := 12) hts0 inX0 (hts0 (.instantiable RX0 12) (by decide +kernel))
  obtain ⟨D, hKc⟩ : ∃ D : va_G, ∀ (k : Nat) (q : vw_C), vwCl[k]? = some q → u_Kn s q.1 q.2.1 q.2.2 (D.1 k) (D.2 k) := by
    refine ⟨(fun _ => cc0, fun _ => iS0), ?_⟩
    intro k q hq
    match k, hq with
    | 0, hq => cases hq; exact hKn0
    | k + 1, hq => simp [vwCl] at hq
  have hS : va_S (fun q : Nat => s.heap.size ≤ q) s.heap s.heap [] := va_S.rf
  have hK : va_K D vwCl [] s := ⟨hKc, fun k q h => by simp at h⟩
  have hK0 := hK
  have hP : va_P D vwCl [] s.heap := fun k q h => by simp at h
  have hD : va_D (fun q : Nat => s.heap.size ≤ q) [] := ⟨fun i j p q h => by simp at h, fun k q h => by simp at h⟩
  have hl := lv_entry ([.ref b]) (n := 19) (Nat.le_of_ble_eq_true rfl)
  rw [lg_entry_eq]
  generalize (lg_sl ([.ref b]) ++ List.replicate (19 - (lg_sl ([.ref b])).length) Slot.unset).toArray = ls at hl ⊢
  have hl : lv_has ls 19 [(0, .ref b)] := hl
  have hAO : va_AOA .int s := va_AOA.of (hts0 (.arrayOver (.array .int)) (by decide +kernel))
  refine va_new (ci := 0) (fs := [.null, .null, .null, .null, .null, .null, .null, .null, .null, .null, .int 0, .int 0]) (C := RX0) (T := TX0) (N := 12) hx hb hts0 inX0 tyX0 tyX0_ok hown (hts0 (.classLink RL 28 RX0) (by decide +kernel)) (hts0 (.instantiable RX0 12) (by decide +kernel)) (hts0 (.initialized RX0) (by decide +kernel)) hK hP hD hS hA rfl (fun j hj => match j, hj with | 0, _ => rfl | 1, _ => rfl | 2, _ => rfl | 3, _ => rfl | 4, _ => rfl | 5, _ => rfl | 6, _ => rfl | 7, _ => rfl | 8, _ => rfl | 9, _ => rfl | 10, _ => rfl | 11, _ => rfl | n + 12, h => absurd h (by omega)) (Nat.le_of_ble_eq_true rfl) (Nat.le_of_ble_eq_true rfl) dL_law_0 (fun q0 H hP hD hS => ?_)
  have hP : va_P D vwCl [(q0, .inr (0, [.null, .null, .null, .null, .null, .null, .null, .null, .null, .null, .int 0, .int 0]))] H := hP
  have hq0 : s.heap.size ≤ q0 := hD.2 0 _ rfl
  have hlt : q0 < H.size := (hP 0 _ rfl).lt
  refine lv_dup hx hb dL_law_3 rfl ?_
  refine va_callv (A0 := fun q => s.heap.size ≤ q) (H0 := s.heap) (va_runI (As := []) (rest := [.ref q0]) ⟨hx, hb, hml, hown, hts⟩ (c0_init l (D := D) (h0 := q0) (sz := H.size)) (cwI 0 hts gL_law_X0_init rfl rfl rfl (hts0 (.initialized RX0) (by decide +kernel)) (hts0 (.methodLink RL 154 yX0_init) (by decide +kernel)) (hts0 (.instanceMethod yX0_init) (by decide +kernel)) rfl (by decide +kernel) ⟨Nat.le_of_ble_eq_true rfl, Nat.le_of_ble_eq_true rfl⟩)
    ⟨fun a U g mk q => by obtain ⟨y0, y1, y2, y3, y4, y5⟩ := q; exact ⟨y0, y1, y2, va_K.moved (u := U) (U := U.calling g mk a) (Vm.Alike.refl U.vm) y3, va_AOA.moved (u := U) (U := U.calling g mk a) (Vm.Alike.refl U.vm) y4, y5⟩, fun U hU hW => ⟨rfl, by rw [hU], by rw [hU]; exact hP, va_K.moved hW.alike hK0, va_AOA.moved hW.alike hAO, hlt⟩⟩ rfl rfl hl.1 rfl (lv_room (Nat.le_of_ble_eq_true rfl)) dL_law_4 ⟨Nat.le_of_ble_eq_true rfl, Nat.le_of_ble_eq_true rfl⟩) hS
    (fun q hq h => h.elim (fun h => by rw [h]; exact hq0) (fun h => absurd hq (Nat.not_lt.mpr h))) (fun q h => h.elim (fun h => by rw [h]; exact hq0) (fun h => Nat.le_trans hS.1 h)) (fun u t H1 locs1 ht hv hp hB hz hk hS1 => ?_)
  obtain ⟨ad, cI, cJ, cQ⟩ := u
  obtain ⟨had0, hnd0, hAd0⟩ := hp
  have had0 : ad 0 = q0 := had0
  have hnd0 : ndz 27 ad := hnd0
  have hAd0 : ∀ i, i < 27 → aIn q0 H.size (ad i) := hAd0
  have hK : va_K D vwCl [(cI, .int), (cJ, .long), (cQ, .array .int)] s := va_K.moved hv.symm hB.1
  have hP0 : va_P D vwCl (wz 27 ad (wcE ad cI cJ cQ (rall 3) (fun _ => 0) (fun _ => lN 0))) H1 := by rw [← ht]; exact hB.2
  have hAd : ∀ i, i < 27 → zA s.heap.size (ad i) := fun i hi => (hAd0 i hi).elim (fun h => by rw [h]; exact hq0) (fun h => Nat.le_trans hS.1 h)
  have hS0 : va_S (zA s.heap.size) s.heap H1 locs1 := hS1
  subst had0
  refine lv_astore_n (lv' := [(1, .ref (ad 0)), (0, .ref b)]) hx hb dL_law_7 rfl hl (by decide) rfl (fun ls hl => ?_)
  refine lv_iconst (v := nI 2) hx hb dL_law_8 (by decide) ?_
  refine zn_I hx hb (hts0 (.arrayClass .int) (by decide +kernel)) hK hP0 hnd0 hAd hS0 (Nat.le_refl _) (by decide) (Nat.le_of_ble_eq_true rfl) (Nat.le_of_ble_eq_true rfl) dL_law_9 (fun a1 H2 he1 hn1 hA1 hP1 hS2 => ?_)
  refine lv_astore_n (lv' := [(2, .ref (a1 27)), (1, .ref (ad 0)), (0, .ref (b))]) hx hb dL_law_11 rfl hl (by decide) rfl (fun ls hl => ?_)
  have hl := lv_cast (l2 := [(2, .ref (a1 27)), (1, .ref (a1 0)), (0, .ref (b))]) hl (by rw [he1 0 (by omega)])
  refine lv_bipush (v := nI 15) hx hb dL_law_12 (by decide) ?_
  refine zn_I hx hb (hts0 (.arrayClass .int) (by decide +kernel)) hK hP1 hn1 hA1 hS2 (Nat.le_refl _) (by decide) (Nat.le_of_ble_eq_true rfl) (Nat.le_of_ble_eq_true rfl) dL_law_14 (fun a2 H3 he2 hn2 hA2 hP2 hS3 => ?_)
  refine lv_astore_n (lv' := [(3, .ref (a2 28)), (2, .ref (a1 27)), (1, .ref (a1 0)), (0, .ref (b))]) hx hb dL_law_16 rfl hl (by decide) rfl (fun ls hl => ?_)
  have hl := lv_cast (l2 := [(3, .ref (a2 28)), (2, .ref (a2 27)), (1, .ref (a2 0)), (0, .ref (b))]) hl (by rw [he2 27 (by omega), he2 0 (by omega)])
  refine lv_bipush (v := nI 6) hx hb dL_law_17 (by decide) ?_
  refine zn_I hx hb (hts0 (.arrayClass .int) (by decide +kernel)) hK hP2 hn2 hA2 hS3 (Nat.le_refl _) (by decide) (Nat.le_of_ble_eq_true rfl) (Nat.le_of_ble_eq_true rfl) dL_law_19 (fun a3 H4 he3 hn3 hA3 hP3 hS4 => ?_)
  refine lv_astore (lv' := [(4, .ref (a3 29)), (3, .ref (a2 28)), (2, .ref (a2 27)), (1, .ref (a2 0)), (0, .ref (b))]) hx hb dL_law_21 hl (by decide) rfl (fun ls hl => ?_)
  have hl := lv_cast (l2 := [(4, .ref (a3 29)), (3, .ref (a3 28)), (2, .ref (a3 27)), (1, .ref (a3 0)), (0, .ref (b))]) hl (by rw [he3 28 (by omega), he3 27 (by omega), he3 0 (by omega)])
  refine lv_bipush (v := nI 60) hx hb dL_law_23 (by decide) ?_
  refine zn_I hx hb (hts0 (.arrayClass .int) (by decide +kernel)) hK hP3 hn3 hA3 hS4 (Nat.le_refl _) (by decide) (Nat.le_of_ble_eq_true rfl) (Nat.le_of_ble_eq_true rfl) dL_law_25 (fun a4 H5 he4 hn4 hA4 hP4 hS5 => ?_)
  refine lv_astore (lv' := [(5, .ref (a4 30)), (4, .ref (a3 29)), (3, .ref (a3 28)), (2, .ref (a3 27)), (1, .ref (a3 0)), (0, .ref (b))]) hx hb dL_law_27 hl (by decide) rfl (fun ls hl => ?_)
  have hl := lv_cast (l2 := [(5, .ref (a4 30)), (4, .ref (a4 29)), (3, .ref (a4 28)), (2, .ref (a4 27)), (1, .ref (a4 0)), (0, .ref (b))]) hl (by rw [he4 29 (by omega), he4 28 (by omega), he4 27 (by omega), he4 0 (by omega)])
  refine lv_bipush (v := nI 9) hx hb dL_law_29 (by decide) ?_
  refine zn_I hx hb (hts0 (.arrayClass .int) (by decide +kernel)) hK hP4 hn4 hA4 hS5 (Nat.le_refl _) (by decide) (Nat.le_of_ble_eq_true rfl) (Nat.le_of_ble_eq_true rfl) dL_law_31 (fun a5 H6 he5 hn5 hA5 hP5 hS6 => ?_)
  refine lv_astore (lv' := [(6, .ref (a5 31)), (5, .ref (a4 30)), (4, .ref (a4 29)), (3, .ref (a4 28)), (2, .ref (a4 27)), (1, .ref (a4 0)), (0, .ref (b))]) hx hb dL_law_33 hl (by decide) rfl (fun ls hl => ?_)
  have hl := lv_cast (l2 := [(6, .ref (a5 31)), (5, .ref (a5 30)), (4, .ref (a5 29)), (3, .ref (a5 28)), (2, .ref (a5 27)), (1, .ref (a5 0)), (0, .ref (b))]) hl (by rw [he5 30 (by omega), he5 29 (by omega), he5 28 (by omega), he5 27 (by omega), he5 0 (by omega)])
  refine lv_bipush (v := nI 36) hx hb dL_law_35 (by decide) ?_
  refine zn_I hx hb (hts0 (.arrayClass .int) (by decide +kernel)) hK hP5 hn5 hA5 hS6 (Nat.le_refl _) (by decide) (Nat.le_of_ble_eq_true rfl) (Nat.le_of_ble_eq_true rfl) dL_law_37 (fun a6 H7 he6 hn6 hA6 hP6 hS7 => ?_)
  refine lv_astore (lv' := [(7, .ref (a6 32)), (6, .ref (a5 31)), (5, .ref (a5 30)), (4, .ref (a5 29)), (3, .ref (a5 28)), (2, .ref (a5 27)), (1, .ref (a5 0)), (0, .ref (b))]) hx hb dL_law_39 hl (by decide) rfl (fun ls hl => ?_)
  have hl := lv_cast (l2 := [(7, .ref (a6 32)), (6, .ref (a6 31)), (5, .ref (a6 30)), (4, .ref (a6 29)), (3, .ref (a6 28)), (2, .ref (a6 27)), (1, .ref (a6 0)), (0, .ref (b))]) hl (by rw [he6 31 (by omega), he6 30 (by omega), he6 29 (by omega), he6 28 (by omega), he6 27 (by omega), he6 0 (by omega)])
  refine lv_bipush (v := nI 36) hx hb dL_law_41 (by decide) ?_
  refine zn_I hx hb (hts0 (.arrayClass .int) (by decide +kernel)) hK hP6 hn6 hA6 hS7 (Nat.le_refl _) (by decide) (Nat.le_of_ble_eq_true rfl) (Nat.le_of_ble_eq_true rfl) dL_law_43 (fun a7 H8 he7 hn7 hA7 hP7 hS8 => ?_)
  refine lv_astore (lv' := [(8, .ref (a7 33)), (7, .ref (a6 32)), (6, .ref (a6 31)), (5, .ref (a6 30)), (4, .ref (a6 29)), (3, .ref (a6 28)), (2, .ref (a6 27)), (1, .ref (a6 0)), (0, .ref (b))]) hx hb dL_law_45 hl (by decide) rfl (fun ls hl => ?_)
  have hl := lv_cast (l2 := [(8, .ref (a7 33)), (7, .ref (a7 32)), (6, .ref (a7 31)), (5, .ref (a7 30)), (4, .ref (a7 29)), (3, .ref (a7 28)), (2, .ref (a7 27)), (1, .ref (a7 0)), (0, .ref (b))]) hl (by rw [he7 32 (by omega), he7 31 (by omega), he7 30 (by omega), he7 29 (by omega), he7 28 (by omega), he7 27 (by omega), he7 0 (by omega)])
  refine lv_bipush (v := nI 36) hx hb dL_law_47 (by decide) ?_
  refine zn_I hx hb (hts0 (.arrayClass .int) (by decide +kernel)) hK hP7 hn7 hA7 hS8 (Nat.le_refl _) (by decide) (Nat.le_of_ble_eq_true rfl) (Nat.le_of_ble_eq_true rfl) dL_law_49 (fun a8 H9 he8 hn8 hA8 hP8 hS9 => ?_)
  refine lv_astore (lv' := [(9, .ref (a8 34)), (8, .ref (a7 33)), (7, .ref (a7 32)), (6, .ref (a7 31)), (5, .ref (a7 30)), (4, .ref (a7 29)), (3, .ref (a7 28)), (2, .ref (a7 27)), (1, .ref (a7 0)), (0, .ref (b))]) hx hb dL_law_51 hl (by decide) rfl (fun ls hl => ?_)
  have hl := lv_cast (l2 := [(9, .ref (a8 34)), (8, .ref (a8 33)), (7, .ref (a8 32)), (6, .ref (a8 31)), (5, .ref (a8 30)), (4, .ref (a8 29)), (3, .ref (a8 28)), (2, .ref (a8 27)), (1, .ref (a8 0)), (0, .ref (b))]) hl (by rw [he8 33 (by omega), he8 32 (by omega), he8 31 (by omega), he8 30 (by omega), he8 29 (by omega), he8 28 (by omega), he8 27 (by omega), he8 0 (by omega)])
  refine lv_bipush (v := nI 36) hx hb dL_law_53 (by decide) ?_
  refine zn_I hx hb (hts0 (.arrayClass .int) (by decide +kernel)) hK hP8 hn8 hA8 hS9 (Nat.le_refl _) (by decide) (Nat.le_of_ble_eq_true rfl) (Nat.le_of_ble_eq_true rfl) dL_law_55 (fun a9 H10 he9 hn9 hA9 hP9 hS10 => ?_)
  refine lv_astore (lv' := [(10, .ref (a9 35)), (9, .ref (a8 34)), (8, .ref (a8 33)), (7, .ref (a8 32)), (6, .ref (a8 31)), (5, .ref (a8 30)), (4, .ref (a8 29)), (3, .ref (a8 28)), (2, .ref (a8 27)), (1, .ref (a8 0)), (0, .ref (b))]) hx hb dL_law_57 hl (by decide) rfl (fun ls hl => ?_)
  have hl := lv_cast (l2 := [(10, .ref (a9 35)), (9, .ref (a9 34)), (8, .ref (a9 33)), (7, .ref (a9 32)), (6, .ref (a9 31)), (5, .ref (a9 30)), (4, .ref (a9 29)), (3, .ref (a9 28)), (2, .ref (a9 27)), (1, .ref (a9 0)), (0, .ref (b))]) hl (by rw [he9 34 (by omega), he9 33 (by omega), he9 32 (by omega), he9 31 (by omega), he9 30 (by omega), he9 29 (by omega), he9 28 (by omega), he9 27 (by omega), he9 0 (by omega)])
  refine lv_bipush (v := nI 36) hx hb dL_law_59 (by decide) ?_
  refine zn_I hx hb (hts0 (.arrayClass .int) (by decide +kernel)) hK hP9 hn9 hA9 hS10 (Nat.le_refl _) (by decide) (Nat.le_of_ble_eq_true rfl) (Nat.le_of_ble_eq_true rfl) dL_law_61 (fun a10 H11 he10 hn10 hA10 hP10 hS11 => ?_)
  refine lv_astore (lv' := [(11, .ref (a10 36)), (10, .ref (a9 35)), (9, .ref (a9 34)), (8, .ref (a9 33)), (7, .ref (a9 32)), (6, .ref (a9 31)), (5, .ref (a9 30)), (4, .ref (a9 29)), (3, .ref (a9 28)), (2, .ref (a9 27)), (1, .ref (a9 0)), (0, .ref (b))]) hx hb dL_law_63 hl (by decide) rfl (fun ls hl => ?_)
  have hl := lv_cast (l2 := [(11, .ref (a10 36)), (10, .ref (a10 35)), (9, .ref (a10 34)), (8, .ref (a10 33)), (7, .ref (a10 32)), (6, .ref (a10 31)), (5, .ref (a10 30)), (4, .ref (a10 29)), (3, .ref (a10 28)), (2, .ref (a10 27)), (1, .ref (a10 0)), (0, .ref (b))]) hl (by rw [he10 35 (by omega), he10 34 (by omega), he10 33 (by omega), he10 32 (by omega), he10 31 (by omega), he10 30 (by omega), he10 29 (by omega), he10 28 (by omega), he10 27 (by omega), he10 0 (by omega)])
  have he : ∀ k, k < 27 → a10 k = ad k := fun k hk => (he10 k (by omega)).trans ((he9 k (by omega)).trans ((he8 k (by omega)).trans ((he7 k (by omega)).trans ((he6 k (by omega)).trans ((he5 k (by omega)).trans ((he4 k (by omega)).trans ((he3 k (by omega)).trans ((he2 k (by omega)).trans (he1 k (by omega))))))))))
  have hPz := wx_start (X := fun _ => .inl (cI, 0, .inl (fun _ => nI 0))) he hP10
  refine W.widen (k := 500) (n := 5000) (Nat.le_of_ble_eq_true rfl) (Nat.le_of_ble_eq_true rfl) ?_
  refine law_fill hx hb hml hown hts hX hbl hL hfl hKL hK hn10 hA10 (fun H locs ls cells slots hc hs hS => ?_) hPz hS11 (lv_sub hl [11, 10, 9, 8, 7, 6, 5, 4, 3, 2, 1, 0] rfl)
  refine va_forget hS.2.2 (W.widen (k := 600130) (n := 7301080) hc hs ?_)
  refine lv_iconst (v := 1) hx hb dL_law_427 (by decide) ?_
  exact lw_ret hx hb hr hlocks dL_law_428
