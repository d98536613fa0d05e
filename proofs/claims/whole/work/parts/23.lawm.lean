/-! the law's own methods, one for each call of the class -/
theorem ixB_lt {p : Int32} {n : Nat} (hn : n < 2 ^ 31) (h : ixB p n = true) : clN p < n := by
  obtain ⟨j, hj, rfl⟩ := ixB_of hn h
  rw [clN_nI (by omega)]
  exact hj
theorem hTs_rst {M : Mdl} {ts : Nat → Nat} {w m : Nat} (h : hTs M ts) : ∀ {k : Nat}, hTs (rst M w m k) ts
  | 0 => h
  | k + 1 => hTs_k (hTs_rst h) (fun r hr => by omega)

set_option maxHeartbeats 4000000 in
theorem w0_well (l : Launch) (hfl : l.stackTraces = false) {D : va_G} {ad : Nat → Nat} {cI cJ cQ : ClassId} {M : Mdl} {ts : Nat → Nat} {pu : Nat → Int64} {o : Int64} {sa : Nat → Nat} {Z : Nat → Prop} {sz : Nat} (hI : Inv M) (hnd : ndz 28 ad) (hT : hTs M ts) (p0 p1 p2 : Int32) : vx_Met l yL_well wsL_well (rmX 2 4) (va_Pc [.ref (ad 0), .int p0, .int p1, .int p2, .ref (ad 27)] (KW D ad cI cJ cQ M ts pu o sa Z sz)) (va_Qi (fun r_ (u_ : Int64 × (Nat → Nat) × (Nat → Int64)) => r_ = nI (cd2 (rgB p0 (nI 0) (nI 99) && rgB p1 (nI 0) (nI 2) && rgB p2 (nI 0) (nI 5000)) (decide (M 0 0 < 8))) ∧ ((cd2 (rgB p0 (nI 0) (nI 99) && rgB p1 (nI 0) (nI 2) && rgB p2 (nI 0) (nI 5000)) (decide (M 0 0 < 8))) = 0 → u_.1 = (nI (M 0 0)).toInt64) ∧ hTs (moC (cd2 (rgB p0 (nI 0) (nI 99) && rgB p1 (nI 0) (nI 2) && rgB p2 (nI 0) (nI 5000)) (decide (M 0 0 < 8))) (nx_well M (clN p0) (clN p1) (clN p2)) M) u_.2.1) (fun (u_ : Int64 × (Nat → Nat) × (Nat → Int64)) t_ => KO D ad cI cJ cQ (moC (cd2 (rgB p0 (nI 0) (nI 99) && rgB p1 (nI 0) (nI 2) && rgB p2 (nI 0) (nI 5000)) (decide (M 0 0 < 8))) (nx_well M (clN p0) (clN p1) (clN p2)) M) u_.2.1 u_.2.2 u_.1 t_) (azs 28 ad sz)) (fun _ _ _ => False) 4 24 (azs 28 ad sz) := by
  refine mkL_Qi (S := Int64 × (Nat → Nat) × (Nat → Int64)) (post := fun r_ (u_ : Int64 × (Nat → Nat) × (Nat → Int64)) => r_ = nI (cd2 (rgB p0 (nI 0) (nI 99) && rgB p1 (nI 0) (nI 2) && rgB p2 (nI 0) (nI 5000)) (decide (M 0 0 < 8))) ∧ ((cd2 (rgB p0 (nI 0) (nI 99) && rgB p1 (nI 0) (nI 2) && rgB p2 (nI 0) (nI 5000)) (decide (M 0 0 < 8))) = 0 → u_.1 = (nI (M 0 0)).toInt64) ∧ hTs (moC (cd2 (rgB p0 (nI 0) (nI 99) && rgB p1 (nI 0) (nI 2) && rgB p2 (nI 0) (nI 5000)) (decide (M 0 0 < 8))) (nx_well M (clN p0) (clN p1) (clN p2)) M) u_.2.1) (BQ := fun (u_ : Int64 × (Nat → Nat) × (Nat → Int64)) t_ => KO D ad cI cJ cQ (moC (cd2 (rgB p0 (nI 0) (nI 99) && rgB p1 (nI 0) (nI 2) && rgB p2 (nI 0) (nI 5000)) (decide (M 0 0 < 8))) (nx_well M (clN p0) (clN p1) (clN p2)) M) u_.2.1 u_.2.2 u_.1 t_) (cc := cL_well) (maxL := 6) (hh := [(0, 12, 15, 13), (0, 12, 19, 15)]) (by decide) rfl (Nat.le_of_ble_eq_true rfl) ?_
  intro p e s m args below meth c Q C0 htab B0 hret ls hl
  obtain ⟨hx, hb, hr, hml, hown, hts, hlocks⟩ := C0
  have hown : s.vm.findClass RL = some m.cls := hown
  obtain ⟨hsz, hX, hK, hP⟩ := B0
  subst hsz
  have hl : lv_has ls 6 [(0, .ref (ad 0)), (1, .int p0), (2, .int p1), (3, .int p2), (4, .ref (ad 27))] := hl
  have hndc : ndz 27 ad := fun i j hi hj h => hnd i j (by omega) (by omega) h
  have hAd : ∀ i, i < 28 → azs 28 ad s.heap.size (ad i) := fun i hi => azs_i hi
  have hS0 : va_S (azs 28 ad s.heap.size) s.heap s.heap [] := va_S.rf
  refine lv_aload hx hb dL_well_0 (lv_at hl 4 rfl) ?_
  refine lv_iconst (v := nI 0) hx hb dL_well_2 (by decide) ?_
  refine lv_aload_n hx hb dL_well_3 rfl (lv_at hl 0 rfl) ?_
  refine lv_iload_n hx hb dL_well_4 rfl (lv_at hl 1 rfl) ?_
  refine lv_iload_n hx hb dL_well_5 rfl (lv_at hl 2 rfl) ?_
  refine lv_iload_n hx hb dL_well_6 rfl (lv_at hl 3 rfl) ?_
  refine zx_wi (A0 := azs 28 ad s.heap.size) (H0 := s.heap) (vx_runV (As := [.int p0, .int p1, .int p2]) (rest := [.int (nI 0), .ref (ad 27)]) ⟨hx, hb, hml, hown, hts⟩ (p0_well l hfl hI hndc p0 p1 p2) (cwV 3 hts gL_well_X0_well rfl rfl rfl (by decide +kernel) (by decide)) (pv0X (s0 := s.heap) hK (woP_c hP) hX.1 (fun a _ _ => rfl)) rfl rfl hl.1 rfl (lv_room (Nat.le_of_ble_eq_true rfl)) dL_well_7 (by decide)) hS0 (fun q _ h => h.elim (fun ⟨i, hi, he⟩ => Or.inl ⟨i, by omega, he⟩) Or.inr) (fun q h => h.elim (fun ⟨i, hi, he⟩ => Or.inl ⟨i, by omega, he⟩) Or.inr) (fun {E ce q9 H1 locs1} hp hz hk hS1 hce hcv hcl => ?_) (fun r u t H1 locs1 ht9 hv hp hB hz hk hS1 => ?_)
  · have hz9 := hz
    rcases hp with ⟨rfl, hcd⟩ | ⟨rfl, hcd⟩
    · refine vx_catch (own := RL) (name := eA) (E := eA) (ce := ce) hown [] ⟨0, 12, 15, 13⟩ [⟨0, 12, 19, 15⟩] (htab.trans rfl) (fun z hz => by cases hz) (by decide) (by decide) (hts (.classLink RL 13 eA) (by decide +kernel)) hX.1.ca hce hcv hcl ?_
      refine lv_astore (lv' := [(5, .ref q9), (0, .ref (ad 0)), (1, .int p0), (2, .int p1), (3, .int p2), (4, .ref (ad 27))]) hx hb dL_well_15 hl (by decide) rfl (fun ls hl => ?_)
      refine lv_iconst (v := nI 1) hx hb dL_well_17 (by decide) ?_
      have eM : (moC (cd2 (rgB p0 (nI 0) (nI 99) && rgB p1 (nI 0) (nI 2) && rgB p2 (nI 0) (nI 5000)) (decide (M 0 0 < 8))) (nx_well M (clN p0) (clN p1) (clN p2)) M) = M := moC_n (by rw [hcd]; decide)
      exact hret (u := (o, ts, pu)) (by decide) (by decide) ⟨congrArg nI hcd.symm, fun h => absurd (hcd.symm.trans h) (by decide), by rw [eM]; exact hT⟩ hS1 (fun t ht hA => by rw [eM]; exact ⟨va_K.moved hA hK, by rw [ht]; exact wz_old hP hk⟩) dL_well_18
    · refine vx_catch (own := RL) (name := eS) (E := eS) (ce := ce) hown [⟨0, 12, 15, 13⟩] ⟨0, 12, 19, 15⟩ [] (htab.trans rfl) (fun z hz => by cases List.mem_singleton.mp hz; exact Or.inr ⟨by decide, _, hts (.classLink RL 13 eA) (by decide +kernel), hX.2.1⟩) (by decide) (by decide) (hts (.classLink RL 15 eS) (by decide +kernel)) hX.1.cs hce hcv hcl ?_
      refine lv_astore (lv' := [(5, .ref q9), (0, .ref (ad 0)), (1, .int p0), (2, .int p1), (3, .int p2), (4, .ref (ad 27))]) hx hb dL_well_19 hl (by decide) rfl (fun ls hl => ?_)
      refine lv_iconst (v := nI 2) hx hb dL_well_21 (by decide) ?_
      have eM : (moC (cd2 (rgB p0 (nI 0) (nI 99) && rgB p1 (nI 0) (nI 2) && rgB p2 (nI 0) (nI 5000)) (decide (M 0 0 < 8))) (nx_well M (clN p0) (clN p1) (clN p2)) M) = M := moC_n (by rw [hcd]; decide)
      exact hret (u := (o, ts, pu)) (by decide) (by decide) ⟨congrArg nI hcd.symm, fun h => absurd (hcd.symm.trans h) (by decide), by rw [eM]; exact hT⟩ hS1 (fun t ht hA => by rw [eM]; exact ⟨va_K.moved hA hK, by rw [ht]; exact wz_old hP hk⟩) dL_well_22
  · obtain ⟨hg, rfl⟩ := hp
    have hcd : cd2 (rgB p0 (nI 0) (nI 99) && rgB p1 (nI 0) (nI 2) && rgB p2 (nI 0) (nI 5000)) (decide (M 0 0 < 8)) = 0 := cd2_t hg
    have hP1 := woP_next hP hnd hk (by rw [← ht9]; exact hB.2)
    refine lv_i2l hx hb dL_well_10 rfl ?_
    refine zl_st hx hb hK hP1 hnd hAd hS1 27 (by decide) 1 rfl rfl (by decide) (i := 0) (by decide) _ (woS_o (i := 0)) dL_well_11 (fun H2 locs2 hP2 hS2 => ?_)
    have hP2 := woP_set hP2
    refine lv_goto (tgt := 23) hx hb dL_well_12 (by decide) ?_
    refine lv_iconst (v := nI 0) hx hb dL_well_23 (by decide) ?_
    have eM : (moC (cd2 (rgB p0 (nI 0) (nI 99) && rgB p1 (nI 0) (nI 2) && rgB p2 (nI 0) (nI 5000)) (decide (M 0 0 < 8))) (nx_well M (clN p0) (clN p1) (clN p2)) M) = nx_well M (clN p0) (clN p1) (clN p2) := moC_z hcd
    have hTn : hTs (moC (cd2 (rgB p0 (nI 0) (nI 99) && rgB p1 (nI 0) (nI 2) && rgB p2 (nI 0) (nI 5000)) (decide (M 0 0 < 8))) (nx_well M (clN p0) (clN p1) (clN p2)) M) (ts) := by
      rw [eM]
      exact (hTs_k (hTs_k (hTs_k (hTs_k hT (fun r hr => by omega)) (fun r hr => by omega)) (fun r hr => by omega)) (fun r hr => by omega))
    exact hret (u := (_, ts, pu)) (by decide) (by decide) ⟨congrArg nI hcd.symm, fun _ => rfl, hTn⟩ hS2 (fun t ht hA => by rw [eM]; exact ⟨va_K.moved hA hK, by rw [ht]; exact hP2⟩) dL_well_24
set_option maxHeartbeats 4000000 in
theorem w0_watch (l : Launch) (hfl : l.stackTraces = false) {D : va_G} {ad : Nat → Nat} {cI cJ cQ : ClassId} {M : Mdl} {ts : Nat → Nat} {pu : Nat → Int64} {o : Int64} {sa : Nat → Nat} {Z : Nat → Prop} {sz : Nat} (hI : Inv M) (hnd : ndz 28 ad) (hT : hTs M ts) (p0 p1 : Int32) : vx_Met l yL_watch wsL_watch (rmX 2 3) (va_Pc [.ref (ad 0), .int p0, .int p1, .ref (ad 27)] (KW D ad cI cJ cQ M ts pu o sa Z sz)) (va_Qi (fun r_ (u_ : Int64 × (Nat → Nat) × (Nat → Int64)) => r_ = nI (cd2 (rgB p0 (nI 0) (nI 99) && rgB p1 (nI 0) (nI 10000)) (decide (M 5 0 < 4))) ∧ ((cd2 (rgB p0 (nI 0) (nI 99) && rgB p1 (nI 0) (nI 10000)) (decide (M 5 0 < 4))) = 0 → u_.1 = (nI (M 5 0)).toInt64) ∧ hTs (moC (cd2 (rgB p0 (nI 0) (nI 99) && rgB p1 (nI 0) (nI 10000)) (decide (M 5 0 < 4))) (nx_watch M (clN p0) (clN p1)) M) u_.2.1) (fun (u_ : Int64 × (Nat → Nat) × (Nat → Int64)) t_ => KO D ad cI cJ cQ (moC (cd2 (rgB p0 (nI 0) (nI 99) && rgB p1 (nI 0) (nI 10000)) (decide (M 5 0 < 4))) (nx_watch M (clN p0) (clN p1)) M) u_.2.1 u_.2.2 u_.1 t_) (azs 28 ad sz)) (fun _ _ _ => False) 3 18 (azs 28 ad sz) := by
  refine mkL_Qi (S := Int64 × (Nat → Nat) × (Nat → Int64)) (post := fun r_ (u_ : Int64 × (Nat → Nat) × (Nat → Int64)) => r_ = nI (cd2 (rgB p0 (nI 0) (nI 99) && rgB p1 (nI 0) (nI 10000)) (decide (M 5 0 < 4))) ∧ ((cd2 (rgB p0 (nI 0) (nI 99) && rgB p1 (nI 0) (nI 10000)) (decide (M 5 0 < 4))) = 0 → u_.1 = (nI (M 5 0)).toInt64) ∧ hTs (moC (cd2 (rgB p0 (nI 0) (nI 99) && rgB p1 (nI 0) (nI 10000)) (decide (M 5 0 < 4))) (nx_watch M (clN p0) (clN p1)) M) u_.2.1) (BQ := fun (u_ : Int64 × (Nat → Nat) × (Nat → Int64)) t_ => KO D ad cI cJ cQ (moC (cd2 (rgB p0 (nI 0) (nI 99) && rgB p1 (nI 0) (nI 10000)) (decide (M 5 0 < 4))) (nx_watch M (clN p0) (clN p1)) M) u_.2.1 u_.2.2 u_.1 t_) (cc := cL_watch) (maxL := 5) (hh := [(0, 10, 13, 13), (0, 10, 17, 15)]) (by decide) rfl (Nat.le_of_ble_eq_true rfl) ?_
  intro p e s m args below meth c Q C0 htab B0 hret ls hl
  obtain ⟨hx, hb, hr, hml, hown, hts, hlocks⟩ := C0
  have hown : s.vm.findClass RL = some m.cls := hown
  obtain ⟨hsz, hX, hK, hP⟩ := B0
  subst hsz
  have hl : lv_has ls 5 [(0, .ref (ad 0)), (1, .int p0), (2, .int p1), (3, .ref (ad 27))] := hl
  have hndc : ndz 27 ad := fun i j hi hj h => hnd i j (by omega) (by omega) h
  have hAd : ∀ i, i < 28 → azs 28 ad s.heap.size (ad i) := fun i hi => azs_i hi
  have hS0 : va_S (azs 28 ad s.heap.size) s.heap s.heap [] := va_S.rf
  refine lv_aload_n hx hb dL_watch_0 rfl (lv_at hl 3 rfl) ?_
  refine lv_iconst (v := nI 0) hx hb dL_watch_1 (by decide) ?_
  refine lv_aload_n hx hb dL_watch_2 rfl (lv_at hl 0 rfl) ?_
  refine lv_iload_n hx hb dL_watch_3 rfl (lv_at hl 1 rfl) ?_
  refine lv_iload_n hx hb dL_watch_4 rfl (lv_at hl 2 rfl) ?_
  refine zx_wi (A0 := azs 28 ad s.heap.size) (H0 := s.heap) (vx_runV (As := [.int p0, .int p1]) (rest := [.int (nI 0), .ref (ad 27)]) ⟨hx, hb, hml, hown, hts⟩ (p0_watch l hfl hI hndc p0 p1) (cwV 2 hts gL_watch_X0_watch rfl rfl rfl (by decide +kernel) (by decide)) (pv0X (s0 := s.heap) hK (woP_c hP) hX.1 (fun a _ _ => rfl)) rfl rfl hl.1 rfl (lv_room (Nat.le_of_ble_eq_true rfl)) dL_watch_5 (by decide)) hS0 (fun q _ h => h.elim (fun ⟨i, hi, he⟩ => Or.inl ⟨i, by omega, he⟩) Or.inr) (fun q h => h.elim (fun ⟨i, hi, he⟩ => Or.inl ⟨i, by omega, he⟩) Or.inr) (fun {E ce q9 H1 locs1} hp hz hk hS1 hce hcv hcl => ?_) (fun r u t H1 locs1 ht9 hv hp hB hz hk hS1 => ?_)
  · have hz9 := hz
    rcases hp with ⟨rfl, hcd⟩ | ⟨rfl, hcd⟩
    · refine vx_catch (own := RL) (name := eA) (E := eA) (ce := ce) hown [] ⟨0, 10, 13, 13⟩ [⟨0, 10, 17, 15⟩] (htab.trans rfl) (fun z hz => by cases hz) (by decide) (by decide) (hts (.classLink RL 13 eA) (by decide +kernel)) hX.1.ca hce hcv hcl ?_
      refine lv_astore (lv' := [(4, .ref q9), (0, .ref (ad 0)), (1, .int p0), (2, .int p1), (3, .ref (ad 27))]) hx hb dL_watch_13 hl (by decide) rfl (fun ls hl => ?_)
      refine lv_iconst (v := nI 1) hx hb dL_watch_15 (by decide) ?_
      have eM : (moC (cd2 (rgB p0 (nI 0) (nI 99) && rgB p1 (nI 0) (nI 10000)) (decide (M 5 0 < 4))) (nx_watch M (clN p0) (clN p1)) M) = M := moC_n (by rw [hcd]; decide)
      exact hret (u := (o, ts, pu)) (by decide) (by decide) ⟨congrArg nI hcd.symm, fun h => absurd (hcd.symm.trans h) (by decide), by rw [eM]; exact hT⟩ hS1 (fun t ht hA => by rw [eM]; exact ⟨va_K.moved hA hK, by rw [ht]; exact wz_old hP hk⟩) dL_watch_16
    · refine vx_catch (own := RL) (name := eS) (E := eS) (ce := ce) hown [⟨0, 10, 13, 13⟩] ⟨0, 10, 17, 15⟩ [] (htab.trans rfl) (fun z hz => by cases List.mem_singleton.mp hz; exact Or.inr ⟨by decide, _, hts (.classLink RL 13 eA) (by decide +kernel), hX.2.1⟩) (by decide) (by decide) (hts (.classLink RL 15 eS) (by decide +kernel)) hX.1.cs hce hcv hcl ?_
      refine lv_astore (lv' := [(4, .ref q9), (0, .ref (ad 0)), (1, .int p0), (2, .int p1), (3, .ref (ad 27))]) hx hb dL_watch_17 hl (by decide) rfl (fun ls hl => ?_)
      refine lv_iconst (v := nI 2) hx hb dL_watch_19 (by decide) ?_
      have eM : (moC (cd2 (rgB p0 (nI 0) (nI 99) && rgB p1 (nI 0) (nI 10000)) (decide (M 5 0 < 4))) (nx_watch M (clN p0) (clN p1)) M) = M := moC_n (by rw [hcd]; decide)
      exact hret (u := (o, ts, pu)) (by decide) (by decide) ⟨congrArg nI hcd.symm, fun h => absurd (hcd.symm.trans h) (by decide), by rw [eM]; exact hT⟩ hS1 (fun t ht hA => by rw [eM]; exact ⟨va_K.moved hA hK, by rw [ht]; exact wz_old hP hk⟩) dL_watch_20
  · obtain ⟨hg, rfl⟩ := hp
    have hcd : cd2 (rgB p0 (nI 0) (nI 99) && rgB p1 (nI 0) (nI 10000)) (decide (M 5 0 < 4)) = 0 := cd2_t hg
    have hP1 := woP_next hP hnd hk (by rw [← ht9]; exact hB.2)
    refine lv_i2l hx hb dL_watch_8 rfl ?_
    refine zl_st hx hb hK hP1 hnd hAd hS1 27 (by decide) 1 rfl rfl (by decide) (i := 0) (by decide) _ (woS_o (i := 0)) dL_watch_9 (fun H2 locs2 hP2 hS2 => ?_)
    have hP2 := woP_set hP2
    refine lv_goto (tgt := 21) hx hb dL_watch_10 (by decide) ?_
    refine lv_iconst (v := nI 0) hx hb dL_watch_21 (by decide) ?_
    have eM : (moC (cd2 (rgB p0 (nI 0) (nI 99) && rgB p1 (nI 0) (nI 10000)) (decide (M 5 0 < 4))) (nx_watch M (clN p0) (clN p1)) M) = nx_watch M (clN p0) (clN p1) := moC_z hcd
    have hTn : hTs (moC (cd2 (rgB p0 (nI 0) (nI 99) && rgB p1 (nI 0) (nI 10000)) (decide (M 5 0 < 4))) (nx_watch M (clN p0) (clN p1)) M) (ts) := by
      rw [eM]
      exact (hTs_k (hTs_k (hTs_k hT (fun r hr => by omega)) (fun r hr => by omega)) (fun r hr => by omega))
    exact hret (u := (_, ts, pu)) (by decide) (by decide) ⟨congrArg nI hcd.symm, fun _ => rfl, hTn⟩ hS2 (fun t ht hA => by rw [eM]; exact ⟨va_K.moved hA hK, by rw [ht]; exact hP2⟩) dL_watch_22
set_option maxHeartbeats 4000000 in
theorem w0_response (l : Launch) (hfl : l.stackTraces = false) {D : va_G} {ad : Nat → Nat} {cI cJ cQ : ClassId} {M : Mdl} {ts : Nat → Nat} {pu : Nat → Int64} {o : Int64} {sa : Nat → Nat} {Z : Nat → Prop} {sz : Nat} (hI : Inv M) (hnd : ndz 28 ad) (hT : hTs M ts) (p0 p1 p2 : Int32) : vx_Met l yL_response wsL_response (rmX 2 3) (va_Pc [.ref (ad 0), .int p0, .int p1, .int p2, .ref (ad 27)] (KW D ad cI cJ cQ M ts pu o sa Z sz)) (va_Qi (fun r_ (u_ : Int64 × (Nat → Nat) × (Nat → Int64)) => r_ = nI (cd2 (ixB p0 5 && ixB p1 12) (rgB p2 (nI 0) (nI 1000))) ∧ ((cd2 (ixB p0 5 && ixB p1 12) (rgB p2 (nI 0) (nI 1000))) = 0 → u_.1 = (nI (M (11 + 3 * clN p0) (clN p1))).toInt64) ∧ hTs (moC (cd2 (ixB p0 5 && ixB p1 12) (rgB p2 (nI 0) (nI 1000))) (nx_response M (clN p0) (clN p1) (clN p2)) M) u_.2.1) (fun (u_ : Int64 × (Nat → Nat) × (Nat → Int64)) t_ => KO D ad cI cJ cQ (moC (cd2 (ixB p0 5 && ixB p1 12) (rgB p2 (nI 0) (nI 1000))) (nx_response M (clN p0) (clN p1) (clN p2)) M) u_.2.1 u_.2.2 u_.1 t_) (azs 28 ad sz)) (fun _ _ _ => False) 3 18 (azs 28 ad sz) := by
  refine mkL_Qi (S := Int64 × (Nat → Nat) × (Nat → Int64)) (post := fun r_ (u_ : Int64 × (Nat → Nat) × (Nat → Int64)) => r_ = nI (cd2 (ixB p0 5 && ixB p1 12) (rgB p2 (nI 0) (nI 1000))) ∧ ((cd2 (ixB p0 5 && ixB p1 12) (rgB p2 (nI 0) (nI 1000))) = 0 → u_.1 = (nI (M (11 + 3 * clN p0) (clN p1))).toInt64) ∧ hTs (moC (cd2 (ixB p0 5 && ixB p1 12) (rgB p2 (nI 0) (nI 1000))) (nx_response M (clN p0) (clN p1) (clN p2)) M) u_.2.1) (BQ := fun (u_ : Int64 × (Nat → Nat) × (Nat → Int64)) t_ => KO D ad cI cJ cQ (moC (cd2 (ixB p0 5 && ixB p1 12) (rgB p2 (nI 0) (nI 1000))) (nx_response M (clN p0) (clN p1) (clN p2)) M) u_.2.1 u_.2.2 u_.1 t_) (cc := cL_response) (maxL := 6) (hh := [(0, 12, 15, 24), (0, 12, 19, 13)]) (by decide) rfl (Nat.le_of_ble_eq_true rfl) ?_
  intro p e s m args below meth c Q C0 htab B0 hret ls hl
  obtain ⟨hx, hb, hr, hml, hown, hts, hlocks⟩ := C0
  have hown : s.vm.findClass RL = some m.cls := hown
  obtain ⟨hsz, hX, hK, hP⟩ := B0
  subst hsz
  have hl : lv_has ls 6 [(0, .ref (ad 0)), (1, .int p0), (2, .int p1), (3, .int p2), (4, .ref (ad 27))] := hl
  have hndc : ndz 27 ad := fun i j hi hj h => hnd i j (by omega) (by omega) h
  have hAd : ∀ i, i < 28 → azs 28 ad s.heap.size (ad i) := fun i hi => azs_i hi
  have hS0 : va_S (azs 28 ad s.heap.size) s.heap s.heap [] := va_S.rf
  refine lv_aload hx hb dL_response_0 (lv_at hl 4 rfl) ?_
  refine lv_iconst (v := nI 0) hx hb dL_response_2 (by decide) ?_
  refine lv_aload_n hx hb dL_response_3 rfl (lv_at hl 0 rfl) ?_
  refine lv_iload_n hx hb dL_response_4 rfl (lv_at hl 1 rfl) ?_
  refine lv_iload_n hx hb dL_response_5 rfl (lv_at hl 2 rfl) ?_
  refine lv_iload_n hx hb dL_response_6 rfl (lv_at hl 3 rfl) ?_
  refine zx_wi (A0 := azs 28 ad s.heap.size) (H0 := s.heap) (vx_runV (As := [.int p0, .int p1, .int p2]) (rest := [.int (nI 0), .ref (ad 27)]) ⟨hx, hb, hml, hown, hts⟩ (p0_response l hfl hI hndc hT p0 p1 p2) (cwV 3 hts gL_response_X0_response rfl rfl rfl (by decide +kernel) (by decide)) (pv0X (s0 := s.heap) hK (woP_c hP) hX.1 (fun a _ _ => rfl)) rfl rfl hl.1 rfl (lv_room (Nat.le_of_ble_eq_true rfl)) dL_response_7 (by decide)) hS0 (fun q _ h => h.elim (fun ⟨i, hi, he⟩ => Or.inl ⟨i, by omega, he⟩) Or.inr) (fun q h => h.elim (fun ⟨i, hi, he⟩ => Or.inl ⟨i, by omega, he⟩) Or.inr) (fun {E ce q9 H1 locs1} hp hz hk hS1 hce hcv hcl => ?_) (fun r u t H1 locs1 ht9 hv hp hB hz hk hS1 => ?_)
  · have hz9 := hz
    rcases hp with ⟨rfl, hcd⟩ | ⟨rfl, hcd⟩
    · refine vx_catch (own := RL) (name := eI) (E := eI) (ce := ce) hown [] ⟨0, 12, 15, 24⟩ [⟨0, 12, 19, 13⟩] (htab.trans rfl) (fun z hz => by cases hz) (by decide) (by decide) (hts (.classLink RL 24 eI) (by decide +kernel)) hX.1.ci hce hcv hcl ?_
      refine lv_astore (lv' := [(5, .ref q9), (0, .ref (ad 0)), (1, .int p0), (2, .int p1), (3, .int p2), (4, .ref (ad 27))]) hx hb dL_response_15 hl (by decide) rfl (fun ls hl => ?_)
      refine lv_iconst (v := nI 1) hx hb dL_response_17 (by decide) ?_
      have eM : (moC (cd2 (ixB p0 5 && ixB p1 12) (rgB p2 (nI 0) (nI 1000))) (nx_response M (clN p0) (clN p1) (clN p2)) M) = M := moC_n (by rw [hcd]; decide)
      exact hret (u := (o, ts, pu)) (by decide) (by decide) ⟨congrArg nI hcd.symm, fun h => absurd (hcd.symm.trans h) (by decide), by rw [eM]; exact hT⟩ hS1 (fun t ht hA => by rw [eM]; exact ⟨va_K.moved hA hK, by rw [ht]; exact wz_old hP hk⟩) dL_response_18
    · refine vx_catch (own := RL) (name := eA) (E := eA) (ce := ce) hown [⟨0, 12, 15, 24⟩] ⟨0, 12, 19, 13⟩ [] (htab.trans rfl) (fun z hz => by cases List.mem_singleton.mp hz; exact Or.inr ⟨by decide, _, hts (.classLink RL 24 eI) (by decide +kernel), hX.2.2.1⟩) (by decide) (by decide) (hts (.classLink RL 13 eA) (by decide +kernel)) hX.1.ca hce hcv hcl ?_
      refine lv_astore (lv' := [(5, .ref q9), (0, .ref (ad 0)), (1, .int p0), (2, .int p1), (3, .int p2), (4, .ref (ad 27))]) hx hb dL_response_19 hl (by decide) rfl (fun ls hl => ?_)
      refine lv_iconst (v := nI 2) hx hb dL_response_21 (by decide) ?_
      have eM : (moC (cd2 (ixB p0 5 && ixB p1 12) (rgB p2 (nI 0) (nI 1000))) (nx_response M (clN p0) (clN p1) (clN p2)) M) = M := moC_n (by rw [hcd]; decide)
      exact hret (u := (o, ts, pu)) (by decide) (by decide) ⟨congrArg nI hcd.symm, fun h => absurd (hcd.symm.trans h) (by decide), by rw [eM]; exact hT⟩ hS1 (fun t ht hA => by rw [eM]; exact ⟨va_K.moved hA hK, by rw [ht]; exact wz_old hP hk⟩) dL_response_22
  · obtain ⟨hg, rfl⟩ := hp
    have hcd : cd2 (ixB p0 5 && ixB p1 12) (rgB p2 (nI 0) (nI 1000)) = 0 := cd2_t hg
    have hP1 := woP_next hP hnd hk (by rw [← ht9]; exact hB.2)
    refine lv_i2l hx hb dL_response_10 rfl ?_
    refine zl_st hx hb hK hP1 hnd hAd hS1 27 (by decide) 1 rfl rfl (by decide) (i := 0) (by decide) _ (woS_o (i := 0)) dL_response_11 (fun H2 locs2 hP2 hS2 => ?_)
    have hP2 := woP_set hP2
    refine lv_goto (tgt := 23) hx hb dL_response_12 (by decide) ?_
    refine lv_iconst (v := nI 0) hx hb dL_response_23 (by decide) ?_
    have eM : (moC (cd2 (ixB p0 5 && ixB p1 12) (rgB p2 (nI 0) (nI 1000))) (nx_response M (clN p0) (clN p1) (clN p2)) M) = nx_response M (clN p0) (clN p1) (clN p2) := moC_z hcd
    have hTn : hTs (moC (cd2 (ixB p0 5 && ixB p1 12) (rgB p2 (nI 0) (nI 1000))) (nx_response M (clN p0) (clN p1) (clN p2)) M) (nup ts (clN p0) (ts (clN p0) + clN p2 - M (11 + 3 * clN p0) (clN p1))) := by
      rw [eM]
      exact (hTs_response hT (ixB_lt (by decide) (Bool.and_eq_true_iff.mp (Bool.and_eq_true_iff.mp hg).1).1) (ixB_lt (by decide) (Bool.and_eq_true_iff.mp (Bool.and_eq_true_iff.mp hg).1).2)).2
    exact hret (u := (_, nup ts (clN p0) (ts (clN p0) + clN p2 - M (11 + 3 * clN p0) (clN p1)), pu)) (by decide) (by decide) ⟨congrArg nI hcd.symm, fun _ => rfl, hTn⟩ hS2 (fun t ht hA => by rw [eM]; exact ⟨va_K.moved hA hK, by rw [ht]; exact hP2⟩) dL_response_24
set_option maxHeartbeats 4000000 in
theorem w0_pump (l : Launch) (hfl : l.stackTraces = false) {D : va_G} {ad : Nat → Nat} {cI cJ cQ : ClassId} {M : Mdl} {ts : Nat → Nat} {pu : Nat → Int64} {o : Int64} {sa : Nat → Nat} {Z : Nat → Prop} {sz : Nat} (hI : Inv M) (hnd : ndz 28 ad) (hT : hTs M ts) (p0 p1 p2 : Int32) : vx_Met l yL_pump wsL_pump (rmX 2 3) (va_Pc [.ref (ad 0), .int p0, .int p1, .int p2, .ref (ad 27)] (KW D ad cI cJ cQ M ts pu o sa Z sz)) (va_Qi (fun r_ (u_ : Int64 × (Nat → Nat) × (Nat → Int64)) => r_ = nI (cd2 (ixB p0 (M 0 0) && ixB p1 36) (rgB p2 (nI 0) (nI 1000))) ∧ ((cd2 (ixB p0 (M 0 0) && ixB p1 36) (rgB p2 (nI 0) (nI 1000))) = 0 → u_.1 = (nI (M (10 + 3 * clN p0) (clN p1))).toInt64) ∧ hTs (moC (cd2 (ixB p0 (M 0 0) && ixB p1 36) (rgB p2 (nI 0) (nI 1000))) (nx_pump M (clN p0) (clN p1) (clN p2)) M) u_.2.1) (fun (u_ : Int64 × (Nat → Nat) × (Nat → Int64)) t_ => KO D ad cI cJ cQ (moC (cd2 (ixB p0 (M 0 0) && ixB p1 36) (rgB p2 (nI 0) (nI 1000))) (nx_pump M (clN p0) (clN p1) (clN p2)) M) u_.2.1 u_.2.2 u_.1 t_) (azs 28 ad sz)) (fun _ _ _ => False) 3 18 (azs 28 ad sz) := by
  refine mkL_Qi (S := Int64 × (Nat → Nat) × (Nat → Int64)) (post := fun r_ (u_ : Int64 × (Nat → Nat) × (Nat → Int64)) => r_ = nI (cd2 (ixB p0 (M 0 0) && ixB p1 36) (rgB p2 (nI 0) (nI 1000))) ∧ ((cd2 (ixB p0 (M 0 0) && ixB p1 36) (rgB p2 (nI 0) (nI 1000))) = 0 → u_.1 = (nI (M (10 + 3 * clN p0) (clN p1))).toInt64) ∧ hTs (moC (cd2 (ixB p0 (M 0 0) && ixB p1 36) (rgB p2 (nI 0) (nI 1000))) (nx_pump M (clN p0) (clN p1) (clN p2)) M) u_.2.1) (BQ := fun (u_ : Int64 × (Nat → Nat) × (Nat → Int64)) t_ => KO D ad cI cJ cQ (moC (cd2 (ixB p0 (M 0 0) && ixB p1 36) (rgB p2 (nI 0) (nI 1000))) (nx_pump M (clN p0) (clN p1) (clN p2)) M) u_.2.1 u_.2.2 u_.1 t_) (cc := cL_pump) (maxL := 6) (hh := [(0, 12, 15, 24), (0, 12, 19, 13)]) (by decide) rfl (Nat.le_of_ble_eq_true rfl) ?_
  intro p e s m args below meth c Q C0 htab B0 hret ls hl
  obtain ⟨hx, hb, hr, hml, hown, hts, hlocks⟩ := C0
  have hown : s.vm.findClass RL = some m.cls := hown
  obtain ⟨hsz, hX, hK, hP⟩ := B0
  subst hsz
  have hl : lv_has ls 6 [(0, .ref (ad 0)), (1, .int p0), (2, .int p1), (3, .int p2), (4, .ref (ad 27))] := hl
  have hndc : ndz 27 ad := fun i j hi hj h => hnd i j (by omega) (by omega) h
  have hAd : ∀ i, i < 28 → azs 28 ad s.heap.size (ad i) := fun i hi => azs_i hi
  have hS0 : va_S (azs 28 ad s.heap.size) s.heap s.heap [] := va_S.rf
  refine lv_aload hx hb dL_pump_0 (lv_at hl 4 rfl) ?_
  refine lv_iconst (v := nI 0) hx hb dL_pump_2 (by decide) ?_
  refine lv_aload_n hx hb dL_pump_3 rfl (lv_at hl 0 rfl) ?_
  refine lv_iload_n hx hb dL_pump_4 rfl (lv_at hl 1 rfl) ?_
  refine lv_iload_n hx hb dL_pump_5 rfl (lv_at hl 2 rfl) ?_
  refine lv_iload_n hx hb dL_pump_6 rfl (lv_at hl 3 rfl) ?_
  refine zx_wi (A0 := azs 28 ad s.heap.size) (H0 := s.heap) (vx_runV (As := [.int p0, .int p1, .int p2]) (rest := [.int (nI 0), .ref (ad 27)]) ⟨hx, hb, hml, hown, hts⟩ (p0_pump l hfl hI hndc p0 p1 p2) (cwV 3 hts gL_pump_X0_pump rfl rfl rfl (by decide +kernel) (by decide)) (pv0X (s0 := s.heap) hK (woP_c hP) hX.1 (fun a _ _ => rfl)) rfl rfl hl.1 rfl (lv_room (Nat.le_of_ble_eq_true rfl)) dL_pump_7 (by decide)) hS0 (fun q _ h => h.elim (fun ⟨i, hi, he⟩ => Or.inl ⟨i, by omega, he⟩) Or.inr) (fun q h => h.elim (fun ⟨i, hi, he⟩ => Or.inl ⟨i, by omega, he⟩) Or.inr) (fun {E ce q9 H1 locs1} hp hz hk hS1 hce hcv hcl => ?_) (fun r u t H1 locs1 ht9 hv hp hB hz hk hS1 => ?_)
  · have hz9 := hz
    rcases hp with ⟨rfl, hcd⟩ | ⟨rfl, hcd⟩
    · refine vx_catch (own := RL) (name := eI) (E := eI) (ce := ce) hown [] ⟨0, 12, 15, 24⟩ [⟨0, 12, 19, 13⟩] (htab.trans rfl) (fun z hz => by cases hz) (by decide) (by decide) (hts (.classLink RL 24 eI) (by decide +kernel)) hX.1.ci hce hcv hcl ?_
      refine lv_astore (lv' := [(5, .ref q9), (0, .ref (ad 0)), (1, .int p0), (2, .int p1), (3, .int p2), (4, .ref (ad 27))]) hx hb dL_pump_15 hl (by decide) rfl (fun ls hl => ?_)
      refine lv_iconst (v := nI 1) hx hb dL_pump_17 (by decide) ?_
      have eM : (moC (cd2 (ixB p0 (M 0 0) && ixB p1 36) (rgB p2 (nI 0) (nI 1000))) (nx_pump M (clN p0) (clN p1) (clN p2)) M) = M := moC_n (by rw [hcd]; decide)
      exact hret (u := (o, ts, pu)) (by decide) (by decide) ⟨congrArg nI hcd.symm, fun h => absurd (hcd.symm.trans h) (by decide), by rw [eM]; exact hT⟩ hS1 (fun t ht hA => by rw [eM]; exact ⟨va_K.moved hA hK, by rw [ht]; exact wz_old hP hk⟩) dL_pump_18
    · refine vx_catch (own := RL) (name := eA) (E := eA) (ce := ce) hown [⟨0, 12, 15, 24⟩] ⟨0, 12, 19, 13⟩ [] (htab.trans rfl) (fun z hz => by cases List.mem_singleton.mp hz; exact Or.inr ⟨by decide, _, hts (.classLink RL 24 eI) (by decide +kernel), hX.2.2.1⟩) (by decide) (by decide) (hts (.classLink RL 13 eA) (by decide +kernel)) hX.1.ca hce hcv hcl ?_
      refine lv_astore (lv' := [(5, .ref q9), (0, .ref (ad 0)), (1, .int p0), (2, .int p1), (3, .int p2), (4, .ref (ad 27))]) hx hb dL_pump_19 hl (by decide) rfl (fun ls hl => ?_)
      refine lv_iconst (v := nI 2) hx hb dL_pump_21 (by decide) ?_
      have eM : (moC (cd2 (ixB p0 (M 0 0) && ixB p1 36) (rgB p2 (nI 0) (nI 1000))) (nx_pump M (clN p0) (clN p1) (clN p2)) M) = M := moC_n (by rw [hcd]; decide)
      exact hret (u := (o, ts, pu)) (by decide) (by decide) ⟨congrArg nI hcd.symm, fun h => absurd (hcd.symm.trans h) (by decide), by rw [eM]; exact hT⟩ hS1 (fun t ht hA => by rw [eM]; exact ⟨va_K.moved hA hK, by rw [ht]; exact wz_old hP hk⟩) dL_pump_22
  · obtain ⟨hg, rfl⟩ := hp
    have hcd : cd2 (ixB p0 (M 0 0) && ixB p1 36) (rgB p2 (nI 0) (nI 1000)) = 0 := cd2_t hg
    have hP1 := woP_next hP hnd hk (by rw [← ht9]; exact hB.2)
    refine lv_i2l hx hb dL_pump_10 rfl ?_
    refine zl_st hx hb hK hP1 hnd hAd hS1 27 (by decide) 1 rfl rfl (by decide) (i := 0) (by decide) _ (woS_o (i := 0)) dL_pump_11 (fun H2 locs2 hP2 hS2 => ?_)
    have hP2 := woP_set hP2
    refine lv_goto (tgt := 23) hx hb dL_pump_12 (by decide) ?_
    refine lv_iconst (v := nI 0) hx hb dL_pump_23 (by decide) ?_
    have eM : (moC (cd2 (ixB p0 (M 0 0) && ixB p1 36) (rgB p2 (nI 0) (nI 1000))) (nx_pump M (clN p0) (clN p1) (clN p2)) M) = nx_pump M (clN p0) (clN p1) (clN p2) := moC_z hcd
    have hTn : hTs (moC (cd2 (ixB p0 (M 0 0) && ixB p1 36) (rgB p2 (nI 0) (nI 1000))) (nx_pump M (clN p0) (clN p1) (clN p2)) M) (ts) := by
      rw [eM]
      exact (hTs_k hT (fun r hr => by omega))
    exact hret (u := (_, ts, pu)) (by decide) (by decide) ⟨congrArg nI hcd.symm, fun _ => rfl, hTn⟩ hS2 (fun t ht hA => by rw [eM]; exact ⟨va_K.moved hA hK, by rw [ht]; exact hP2⟩) dL_pump_24
set_option maxHeartbeats 4000000 in
theorem w0_rest (l : Launch) (hfl : l.stackTraces = false) {D : va_G} {ad : Nat → Nat} {cI cJ cQ : ClassId} {M : Mdl} {ts : Nat → Nat} {pu : Nat → Int64} {o : Int64} {sa : Nat → Nat} {Z : Nat → Prop} {sz : Nat} (hI : Inv M) (hnd : ndz 28 ad) (hT : hTs M ts) (p0 p1 p2 : Int32) : vx_Met l yL_rest wsL_rest (rmX 2 3) (va_Pc [.ref (ad 0), .int p0, .int p1, .int p2, .ref (ad 27)] (KW D ad cI cJ cQ M ts pu o sa Z sz)) (va_Qi (fun r_ (u_ : Int64 × (Nat → Nat) × (Nat → Int64)) => r_ = nI (cd2 (ixB p0 (M 0 0) && ixB p1 36) (rgB p2 (nI 1) (nI 36))) ∧ ((cd2 (ixB p0 (M 0 0) && ixB p1 36) (rgB p2 (nI 1) (nI 36))) = 0 → u_.1 = (nI (rss M (clN p0) (clN p1) (rsn (clN p1) (clN p2)))).toInt64) ∧ hTs (moC (cd2 (ixB p0 (M 0 0) && ixB p1 36) (rgB p2 (nI 1) (nI 36))) (nx_rest M (clN p0) (clN p1) (clN p2)) M) u_.2.1) (fun (u_ : Int64 × (Nat → Nat) × (Nat → Int64)) t_ => KO D ad cI cJ cQ (moC (cd2 (ixB p0 (M 0 0) && ixB p1 36) (rgB p2 (nI 1) (nI 36))) (nx_rest M (clN p0) (clN p1) (clN p2)) M) u_.2.1 u_.2.2 u_.1 t_) (azs 28 ad sz)) (fun _ _ _ => False) 3 18 (azs 28 ad sz) := by
  refine mkL_Qi (S := Int64 × (Nat → Nat) × (Nat → Int64)) (post := fun r_ (u_ : Int64 × (Nat → Nat) × (Nat → Int64)) => r_ = nI (cd2 (ixB p0 (M 0 0) && ixB p1 36) (rgB p2 (nI 1) (nI 36))) ∧ ((cd2 (ixB p0 (M 0 0) && ixB p1 36) (rgB p2 (nI 1) (nI 36))) = 0 → u_.1 = (nI (rss M (clN p0) (clN p1) (rsn (clN p1) (clN p2)))).toInt64) ∧ hTs (moC (cd2 (ixB p0 (M 0 0) && ixB p1 36) (rgB p2 (nI 1) (nI 36))) (nx_rest M (clN p0) (clN p1) (clN p2)) M) u_.2.1) (BQ := fun (u_ : Int64 × (Nat → Nat) × (Nat → Int64)) t_ => KO D ad cI cJ cQ (moC (cd2 (ixB p0 (M 0 0) && ixB p1 36) (rgB p2 (nI 1) (nI 36))) (nx_rest M (clN p0) (clN p1) (clN p2)) M) u_.2.1 u_.2.2 u_.1 t_) (cc := cL_rest) (maxL := 6) (hh := [(0, 12, 15, 24), (0, 12, 19, 13)]) (by decide) rfl (Nat.le_of_ble_eq_true rfl) ?_
  intro p e s m args below meth c Q C0 htab B0 hret ls hl
  obtain ⟨hx, hb, hr, hml, hown, hts, hlocks⟩ := C0
  have hown : s.vm.findClass RL = some m.cls := hown
  obtain ⟨hsz, hX, hK, hP⟩ := B0
  subst hsz
  have hl : lv_has ls 6 [(0, .ref (ad 0)), (1, .int p0), (2, .int p1), (3, .int p2), (4, .ref (ad 27))] := hl
  have hndc : ndz 27 ad := fun i j hi hj h => hnd i j (by omega) (by omega) h
  have hAd : ∀ i, i < 28 → azs 28 ad s.heap.size (ad i) := fun i hi => azs_i hi
  have hS0 : va_S (azs 28 ad s.heap.size) s.heap s.heap [] := va_S.rf
  refine lv_aload hx hb dL_rest_0 (lv_at hl 4 rfl) ?_
  refine lv_iconst (v := nI 0) hx hb dL_rest_2 (by decide) ?_
  refine lv_aload_n hx hb dL_rest_3 rfl (lv_at hl 0 rfl) ?_
  refine lv_iload_n hx hb dL_rest_4 rfl (lv_at hl 1 rfl) ?_
  refine lv_iload_n hx hb dL_rest_5 rfl (lv_at hl 2 rfl) ?_
  refine lv_iload_n hx hb dL_rest_6 rfl (lv_at hl 3 rfl) ?_
  refine zx_wi (A0 := azs 28 ad s.heap.size) (H0 := s.heap) (vx_runV (As := [.int p0, .int p1, .int p2]) (rest := [.int (nI 0), .ref (ad 27)]) ⟨hx, hb, hml, hown, hts⟩ (p0_rest l hfl hI hndc p0 p1 p2) (cwV 3 hts gL_rest_X0_rest rfl rfl rfl (by decide +kernel) (by decide)) (pv0X (s0 := s.heap) hK (woP_c hP) hX.1 (fun a _ _ => rfl)) rfl rfl hl.1 rfl (lv_room (Nat.le_of_ble_eq_true rfl)) dL_rest_7 (by decide)) hS0 (fun q _ h => h.elim (fun ⟨i, hi, he⟩ => Or.inl ⟨i, by omega, he⟩) Or.inr) (fun q h => h.elim (fun ⟨i, hi, he⟩ => Or.inl ⟨i, by omega, he⟩) Or.inr) (fun {E ce q9 H1 locs1} hp hz hk hS1 hce hcv hcl => ?_) (fun r u t H1 locs1 ht9 hv hp hB hz hk hS1 => ?_)
  · have hz9 := hz
    rcases hp with ⟨rfl, hcd⟩ | ⟨rfl, hcd⟩
    · refine vx_catch (own := RL) (name := eI) (E := eI) (ce := ce) hown [] ⟨0, 12, 15, 24⟩ [⟨0, 12, 19, 13⟩] (htab.trans rfl) (fun z hz => by cases hz) (by decide) (by decide) (hts (.classLink RL 24 eI) (by decide +kernel)) hX.1.ci hce hcv hcl ?_
      refine lv_astore (lv' := [(5, .ref q9), (0, .ref (ad 0)), (1, .int p0), (2, .int p1), (3, .int p2), (4, .ref (ad 27))]) hx hb dL_rest_15 hl (by decide) rfl (fun ls hl => ?_)
      refine lv_iconst (v := nI 1) hx hb dL_rest_17 (by decide) ?_
      have eM : (moC (cd2 (ixB p0 (M 0 0) && ixB p1 36) (rgB p2 (nI 1) (nI 36))) (nx_rest M (clN p0) (clN p1) (clN p2)) M) = M := moC_n (by rw [hcd]; decide)
      exact hret (u := (o, ts, pu)) (by decide) (by decide) ⟨congrArg nI hcd.symm, fun h => absurd (hcd.symm.trans h) (by decide), by rw [eM]; exact hT⟩ hS1 (fun t ht hA => by rw [eM]; exact ⟨va_K.moved hA hK, by rw [ht]; exact wz_old hP hk⟩) dL_rest_18
    · refine vx_catch (own := RL) (name := eA) (E := eA) (ce := ce) hown [⟨0, 12, 15, 24⟩] ⟨0, 12, 19, 13⟩ [] (htab.trans rfl) (fun z hz => by cases List.mem_singleton.mp hz; exact Or.inr ⟨by decide, _, hts (.classLink RL 24 eI) (by decide +kernel), hX.2.2.1⟩) (by decide) (by decide) (hts (.classLink RL 13 eA) (by decide +kernel)) hX.1.ca hce hcv hcl ?_
      refine lv_astore (lv' := [(5, .ref q9), (0, .ref (ad 0)), (1, .int p0), (2, .int p1), (3, .int p2), (4, .ref (ad 27))]) hx hb dL_rest_19 hl (by decide) rfl (fun ls hl => ?_)
      refine lv_iconst (v := nI 2) hx hb dL_rest_21 (by decide) ?_
      have eM : (moC (cd2 (ixB p0 (M 0 0) && ixB p1 36) (rgB p2 (nI 1) (nI 36))) (nx_rest M (clN p0) (clN p1) (clN p2)) M) = M := moC_n (by rw [hcd]; decide)
      exact hret (u := (o, ts, pu)) (by decide) (by decide) ⟨congrArg nI hcd.symm, fun h => absurd (hcd.symm.trans h) (by decide), by rw [eM]; exact hT⟩ hS1 (fun t ht hA => by rw [eM]; exact ⟨va_K.moved hA hK, by rw [ht]; exact wz_old hP hk⟩) dL_rest_22
  · obtain ⟨hg, rfl⟩ := hp
    have hcd : cd2 (ixB p0 (M 0 0) && ixB p1 36) (rgB p2 (nI 1) (nI 36)) = 0 := cd2_t hg
    have hP1 := woP_next hP hnd hk (by rw [← ht9]; exact hB.2)
    refine lv_i2l hx hb dL_rest_10 rfl ?_
    refine zl_st hx hb hK hP1 hnd hAd hS1 27 (by decide) 1 rfl rfl (by decide) (i := 0) (by decide) _ (woS_o (i := 0)) dL_rest_11 (fun H2 locs2 hP2 hS2 => ?_)
    have hP2 := woP_set hP2
    refine lv_goto (tgt := 23) hx hb dL_rest_12 (by decide) ?_
    refine lv_iconst (v := nI 0) hx hb dL_rest_23 (by decide) ?_
    have eM : (moC (cd2 (ixB p0 (M 0 0) && ixB p1 36) (rgB p2 (nI 1) (nI 36))) (nx_rest M (clN p0) (clN p1) (clN p2)) M) = nx_rest M (clN p0) (clN p1) (clN p2) := moC_z hcd
    have hTn : hTs (moC (cd2 (ixB p0 (M 0 0) && ixB p1 36) (rgB p2 (nI 1) (nI 36))) (nx_rest M (clN p0) (clN p1) (clN p2)) M) (ts) := by
      rw [eM]
      exact hTs_rst hT
    exact hret (u := (_, ts, pu)) (by decide) (by decide) ⟨congrArg nI hcd.symm, fun _ => rfl, hTn⟩ hS2 (fun t ht hA => by rw [eM]; exact ⟨va_K.moved hA hK, by rw [ht]; exact hP2⟩) dL_rest_24
set_option maxHeartbeats 4000000 in
theorem w0_pumped (l : Launch) (hfl : l.stackTraces = false) {D : va_G} {ad : Nat → Nat} {cI cJ cQ : ClassId} {M : Mdl} {ts : Nat → Nat} {pu : Nat → Int64} {o : Int64} {sa : Nat → Nat} {Z : Nat → Prop} {sz : Nat} (hI : Inv M) (hnd : ndz 28 ad) (hT : hTs M ts) (p0 p1 : Int32) : vx_Met l yL_pumped wsL_pumped (rmX 2 2) (va_Pc [.ref (ad 0), .int p0, .int p1, .ref (ad 27)] (KW D ad cI cJ cQ M ts pu o sa Z sz)) (va_Qi (fun r_ (u_ : Int64 × (Nat → Nat) × (Nat → Int64)) => r_ = nI (cd1 (ixB p0 (M 0 0) && ixB p1 3)) ∧ ((cd1 (ixB p0 (M 0 0) && ixB p1 3)) = 0 → u_.1 = (nI (yr M (clN p0) (clN p1))).toInt64) ∧ hTs M u_.2.1) (fun (u_ : Int64 × (Nat → Nat) × (Nat → Int64)) t_ => KO D ad cI cJ cQ M u_.2.1 u_.2.2 u_.1 t_) (azs 28 ad sz)) (fun _ _ _ => False) 2 12 (azs 28 ad sz) := by
  refine mkL_Qi (S := Int64 × (Nat → Nat) × (Nat → Int64)) (post := fun r_ (u_ : Int64 × (Nat → Nat) × (Nat → Int64)) => r_ = nI (cd1 (ixB p0 (M 0 0) && ixB p1 3)) ∧ ((cd1 (ixB p0 (M 0 0) && ixB p1 3)) = 0 → u_.1 = (nI (yr M (clN p0) (clN p1))).toInt64) ∧ hTs M u_.2.1) (BQ := fun (u_ : Int64 × (Nat → Nat) × (Nat → Int64)) t_ => KO D ad cI cJ cQ M u_.2.1 u_.2.2 u_.1 t_) (cc := cL_pumped) (maxL := 5) (hh := [(0, 10, 13, 24)]) (by decide) rfl (Nat.le_of_ble_eq_true rfl) ?_
  intro p e s m args below meth c Q C0 htab B0 hret ls hl
  obtain ⟨hx, hb, hr, hml, hown, hts, hlocks⟩ := C0
  have hown : s.vm.findClass RL = some m.cls := hown
  obtain ⟨hsz, hX, hK, hP⟩ := B0
  subst hsz
  have hl : lv_has ls 5 [(0, .ref (ad 0)), (1, .int p0), (2, .int p1), (3, .ref (ad 27))] := hl
  have hndc : ndz 27 ad := fun i j hi hj h => hnd i j (by omega) (by omega) h
  have hAd : ∀ i, i < 28 → azs 28 ad s.heap.size (ad i) := fun i hi => azs_i hi
  have hS0 : va_S (azs 28 ad s.heap.size) s.heap s.heap [] := va_S.rf
  refine lv_aload_n hx hb dL_pumped_0 rfl (lv_at hl 3 rfl) ?_
  refine lv_iconst (v := nI 0) hx hb dL_pumped_1 (by decide) ?_
  refine lv_aload_n hx hb dL_pumped_2 rfl (lv_at hl 0 rfl) ?_
  refine lv_iload_n hx hb dL_pumped_3 rfl (lv_at hl 1 rfl) ?_
  refine lv_iload_n hx hb dL_pumped_4 rfl (lv_at hl 2 rfl) ?_
  refine zx_i (vx_runV (As := [.int p0, .int p1]) (rest := [.int (nI 0), .ref (ad 27)]) ⟨hx, hb, hml, hown, hts⟩ (p0_pumped l hfl hI p0 p1) (cwV 2 hts gL_pumped_X0_pumped rfl rfl rfl (by decide +kernel) (by decide)) (pv0X (s0 := s.heap) hK (woP_c hP) hX.1 (fun a _ _ => rfl)) rfl rfl hl.1 rfl (lv_room (Nat.le_of_ble_eq_true rfl)) dL_pumped_5 (by decide)) (fun {E ce q9 H1} hp hz hk hce hcv hcl => ?_) (fun r hp => ?_)
  · have hS1 : va_S (azs 28 ad s.heap.size) s.heap H1 [] := ⟨hz, fun q h1 _ => hk q h1, fun q h => by cases h⟩
    obtain ⟨rfl, hcd⟩ := hp
    refine vx_catch (own := RL) (name := eI) (E := eI) (ce := ce) hown [] ⟨0, 10, 13, 24⟩ [] (htab.trans rfl) (fun z hz => by cases hz) (by decide) (by decide) (hts (.classLink RL 24 eI) (by decide +kernel)) hX.1.ci hce hcv hcl ?_
    refine lv_astore (lv' := [(4, .ref q9), (0, .ref (ad 0)), (1, .int p0), (2, .int p1), (3, .ref (ad 27))]) hx hb dL_pumped_13 hl (by decide) rfl (fun ls hl => ?_)
    refine lv_iconst (v := nI 1) hx hb dL_pumped_15 (by decide) ?_
    exact hret (u := (o, ts, pu)) (by decide) (by decide) ⟨congrArg nI hcd.symm, fun h => absurd (hcd.symm.trans h) (by decide), hT⟩ hS1 (fun t ht hA => ⟨va_K.moved hA hK, by rw [ht]; exact wz_old hP hk⟩) dL_pumped_16
  · obtain ⟨hg, rfl⟩ := hp
    have hcd : cd1 (ixB p0 (M 0 0) && ixB p1 3) = 0 := cd1_t hg
    have hP1 := hP
    refine lv_i2l hx hb dL_pumped_8 rfl ?_
    refine zl_st hx hb hK hP1 hnd hAd hS0 27 (by decide) 1 rfl rfl (by decide) (i := 0) (by decide) _ (woS_o (i := 0)) dL_pumped_9 (fun H2 locs2 hP2 hS2 => ?_)
    have hP2 := woP_set hP2
    refine lv_goto (tgt := 17) hx hb dL_pumped_10 (by decide) ?_
    refine lv_iconst (v := nI 0) hx hb dL_pumped_17 (by decide) ?_
    exact hret (u := (_, ts, pu)) (by decide) (by decide) ⟨congrArg nI hcd.symm, fun _ => rfl, hT⟩ hS2 (fun t ht hA => ⟨va_K.moved hA hK, by rw [ht]; exact hP2⟩) dL_pumped_18
set_option maxHeartbeats 4000000 in
theorem w0_beyond (l : Launch) (hfl : l.stackTraces = false) {D : va_G} {ad : Nat → Nat} {cI cJ cQ : ClassId} {M : Mdl} {ts : Nat → Nat} {pu : Nat → Int64} {o : Int64} {sa : Nat → Nat} {Z : Nat → Prop} {sz : Nat} (hI : Inv M) (hnd : ndz 28 ad) (hT : hTs M ts) (p0 : Int32) : vx_Met l yL_beyond wsL_beyond (rmX 2 1) (va_Pc [.ref (ad 0), .int p0, .ref (ad 27)] (KW D ad cI cJ cQ M ts pu o sa Z sz)) (va_Qi (fun r_ (u_ : Int64 × (Nat → Nat) × (Nat → Int64)) => r_ = nI (cd1 (ixB p0 3)) ∧ ((cd1 (ixB p0 3)) = 0 → u_.1 = (nI (byd M (clN p0))).toInt64) ∧ hTs M u_.2.1) (fun (u_ : Int64 × (Nat → Nat) × (Nat → Int64)) t_ => KO D ad cI cJ cQ M u_.2.1 u_.2.2 u_.1 t_) (azs 28 ad sz)) (fun _ _ _ => False) 1 6 (azs 28 ad sz) := by
  refine mkL_Qi (S := Int64 × (Nat → Nat) × (Nat → Int64)) (post := fun r_ (u_ : Int64 × (Nat → Nat) × (Nat → Int64)) => r_ = nI (cd1 (ixB p0 3)) ∧ ((cd1 (ixB p0 3)) = 0 → u_.1 = (nI (byd M (clN p0))).toInt64) ∧ hTs M u_.2.1) (BQ := fun (u_ : Int64 × (Nat → Nat) × (Nat → Int64)) t_ => KO D ad cI cJ cQ M u_.2.1 u_.2.2 u_.1 t_) (cc := cL_beyond) (maxL := 4) (hh := [(0, 9, 12, 24)]) (by decide) rfl (Nat.le_of_ble_eq_true rfl) ?_
  intro p e s m args below meth c Q C0 htab B0 hret ls hl
  obtain ⟨hx, hb, hr, hml, hown, hts, hlocks⟩ := C0
  have hown : s.vm.findClass RL = some m.cls := hown
  obtain ⟨hsz, hX, hK, hP⟩ := B0
  subst hsz
  have hl : lv_has ls 4 [(0, .ref (ad 0)), (1, .int p0), (2, .ref (ad 27))] := hl
  have hndc : ndz 27 ad := fun i j hi hj h => hnd i j (by omega) (by omega) h
  have hAd : ∀ i, i < 28 → azs 28 ad s.heap.size (ad i) := fun i hi => azs_i hi
  have hS0 : va_S (azs 28 ad s.heap.size) s.heap s.heap [] := va_S.rf
  refine lv_aload_n hx hb dL_beyond_0 rfl (lv_at hl 2 rfl) ?_
  refine lv_iconst (v := nI 0) hx hb dL_beyond_1 (by decide) ?_
  refine lv_aload_n hx hb dL_beyond_2 rfl (lv_at hl 0 rfl) ?_
  refine lv_iload_n hx hb dL_beyond_3 rfl (lv_at hl 1 rfl) ?_
  refine zx_i (vx_runV (As := [.int p0]) (rest := [.int (nI 0), .ref (ad 27)]) ⟨hx, hb, hml, hown, hts⟩ (p0_beyond l hfl hI p0) (cwV 1 hts gL_beyond_X0_beyond rfl rfl rfl (by decide +kernel) (by decide)) (pv0X (s0 := s.heap) hK (woP_c hP) hX.1 (fun a _ _ => rfl)) rfl rfl hl.1 rfl (lv_room (Nat.le_of_ble_eq_true rfl)) dL_beyond_4 (by decide)) (fun {E ce q9 H1} hp hz hk hce hcv hcl => ?_) (fun r hp => ?_)
  · have hS1 : va_S (azs 28 ad s.heap.size) s.heap H1 [] := ⟨hz, fun q h1 _ => hk q h1, fun q h => by cases h⟩
    obtain ⟨rfl, hcd⟩ := hp
    refine vx_catch (own := RL) (name := eI) (E := eI) (ce := ce) hown [] ⟨0, 9, 12, 24⟩ [] (htab.trans rfl) (fun z hz => by cases hz) (by decide) (by decide) (hts (.classLink RL 24 eI) (by decide +kernel)) hX.1.ci hce hcv hcl ?_
    refine lv_astore_n (lv' := [(3, .ref q9), (0, .ref (ad 0)), (1, .int p0), (2, .ref (ad 27))]) hx hb dL_beyond_12 rfl hl (by decide) rfl (fun ls hl => ?_)
    refine lv_iconst (v := nI 1) hx hb dL_beyond_13 (by decide) ?_
    exact hret (u := (o, ts, pu)) (by decide) (by decide) ⟨congrArg nI hcd.symm, fun h => absurd (hcd.symm.trans h) (by decide), hT⟩ hS1 (fun t ht hA => ⟨va_K.moved hA hK, by rw [ht]; exact wz_old hP hk⟩) dL_beyond_14
  · obtain ⟨hg, rfl⟩ := hp
    have hcd : cd1 (ixB p0 3) = 0 := cd1_t hg
    have hP1 := hP
    refine lv_i2l hx hb dL_beyond_7 rfl ?_
    refine zl_st hx hb hK hP1 hnd hAd hS0 27 (by decide) 1 rfl rfl (by decide) (i := 0) (by decide) _ (woS_o (i := 0)) dL_beyond_8 (fun H2 locs2 hP2 hS2 => ?_)
    have hP2 := woP_set hP2
    refine lv_goto (tgt := 15) hx hb dL_beyond_9 (by decide) ?_
    refine lv_iconst (v := nI 0) hx hb dL_beyond_15 (by decide) ?_
    exact hret (u := (_, ts, pu)) (by decide) (by decide) ⟨congrArg nI hcd.symm, fun _ => rfl, hT⟩ hS2 (fun t ht hA => ⟨va_K.moved hA hK, by rw [ht]; exact hP2⟩) dL_beyond_16
set_option maxHeartbeats 4000000 in
theorem w0_drawdown (l : Launch) (hfl : l.stackTraces = false) {D : va_G} {ad : Nat → Nat} {cI cJ cQ : ClassId} {M : Mdl} {ts : Nat → Nat} {pu : Nat → Int64} {o : Int64} {sa : Nat → Nat} {Z : Nat → Prop} {sz : Nat} (hI : Inv M) (hnd : ndz 28 ad) (hT : hTs M ts) (p0 p1 : Int32) : vx_Met l yL_drawdown wsL_drawdown (rmX 3 2) (va_Pc [.ref (ad 0), .int p0, .int p1, .ref (ad 27)] (KW D ad cI cJ cQ M ts pu o sa Z sz)) (va_Qi (fun r_ (u_ : Int64 × (Nat → Nat) × (Nat → Int64)) => r_ = nI (cd1 (ixB p0 (M 5 0) && ixB p1 36)) ∧ ((cd1 (ixB p0 (M 5 0) && ixB p1 36)) = 0 → u_.1 = lN (dd M (clN p0) (clN p1))) ∧ hTs M u_.2.1) (fun (u_ : Int64 × (Nat → Nat) × (Nat → Int64)) t_ => KO D ad cI cJ cQ M u_.2.1 u_.2.2 u_.1 t_) (azs 28 ad sz)) (fun _ _ _ => False) 2 12 (azs 28 ad sz) := by
  refine mkL_Qi (S := Int64 × (Nat → Nat) × (Nat → Int64)) (post := fun r_ (u_ : Int64 × (Nat → Nat) × (Nat → Int64)) => r_ = nI (cd1 (ixB p0 (M 5 0) && ixB p1 36)) ∧ ((cd1 (ixB p0 (M 5 0) && ixB p1 36)) = 0 → u_.1 = lN (dd M (clN p0) (clN p1))) ∧ hTs M u_.2.1) (BQ := fun (u_ : Int64 × (Nat → Nat) × (Nat → Int64)) t_ => KO D ad cI cJ cQ M u_.2.1 u_.2.2 u_.1 t_) (cc := cL_drawdown) (maxL := 5) (hh := [(0, 9, 12, 24)]) (by decide) rfl (Nat.le_of_ble_eq_true rfl) ?_
  intro p e s m args below meth c Q C0 htab B0 hret ls hl
  obtain ⟨hx, hb, hr, hml, hown, hts, hlocks⟩ := C0
  have hown : s.vm.findClass RL = some m.cls := hown
  obtain ⟨hsz, hX, hK, hP⟩ := B0
  subst hsz
  have hl : lv_has ls 5 [(0, .ref (ad 0)), (1, .int p0), (2, .int p1), (3, .ref (ad 27))] := hl
  have hndc : ndz 27 ad := fun i j hi hj h => hnd i j (by omega) (by omega) h
  have hAd : ∀ i, i < 28 → azs 28 ad s.heap.size (ad i) := fun i hi => azs_i hi
  have hS0 : va_S (azs 28 ad s.heap.size) s.heap s.heap [] := va_S.rf
  refine lv_aload_n hx hb dL_drawdown_0 rfl (lv_at hl 3 rfl) ?_
  refine lv_iconst (v := nI 0) hx hb dL_drawdown_1 (by decide) ?_
  refine lv_aload_n hx hb dL_drawdown_2 rfl (lv_at hl 0 rfl) ?_
  refine lv_iload_n hx hb dL_drawdown_3 rfl (lv_at hl 1 rfl) ?_
  refine lv_iload_n hx hb dL_drawdown_4 rfl (lv_at hl 2 rfl) ?_
  refine zx_l (vx_runV (As := [.int p0, .int p1]) (rest := [.int (nI 0), .ref (ad 27)]) ⟨hx, hb, hml, hown, hts⟩ (p0_drawdown l hfl hI p0 p1) (cwV 2 hts gL_drawdown_X0_drawdown rfl rfl rfl (by decide +kernel) (by decide)) (pv0X (s0 := s.heap) hK (woP_c hP) hX.1 (fun a _ _ => rfl)) rfl rfl hl.1 rfl (lv_room (Nat.le_of_ble_eq_true rfl)) dL_drawdown_5 (by decide)) (fun {E ce q9 H1} hp hz hk hce hcv hcl => ?_) (fun r hp => ?_)
  · have hS1 : va_S (azs 28 ad s.heap.size) s.heap H1 [] := ⟨hz, fun q h1 _ => hk q h1, fun q h => by cases h⟩
    obtain ⟨rfl, hcd⟩ := hp
    refine vx_catch (own := RL) (name := eI) (E := eI) (ce := ce) hown [] ⟨0, 9, 12, 24⟩ [] (htab.trans rfl) (fun z hz => by cases hz) (by decide) (by decide) (hts (.classLink RL 24 eI) (by decide +kernel)) hX.1.ci hce hcv hcl ?_
    refine lv_astore (lv' := [(4, .ref q9), (0, .ref (ad 0)), (1, .int p0), (2, .int p1), (3, .ref (ad 27))]) hx hb dL_drawdown_12 hl (by decide) rfl (fun ls hl => ?_)
    refine lv_iconst (v := nI 1) hx hb dL_drawdown_14 (by decide) ?_
    exact hret (u := (o, ts, pu)) (by decide) (by decide) ⟨congrArg nI hcd.symm, fun h => absurd (hcd.symm.trans h) (by decide), hT⟩ hS1 (fun t ht hA => ⟨va_K.moved hA hK, by rw [ht]; exact wz_old hP hk⟩) dL_drawdown_15
  · obtain ⟨hg, rfl⟩ := hp
    have hcd : cd1 (ixB p0 (M 5 0) && ixB p1 36) = 0 := cd1_t hg
    have hP1 := hP
    refine zl_st hx hb hK hP1 hnd hAd hS0 27 (by decide) 1 rfl rfl (by decide) (i := 0) (by decide) _ (woS_o (i := 0)) dL_drawdown_8 (fun H2 locs2 hP2 hS2 => ?_)
    have hP2 := woP_set hP2
    refine lv_goto (tgt := 16) hx hb dL_drawdown_9 (by decide) ?_
    refine lv_iconst (v := nI 0) hx hb dL_drawdown_16 (by decide) ?_
    exact hret (u := (_, ts, pu)) (by decide) (by decide) ⟨congrArg nI hcd.symm, fun _ => rfl, hT⟩ hS2 (fun t ht hA => ⟨va_K.moved hA hK, by rw [ht]; exact hP2⟩) dL_drawdown_17
set_option maxHeartbeats 4000000 in
theorem w0_drawdownByPulses (l : Launch) (hfl : l.stackTraces = false) {D : va_G} {ad : Nat → Nat} {cI cJ cQ : ClassId} {M : Mdl} {ts : Nat → Nat} {pu : Nat → Int64} {o : Int64} {sa : Nat → Nat} {Z : Nat → Prop} {sz : Nat} (hI : Inv M) (hnd : ndz 28 ad) (hT : hTs M ts) (p0 p1 : Int32) : vx_Met l yL_drawdownByPulses wsL_drawdownByPulses (rmX 3 2) (va_Pc [.ref (ad 0), .int p0, .int p1, .ref (ad 27)] (KW D ad cI cJ cQ M ts pu o sa Z sz)) (va_Qi (fun r_ (u_ : Int64 × (Nat → Nat) × (Nat → Int64)) => r_ = nI (cd1 (ixB p0 (M 5 0) && ixB p1 36)) ∧ ((cd1 (ixB p0 (M 5 0) && ixB p1 36)) = 0 → u_.1 = lN (dd M (clN p0) (clN p1))) ∧ hTs M u_.2.1) (fun (u_ : Int64 × (Nat → Nat) × (Nat → Int64)) t_ => KO D ad cI cJ cQ M u_.2.1 u_.2.2 u_.1 t_) (azs 28 ad sz)) (fun _ _ _ => False) 2 12 (azs 28 ad sz) := by
  refine mkL_Qi (S := Int64 × (Nat → Nat) × (Nat → Int64)) (post := fun r_ (u_ : Int64 × (Nat → Nat) × (Nat → Int64)) => r_ = nI (cd1 (ixB p0 (M 5 0) && ixB p1 36)) ∧ ((cd1 (ixB p0 (M 5 0) && ixB p1 36)) = 0 → u_.1 = lN (dd M (clN p0) (clN p1))) ∧ hTs M u_.2.1) (BQ := fun (u_ : Int64 × (Nat → Nat) × (Nat → Int64)) t_ => KO D ad cI cJ cQ M u_.2.1 u_.2.2 u_.1 t_) (cc := cL_drawdownByPulses) (maxL := 5) (hh := [(0, 9, 12, 24)]) (by decide) rfl (Nat.le_of_ble_eq_true rfl) ?_
  intro p e s m args below meth c Q C0 htab B0 hret ls hl
  obtain ⟨hx, hb, hr, hml, hown, hts, hlocks⟩ := C0
  have hown : s.vm.findClass RL = some m.cls := hown
  obtain ⟨hsz, hX, hK, hP⟩ := B0
  subst hsz
  have hl : lv_has ls 5 [(0, .ref (ad 0)), (1, .int p0), (2, .int p1), (3, .ref (ad 27))] := hl
  have hndc : ndz 27 ad := fun i j hi hj h => hnd i j (by omega) (by omega) h
  have hAd : ∀ i, i < 28 → azs 28 ad s.heap.size (ad i) := fun i hi => azs_i hi
  have hS0 : va_S (azs 28 ad s.heap.size) s.heap s.heap [] := va_S.rf
  refine lv_aload_n hx hb dL_drawdownByPulses_0 rfl (lv_at hl 3 rfl) ?_
  refine lv_iconst (v := nI 0) hx hb dL_drawdownByPulses_1 (by decide) ?_
  refine lv_aload_n hx hb dL_drawdownByPulses_2 rfl (lv_at hl 0 rfl) ?_
  refine lv_iload_n hx hb dL_drawdownByPulses_3 rfl (lv_at hl 1 rfl) ?_
  refine lv_iload_n hx hb dL_drawdownByPulses_4 rfl (lv_at hl 2 rfl) ?_
  refine zx_wl (A0 := azs 28 ad s.heap.size) (H0 := s.heap) (vx_runV (As := [.int p0, .int p1]) (rest := [.int (nI 0), .ref (ad 27)]) ⟨hx, hb, hml, hown, hts⟩ (p0_drawdownByPulses l hfl hI hndc p0 p1) (cwV 2 hts gL_drawdownByPulses_X0_drawdownByPulses rfl rfl rfl (by decide +kernel) (by decide)) (pv0X (s0 := s.heap) hK (woP_c hP) hX.1 (fun a _ _ => rfl)) rfl rfl hl.1 rfl (lv_room (Nat.le_of_ble_eq_true rfl)) dL_drawdownByPulses_5 (by decide)) hS0 (fun q _ h => h.elim (fun ⟨i, hi, he⟩ => Or.inl ⟨i, by omega, he⟩) Or.inr) (fun q h => h.elim (fun ⟨i, hi, he⟩ => Or.inl ⟨i, by omega, he⟩) Or.inr) (fun {E ce q9 H1 locs1} hp hz hk hS1 hce hcv hcl => ?_) (fun r u t H1 locs1 ht9 hv hp hB hz hk hS1 => ?_)
  · have hz9 := hz
    obtain ⟨rfl, hcd⟩ := hp
    refine vx_catch (own := RL) (name := eI) (E := eI) (ce := ce) hown [] ⟨0, 9, 12, 24⟩ [] (htab.trans rfl) (fun z hz => by cases hz) (by decide) (by decide) (hts (.classLink RL 24 eI) (by decide +kernel)) hX.1.ci hce hcv hcl ?_
    refine lv_astore (lv' := [(4, .ref q9), (0, .ref (ad 0)), (1, .int p0), (2, .int p1), (3, .ref (ad 27))]) hx hb dL_drawdownByPulses_12 hl (by decide) rfl (fun ls hl => ?_)
    refine lv_iconst (v := nI 1) hx hb dL_drawdownByPulses_14 (by decide) ?_
    exact hret (u := (o, ts, pu)) (by decide) (by decide) ⟨congrArg nI hcd.symm, fun h => absurd (hcd.symm.trans h) (by decide), hT⟩ hS1 (fun t ht hA => ⟨va_K.moved hA hK, by rw [ht]; exact wz_old hP hk⟩) dL_drawdownByPulses_15
  · obtain ⟨hg, rfl⟩ := hp
    have hcd : cd1 (ixB p0 (M 5 0) && ixB p1 36) = 0 := cd1_t hg
    have hP1 := woP_next hP hnd hk (by rw [← ht9]; exact hB.2)
    refine zl_st hx hb hK hP1 hnd hAd hS1 27 (by decide) 1 rfl rfl (by decide) (i := 0) (by decide) _ (woS_o (i := 0)) dL_drawdownByPulses_8 (fun H2 locs2 hP2 hS2 => ?_)
    have hP2 := woP_set hP2
    refine lv_goto (tgt := 16) hx hb dL_drawdownByPulses_9 (by decide) ?_
    refine lv_iconst (v := nI 0) hx hb dL_drawdownByPulses_16 (by decide) ?_
    exact hret (u := (_, ts, u)) (by decide) (by decide) ⟨congrArg nI hcd.symm, fun _ => rfl, hT⟩ hS2 (fun t ht hA => ⟨va_K.moved hA hK, by rw [ht]; exact hP2⟩) dL_drawdownByPulses_17
set_option maxHeartbeats 4000000 in
theorem w0_worstMonth (l : Launch) (hfl : l.stackTraces = false) {D : va_G} {ad : Nat → Nat} {cI cJ cQ : ClassId} {M : Mdl} {ts : Nat → Nat} {pu : Nat → Int64} {o : Int64} {sa : Nat → Nat} {Z : Nat → Prop} {sz : Nat} (hI : Inv M) (hnd : ndz 28 ad) (hT : hTs M ts) (p0 : Int32) : vx_Met l yL_worstMonth wsL_worstMonth (rmX 3 1) (va_Pc [.ref (ad 0), .int p0, .ref (ad 27)] (KW D ad cI cJ cQ M ts pu o sa Z sz)) (va_Qi (fun r_ (u_ : Int64 × (Nat → Nat) × (Nat → Int64)) => r_ = nI (cd1 (ixB p0 (M 5 0))) ∧ ((cd1 (ixB p0 (M 5 0))) = 0 → u_.1 = (nI (wst M (clN p0) 35)).toInt64) ∧ hTs M u_.2.1) (fun (u_ : Int64 × (Nat → Nat) × (Nat → Int64)) t_ => KO D ad cI cJ cQ M u_.2.1 u_.2.2 u_.1 t_) (azs 28 ad sz)) (fun _ _ _ => False) 1 6 (azs 28 ad sz) := by
  refine mkL_Qi (S := Int64 × (Nat → Nat) × (Nat → Int64)) (post := fun r_ (u_ : Int64 × (Nat → Nat) × (Nat → Int64)) => r_ = nI (cd1 (ixB p0 (M 5 0))) ∧ ((cd1 (ixB p0 (M 5 0))) = 0 → u_.1 = (nI (wst M (clN p0) 35)).toInt64) ∧ hTs M u_.2.1) (BQ := fun (u_ : Int64 × (Nat → Nat) × (Nat → Int64)) t_ => KO D ad cI cJ cQ M u_.2.1 u_.2.2 u_.1 t_) (cc := cL_worstMonth) (maxL := 4) (hh := [(0, 9, 12, 24)]) (by decide) rfl (Nat.le_of_ble_eq_true rfl) ?_
  intro p e s m args below meth c Q C0 htab B0 hret ls hl
  obtain ⟨hx, hb, hr, hml, hown, hts, hlocks⟩ := C0
  have hown : s.vm.findClass RL = some m.cls := hown
  obtain ⟨hsz, hX, hK, hP⟩ := B0
  subst hsz
  have hl : lv_has ls 4 [(0, .ref (ad 0)), (1, .int p0), (2, .ref (ad 27))] := hl
  have hndc : ndz 27 ad := fun i j hi hj h => hnd i j (by omega) (by omega) h
  have hAd : ∀ i, i < 28 → azs 28 ad s.heap.size (ad i) := fun i hi => azs_i hi
  have hS0 : va_S (azs 28 ad s.heap.size) s.heap s.heap [] := va_S.rf
  refine lv_aload_n hx hb dL_worstMonth_0 rfl (lv_at hl 2 rfl) ?_
  refine lv_iconst (v := nI 0) hx hb dL_worstMonth_1 (by decide) ?_
  refine lv_aload_n hx hb dL_worstMonth_2 rfl (lv_at hl 0 rfl) ?_
  refine lv_iload_n hx hb dL_worstMonth_3 rfl (lv_at hl 1 rfl) ?_
  refine zx_i (vx_runV (As := [.int p0]) (rest := [.int (nI 0), .ref (ad 27)]) ⟨hx, hb, hml, hown, hts⟩ (p0_worstMonth l hfl hI p0) (cwV 1 hts gL_worstMonth_X0_worstMonth rfl rfl rfl (by decide +kernel) (by decide)) (pv0X (s0 := s.heap) hK (woP_c hP) hX.1 (fun a _ _ => rfl)) rfl rfl hl.1 rfl (lv_room (Nat.le_of_ble_eq_true rfl)) dL_worstMonth_4 (by decide)) (fun {E ce q9 H1} hp hz hk hce hcv hcl => ?_) (fun r hp => ?_)
  · have hS1 : va_S (azs 28 ad s.heap.size) s.heap H1 [] := ⟨hz, fun q h1 _ => hk q h1, fun q h => by cases h⟩
    obtain ⟨rfl, hcd⟩ := hp
    refine vx_catch (own := RL) (name := eI) (E := eI) (ce := ce) hown [] ⟨0, 9, 12, 24⟩ [] (htab.trans rfl) (fun z hz => by cases hz) (by decide) (by decide) (hts (.classLink RL 24 eI) (by decide +kernel)) hX.1.ci hce hcv hcl ?_
    refine lv_astore_n (lv' := [(3, .ref q9), (0, .ref (ad 0)), (1, .int p0), (2, .ref (ad 27))]) hx hb dL_worstMonth_12 rfl hl (by decide) rfl (fun ls hl => ?_)
    refine lv_iconst (v := nI 1) hx hb dL_worstMonth_13 (by decide) ?_
    exact hret (u := (o, ts, pu)) (by decide) (by decide) ⟨congrArg nI hcd.symm, fun h => absurd (hcd.symm.trans h) (by decide), hT⟩ hS1 (fun t ht hA => ⟨va_K.moved hA hK, by rw [ht]; exact wz_old hP hk⟩) dL_worstMonth_14
  · obtain ⟨hg, rfl⟩ := hp
    have hcd : cd1 (ixB p0 (M 5 0)) = 0 := cd1_t hg
    have hP1 := hP
    refine lv_i2l hx hb dL_worstMonth_7 rfl ?_
    refine zl_st hx hb hK hP1 hnd hAd hS0 27 (by decide) 1 rfl rfl (by decide) (i := 0) (by decide) _ (woS_o (i := 0)) dL_worstMonth_8 (fun H2 locs2 hP2 hS2 => ?_)
    have hP2 := woP_set hP2
    refine lv_goto (tgt := 15) hx hb dL_worstMonth_9 (by decide) ?_
    refine lv_iconst (v := nI 0) hx hb dL_worstMonth_15 (by decide) ?_
    exact hret (u := (_, ts, pu)) (by decide) (by decide) ⟨congrArg nI hcd.symm, fun _ => rfl, hT⟩ hS2 (fun t ht hA => ⟨va_K.moved hA hK, by rw [ht]; exact hP2⟩) dL_worstMonth_16
set_option maxHeartbeats 4000000 in
theorem w0_over (l : Launch) (hfl : l.stackTraces = false) {D : va_G} {ad : Nat → Nat} {cI cJ cQ : ClassId} {M : Mdl} {ts : Nat → Nat} {pu : Nat → Int64} {o : Int64} {sa : Nat → Nat} {Z : Nat → Prop} {sz : Nat} (hI : Inv M) (hnd : ndz 28 ad) (hT : hTs M ts) (p0 : Int32) : vx_Met l yL_over wsL_over (rmX 3 1) (va_Pc [.ref (ad 0), .int p0, .ref (ad 27)] (KW D ad cI cJ cQ M ts pu o sa Z sz)) (va_Qi (fun r_ (u_ : Int64 × (Nat → Nat) × (Nat → Int64)) => r_ = nI (cd1 (ixB p0 (M 5 0))) ∧ ((cd1 (ixB p0 (M 5 0))) = 0 → u_.1 = (nI (ovr M (clN p0))).toInt64) ∧ hTs M u_.2.1) (fun (u_ : Int64 × (Nat → Nat) × (Nat → Int64)) t_ => KO D ad cI cJ cQ M u_.2.1 u_.2.2 u_.1 t_) (azs 28 ad sz)) (fun _ _ _ => False) 1 6 (azs 28 ad sz) := by
  refine mkL_Qi (S := Int64 × (Nat → Nat) × (Nat → Int64)) (post := fun r_ (u_ : Int64 × (Nat → Nat) × (Nat → Int64)) => r_ = nI (cd1 (ixB p0 (M 5 0))) ∧ ((cd1 (ixB p0 (M 5 0))) = 0 → u_.1 = (nI (ovr M (clN p0))).toInt64) ∧ hTs M u_.2.1) (BQ := fun (u_ : Int64 × (Nat → Nat) × (Nat → Int64)) t_ => KO D ad cI cJ cQ M u_.2.1 u_.2.2 u_.1 t_) (cc := cL_over) (maxL := 4) (hh := [(0, 9, 12, 24)]) (by decide) rfl (Nat.le_of_ble_eq_true rfl) ?_
  intro p e s m args below meth c Q C0 htab B0 hret ls hl
  obtain ⟨hx, hb, hr, hml, hown, hts, hlocks⟩ := C0
  have hown : s.vm.findClass RL = some m.cls := hown
  obtain ⟨hsz, hX, hK, hP⟩ := B0
  subst hsz
  have hl : lv_has ls 4 [(0, .ref (ad 0)), (1, .int p0), (2, .ref (ad 27))] := hl
  have hndc : ndz 27 ad := fun i j hi hj h => hnd i j (by omega) (by omega) h
  have hAd : ∀ i, i < 28 → azs 28 ad s.heap.size (ad i) := fun i hi => azs_i hi
  have hS0 : va_S (azs 28 ad s.heap.size) s.heap s.heap [] := va_S.rf
  refine lv_aload_n hx hb dL_over_0 rfl (lv_at hl 2 rfl) ?_
  refine lv_iconst (v := nI 0) hx hb dL_over_1 (by decide) ?_
  refine lv_aload_n hx hb dL_over_2 rfl (lv_at hl 0 rfl) ?_
  refine lv_iload_n hx hb dL_over_3 rfl (lv_at hl 1 rfl) ?_
  refine zx_i (vx_runV (As := [.int p0]) (rest := [.int (nI 0), .ref (ad 27)]) ⟨hx, hb, hml, hown, hts⟩ (p0_over l hfl hI p0) (cwV 1 hts gL_over_X0_over rfl rfl rfl (by decide +kernel) (by decide)) (pv0X (s0 := s.heap) hK (woP_c hP) hX.1 (fun a _ _ => rfl)) rfl rfl hl.1 rfl (lv_room (Nat.le_of_ble_eq_true rfl)) dL_over_4 (by decide)) (fun {E ce q9 H1} hp hz hk hce hcv hcl => ?_) (fun r hp => ?_)
  · have hS1 : va_S (azs 28 ad s.heap.size) s.heap H1 [] := ⟨hz, fun q h1 _ => hk q h1, fun q h => by cases h⟩
    obtain ⟨rfl, hcd⟩ := hp
    refine vx_catch (own := RL) (name := eI) (E := eI) (ce := ce) hown [] ⟨0, 9, 12, 24⟩ [] (htab.trans rfl) (fun z hz => by cases hz) (by decide) (by decide) (hts (.classLink RL 24 eI) (by decide +kernel)) hX.1.ci hce hcv hcl ?_
    refine lv_astore_n (lv' := [(3, .ref q9), (0, .ref (ad 0)), (1, .int p0), (2, .ref (ad 27))]) hx hb dL_over_12 rfl hl (by decide) rfl (fun ls hl => ?_)
    refine lv_iconst (v := nI 1) hx hb dL_over_13 (by decide) ?_
    exact hret (u := (o, ts, pu)) (by decide) (by decide) ⟨congrArg nI hcd.symm, fun h => absurd (hcd.symm.trans h) (by decide), hT⟩ hS1 (fun t ht hA => ⟨va_K.moved hA hK, by rw [ht]; exact wz_old hP hk⟩) dL_over_14
  · obtain ⟨hg, rfl⟩ := hp
    have hcd : cd1 (ixB p0 (M 5 0)) = 0 := cd1_t hg
    have hP1 := hP
    refine lv_i2l hx hb dL_over_7 rfl ?_
    refine zl_st hx hb hK hP1 hnd hAd hS0 27 (by decide) 1 rfl rfl (by decide) (i := 0) (by decide) _ (woS_o (i := 0)) dL_over_8 (fun H2 locs2 hP2 hS2 => ?_)
    have hP2 := woP_set hP2
    refine lv_goto (tgt := 15) hx hb dL_over_9 (by decide) ?_
    refine lv_iconst (v := nI 0) hx hb dL_over_15 (by decide) ?_
    exact hret (u := (_, ts, pu)) (by decide) (by decide) ⟨congrArg nI hcd.symm, fun _ => rfl, hT⟩ hS2 (fun t ht hA => ⟨va_K.moved hA hK, by rw [ht]; exact hP2⟩) dL_over_16
set_option maxHeartbeats 4000000 in
theorem w0_headroom (l : Launch) (hfl : l.stackTraces = false) {D : va_G} {ad : Nat → Nat} {cI cJ cQ : ClassId} {M : Mdl} {ts : Nat → Nat} {pu : Nat → Int64} {o : Int64} {sa : Nat → Nat} {Z : Nat → Prop} {sz : Nat} (hI : Inv M) (hnd : ndz 28 ad) (hT : hTs M ts) (p0 p1 : Int32) : vx_Met l yL_headroom wsL_headroom (rmX 3 2) (va_Pc [.ref (ad 0), .int p0, .int p1, .ref (ad 27)] (KW D ad cI cJ cQ M ts pu o sa Z sz)) (va_Qi (fun r_ (u_ : Int64 × (Nat → Nat) × (Nat → Int64)) => r_ = nI (cd1 (ixB p0 (M 0 0) && ixB p1 36)) ∧ ((cd1 (ixB p0 (M 0 0) && ixB p1 36)) = 0 → u_.1 = (nI (hdr M (clN p0) (clN p1) (M 5 0))).toInt64) ∧ hTs M u_.2.1) (fun (u_ : Int64 × (Nat → Nat) × (Nat → Int64)) t_ => KO D ad cI cJ cQ M u_.2.1 u_.2.2 u_.1 t_) (azs 28 ad sz)) (fun _ _ _ => False) 2 12 (azs 28 ad sz) := by
  refine mkL_Qi (S := Int64 × (Nat → Nat) × (Nat → Int64)) (post := fun r_ (u_ : Int64 × (Nat → Nat) × (Nat → Int64)) => r_ = nI (cd1 (ixB p0 (M 0 0) && ixB p1 36)) ∧ ((cd1 (ixB p0 (M 0 0) && ixB p1 36)) = 0 → u_.1 = (nI (hdr M (clN p0) (clN p1) (M 5 0))).toInt64) ∧ hTs M u_.2.1) (BQ := fun (u_ : Int64 × (Nat → Nat) × (Nat → Int64)) t_ => KO D ad cI cJ cQ M u_.2.1 u_.2.2 u_.1 t_) (cc := cL_headroom) (maxL := 5) (hh := [(0, 10, 13, 24)]) (by decide) rfl (Nat.le_of_ble_eq_true rfl) ?_
  intro p e s m args below meth c Q C0 htab B0 hret ls hl
  obtain ⟨hx, hb, hr, hml, hown, hts, hlocks⟩ := C0
  have hown : s.vm.findClass RL = some m.cls := hown
  obtain ⟨hsz, hX, hK, hP⟩ := B0
  subst hsz
  have hl : lv_has ls 5 [(0, .ref (ad 0)), (1, .int p0), (2, .int p1), (3, .ref (ad 27))] := hl
  have hndc : ndz 27 ad := fun i j hi hj h => hnd i j (by omega) (by omega) h
  have hAd : ∀ i, i < 28 → azs 28 ad s.heap.size (ad i) := fun i hi => azs_i hi
  have hS0 : va_S (azs 28 ad s.heap.size) s.heap s.heap [] := va_S.rf
  refine lv_aload_n hx hb dL_headroom_0 rfl (lv_at hl 3 rfl) ?_
  refine lv_iconst (v := nI 0) hx hb dL_headroom_1 (by decide) ?_
  refine lv_aload_n hx hb dL_headroom_2 rfl (lv_at hl 0 rfl) ?_
  refine lv_iload_n hx hb dL_headroom_3 rfl (lv_at hl 1 rfl) ?_
  refine lv_iload_n hx hb dL_headroom_4 rfl (lv_at hl 2 rfl) ?_
  refine zx_i (vx_runV (As := [.int p0, .int p1]) (rest := [.int (nI 0), .ref (ad 27)]) ⟨hx, hb, hml, hown, hts⟩ (p0_headroom l hfl hI p0 p1) (cwV 2 hts gL_headroom_X0_headroom rfl rfl rfl (by decide +kernel) (by decide)) (pv0X (s0 := s.heap) hK (woP_c hP) hX.1 (fun a _ _ => rfl)) rfl rfl hl.1 rfl (lv_room (Nat.le_of_ble_eq_true rfl)) dL_headroom_5 (by decide)) (fun {E ce q9 H1} hp hz hk hce hcv hcl => ?_) (fun r hp => ?_)
  · have hS1 : va_S (azs 28 ad s.heap.size) s.heap H1 [] := ⟨hz, fun q h1 _ => hk q h1, fun q h => by cases h⟩
    obtain ⟨rfl, hcd⟩ := hp
    refine vx_catch (own := RL) (name := eI) (E := eI) (ce := ce) hown [] ⟨0, 10, 13, 24⟩ [] (htab.trans rfl) (fun z hz => by cases hz) (by decide) (by decide) (hts (.classLink RL 24 eI) (by decide +kernel)) hX.1.ci hce hcv hcl ?_
    refine lv_astore (lv' := [(4, .ref q9), (0, .ref (ad 0)), (1, .int p0), (2, .int p1), (3, .ref (ad 27))]) hx hb dL_headroom_13 hl (by decide) rfl (fun ls hl => ?_)
    refine lv_iconst (v := nI 1) hx hb dL_headroom_15 (by decide) ?_
    exact hret (u := (o, ts, pu)) (by decide) (by decide) ⟨congrArg nI hcd.symm, fun h => absurd (hcd.symm.trans h) (by decide), hT⟩ hS1 (fun t ht hA => ⟨va_K.moved hA hK, by rw [ht]; exact wz_old hP hk⟩) dL_headroom_16
  · obtain ⟨hg, rfl⟩ := hp
    have hcd : cd1 (ixB p0 (M 0 0) && ixB p1 36) = 0 := cd1_t hg
    have hP1 := hP
    refine lv_i2l hx hb dL_headroom_8 rfl ?_
    refine zl_st hx hb hK hP1 hnd hAd hS0 27 (by decide) 1 rfl rfl (by decide) (i := 0) (by decide) _ (woS_o (i := 0)) dL_headroom_9 (fun H2 locs2 hP2 hS2 => ?_)
    have hP2 := woP_set hP2
    refine lv_goto (tgt := 17) hx hb dL_headroom_10 (by decide) ?_
    refine lv_iconst (v := nI 0) hx hb dL_headroom_17 (by decide) ?_
    exact hret (u := (_, ts, pu)) (by decide) (by decide) ⟨congrArg nI hcd.symm, fun _ => rfl, hT⟩ hS2 (fun t ht hA => ⟨va_K.moved hA hK, by rw [ht]; exact hP2⟩) dL_headroom_18
set_option maxHeartbeats 4000000 in
theorem w0_heaviest (l : Launch) (hfl : l.stackTraces = false) {D : va_G} {ad : Nat → Nat} {cI cJ cQ : ClassId} {M : Mdl} {ts : Nat → Nat} {pu : Nat → Int64} {o : Int64} {sa : Nat → Nat} {Z : Nat → Prop} {sz : Nat} (hI : Inv M) (hnd : ndz 28 ad) (hT : hTs M ts) (p0 p1 : Int32) : vx_Met l yL_heaviest wsL_heaviest (rmX 3 2) (va_Pc [.ref (ad 0), .int p0, .int p1, .ref (ad 27)] (KW D ad cI cJ cQ M ts pu o sa Z sz)) (va_Qi (fun r_ (u_ : Int64 × (Nat → Nat) × (Nat → Int64)) => r_ = nI (cd1 (ixB p0 (M 5 0) && ixB p1 36)) ∧ ((cd1 (ixB p0 (M 5 0) && ixB p1 36)) = 0 → u_.1 = (hvb M (clN p0) (clN p1) (M 0 0)).toInt64) ∧ hTs M u_.2.1) (fun (u_ : Int64 × (Nat → Nat) × (Nat → Int64)) t_ => KO D ad cI cJ cQ M u_.2.1 u_.2.2 u_.1 t_) (azs 28 ad sz)) (fun _ _ _ => False) 2 12 (azs 28 ad sz) := by
  refine mkL_Qi (S := Int64 × (Nat → Nat) × (Nat → Int64)) (post := fun r_ (u_ : Int64 × (Nat → Nat) × (Nat → Int64)) => r_ = nI (cd1 (ixB p0 (M 5 0) && ixB p1 36)) ∧ ((cd1 (ixB p0 (M 5 0) && ixB p1 36)) = 0 → u_.1 = (hvb M (clN p0) (clN p1) (M 0 0)).toInt64) ∧ hTs M u_.2.1) (BQ := fun (u_ : Int64 × (Nat → Nat) × (Nat → Int64)) t_ => KO D ad cI cJ cQ M u_.2.1 u_.2.2 u_.1 t_) (cc := cL_heaviest) (maxL := 5) (hh := [(0, 10, 13, 24)]) (by decide) rfl (Nat.le_of_ble_eq_true rfl) ?_
  intro p e s m args below meth c Q C0 htab B0 hret ls hl
  obtain ⟨hx, hb, hr, hml, hown, hts, hlocks⟩ := C0
  have hown : s.vm.findClass RL = some m.cls := hown
  obtain ⟨hsz, hX, hK, hP⟩ := B0
  subst hsz
  have hl : lv_has ls 5 [(0, .ref (ad 0)), (1, .int p0), (2, .int p1), (3, .ref (ad 27))] := hl
  have hndc : ndz 27 ad := fun i j hi hj h => hnd i j (by omega) (by omega) h
  have hAd : ∀ i, i < 28 → azs 28 ad s.heap.size (ad i) := fun i hi => azs_i hi
  have hS0 : va_S (azs 28 ad s.heap.size) s.heap s.heap [] := va_S.rf
  refine lv_aload_n hx hb dL_heaviest_0 rfl (lv_at hl 3 rfl) ?_
  refine lv_iconst (v := nI 0) hx hb dL_heaviest_1 (by decide) ?_
  refine lv_aload_n hx hb dL_heaviest_2 rfl (lv_at hl 0 rfl) ?_
  refine lv_iload_n hx hb dL_heaviest_3 rfl (lv_at hl 1 rfl) ?_
  refine lv_iload_n hx hb dL_heaviest_4 rfl (lv_at hl 2 rfl) ?_
  refine zx_i (vx_runV (As := [.int p0, .int p1]) (rest := [.int (nI 0), .ref (ad 27)]) ⟨hx, hb, hml, hown, hts⟩ (p0_heaviest l hfl hI p0 p1) (cwV 2 hts gL_heaviest_X0_heaviest rfl rfl rfl (by decide +kernel) (by decide)) (pv0X (s0 := s.heap) hK (woP_c hP) hX.1 (fun a _ _ => rfl)) rfl rfl hl.1 rfl (lv_room (Nat.le_of_ble_eq_true rfl)) dL_heaviest_5 (by decide)) (fun {E ce q9 H1} hp hz hk hce hcv hcl => ?_) (fun r hp => ?_)
  · have hS1 : va_S (azs 28 ad s.heap.size) s.heap H1 [] := ⟨hz, fun q h1 _ => hk q h1, fun q h => by cases h⟩
    obtain ⟨rfl, hcd⟩ := hp
    refine vx_catch (own := RL) (name := eI) (E := eI) (ce := ce) hown [] ⟨0, 10, 13, 24⟩ [] (htab.trans rfl) (fun z hz => by cases hz) (by decide) (by decide) (hts (.classLink RL 24 eI) (by decide +kernel)) hX.1.ci hce hcv hcl ?_
    refine lv_astore (lv' := [(4, .ref q9), (0, .ref (ad 0)), (1, .int p0), (2, .int p1), (3, .ref (ad 27))]) hx hb dL_heaviest_13 hl (by decide) rfl (fun ls hl => ?_)
    refine lv_iconst (v := nI 1) hx hb dL_heaviest_15 (by decide) ?_
    exact hret (u := (o, ts, pu)) (by decide) (by decide) ⟨congrArg nI hcd.symm, fun h => absurd (hcd.symm.trans h) (by decide), hT⟩ hS1 (fun t ht hA => ⟨va_K.moved hA hK, by rw [ht]; exact wz_old hP hk⟩) dL_heaviest_16
  · obtain ⟨hg, rfl⟩ := hp
    have hcd : cd1 (ixB p0 (M 5 0) && ixB p1 36) = 0 := cd1_t hg
    have hP1 := hP
    refine lv_i2l hx hb dL_heaviest_8 rfl ?_
    refine zl_st hx hb hK hP1 hnd hAd hS0 27 (by decide) 1 rfl rfl (by decide) (i := 0) (by decide) _ (woS_o (i := 0)) dL_heaviest_9 (fun H2 locs2 hP2 hS2 => ?_)
    have hP2 := woP_set hP2
    refine lv_goto (tgt := 17) hx hb dL_heaviest_10 (by decide) ?_
    refine lv_iconst (v := nI 0) hx hb dL_heaviest_17 (by decide) ?_
    exact hret (u := (_, ts, pu)) (by decide) (by decide) ⟨congrArg nI hcd.symm, fun _ => rfl, hT⟩ hS2 (fun t ht hA => ⟨va_K.moved hA hK, by rw [ht]; exact hP2⟩) dL_heaviest_18
set_option maxHeartbeats 4000000 in
theorem w0_taken (l : Launch) (hfl : l.stackTraces = false) {D : va_G} {ad : Nat → Nat} {cI cJ cQ : ClassId} {M : Mdl} {ts : Nat → Nat} {pu : Nat → Int64} {o : Int64} {sa : Nat → Nat} {Z : Nat → Prop} {sz : Nat} (hI : Inv M) (hnd : ndz 28 ad) (hT : hTs M ts) (p0 : Int32) : vx_Met l yL_taken wsL_taken (rmX 2 1) (va_Pc [.ref (ad 0), .int p0, .ref (ad 27)] (KW D ad cI cJ cQ M ts pu o sa Z sz)) (va_Qi (fun r_ (u_ : Int64 × (Nat → Nat) × (Nat → Int64)) => r_ = nI (cd1 (ixB p0 3)) ∧ ((cd1 (ixB p0 3)) = 0 → u_.1 = (nI (tka M (clN p0))).toInt64) ∧ hTs M u_.2.1) (fun (u_ : Int64 × (Nat → Nat) × (Nat → Int64)) t_ => KO D ad cI cJ cQ M u_.2.1 u_.2.2 u_.1 t_) (azs 28 ad sz)) (fun _ _ _ => False) 1 6 (azs 28 ad sz) := by
  refine mkL_Qi (S := Int64 × (Nat → Nat) × (Nat → Int64)) (post := fun r_ (u_ : Int64 × (Nat → Nat) × (Nat → Int64)) => r_ = nI (cd1 (ixB p0 3)) ∧ ((cd1 (ixB p0 3)) = 0 → u_.1 = (nI (tka M (clN p0))).toInt64) ∧ hTs M u_.2.1) (BQ := fun (u_ : Int64 × (Nat → Nat) × (Nat → Int64)) t_ => KO D ad cI cJ cQ M u_.2.1 u_.2.2 u_.1 t_) (cc := cL_taken) (maxL := 4) (hh := [(0, 9, 12, 24)]) (by decide) rfl (Nat.le_of_ble_eq_true rfl) ?_
  intro p e s m args below meth c Q C0 htab B0 hret ls hl
  obtain ⟨hx, hb, hr, hml, hown, hts, hlocks⟩ := C0
  have hown : s.vm.findClass RL = some m.cls := hown
  obtain ⟨hsz, hX, hK, hP⟩ := B0
  subst hsz
  have hl : lv_has ls 4 [(0, .ref (ad 0)), (1, .int p0), (2, .ref (ad 27))] := hl
  have hndc : ndz 27 ad := fun i j hi hj h => hnd i j (by omega) (by omega) h
  have hAd : ∀ i, i < 28 → azs 28 ad s.heap.size (ad i) := fun i hi => azs_i hi
  have hS0 : va_S (azs 28 ad s.heap.size) s.heap s.heap [] := va_S.rf
  refine lv_aload_n hx hb dL_taken_0 rfl (lv_at hl 2 rfl) ?_
  refine lv_iconst (v := nI 0) hx hb dL_taken_1 (by decide) ?_
  refine lv_aload_n hx hb dL_taken_2 rfl (lv_at hl 0 rfl) ?_
  refine lv_iload_n hx hb dL_taken_3 rfl (lv_at hl 1 rfl) ?_
  refine zx_i (vx_runV (As := [.int p0]) (rest := [.int (nI 0), .ref (ad 27)]) ⟨hx, hb, hml, hown, hts⟩ (p0_taken l hfl hI p0) (cwV 1 hts gL_taken_X0_taken rfl rfl rfl (by decide +kernel) (by decide)) (pv0X (s0 := s.heap) hK (woP_c hP) hX.1 (fun a _ _ => rfl)) rfl rfl hl.1 rfl (lv_room (Nat.le_of_ble_eq_true rfl)) dL_taken_4 (by decide)) (fun {E ce q9 H1} hp hz hk hce hcv hcl => ?_) (fun r hp => ?_)
  · have hS1 : va_S (azs 28 ad s.heap.size) s.heap H1 [] := ⟨hz, fun q h1 _ => hk q h1, fun q h => by cases h⟩
    obtain ⟨rfl, hcd⟩ := hp
    refine vx_catch (own := RL) (name := eI) (E := eI) (ce := ce) hown [] ⟨0, 9, 12, 24⟩ [] (htab.trans rfl) (fun z hz => by cases hz) (by decide) (by decide) (hts (.classLink RL 24 eI) (by decide +kernel)) hX.1.ci hce hcv hcl ?_
    refine lv_astore_n (lv' := [(3, .ref q9), (0, .ref (ad 0)), (1, .int p0), (2, .ref (ad 27))]) hx hb dL_taken_12 rfl hl (by decide) rfl (fun ls hl => ?_)
    refine lv_iconst (v := nI 1) hx hb dL_taken_13 (by decide) ?_
    exact hret (u := (o, ts, pu)) (by decide) (by decide) ⟨congrArg nI hcd.symm, fun h => absurd (hcd.symm.trans h) (by decide), hT⟩ hS1 (fun t ht hA => ⟨va_K.moved hA hK, by rw [ht]; exact wz_old hP hk⟩) dL_taken_14
  · obtain ⟨hg, rfl⟩ := hp
    have hcd : cd1 (ixB p0 3) = 0 := cd1_t hg
    have hP1 := hP
    refine lv_i2l hx hb dL_taken_7 rfl ?_
    refine zl_st hx hb hK hP1 hnd hAd hS0 27 (by decide) 1 rfl rfl (by decide) (i := 0) (by decide) _ (woS_o (i := 0)) dL_taken_8 (fun H2 locs2 hP2 hS2 => ?_)
    have hP2 := woP_set hP2
    refine lv_goto (tgt := 15) hx hb dL_taken_9 (by decide) ?_
    refine lv_iconst (v := nI 0) hx hb dL_taken_15 (by decide) ?_
    exact hret (u := (_, ts, pu)) (by decide) (by decide) ⟨congrArg nI hcd.symm, fun _ => rfl, hT⟩ hS2 (fun t ht hA => ⟨va_K.moved hA hK, by rw [ht]; exact hP2⟩) dL_taken_16
set_option maxHeartbeats 4000000 in
theorem w0_takenLate (l : Launch) (hfl : l.stackTraces = false) {D : va_G} {ad : Nat → Nat} {cI cJ cQ : ClassId} {M : Mdl} {ts : Nat → Nat} {pu : Nat → Int64} {o : Int64} {sa : Nat → Nat} {Z : Nat → Prop} {sz : Nat} (hI : Inv M) (hnd : ndz 28 ad) (hT : hTs M ts) (p0 p1 : Int32) : vx_Met l yL_takenLate wsL_takenLate (rmX 2 2) (va_Pc [.ref (ad 0), .int p0, .int p1, .ref (ad 27)] (KW D ad cI cJ cQ M ts pu o sa Z sz)) (va_Qi (fun r_ (u_ : Int64 × (Nat → Nat) × (Nat → Int64)) => r_ = nI (cd1 (ixB p0 (M 0 0) && ixB p1 3)) ∧ ((cd1 (ixB p0 (M 0 0) && ixB p1 3)) = 0 → u_.1 = (nI (tk M (clN p0) (clN p1) (clN p1 * 12))).toInt64) ∧ hTs M u_.2.1) (fun (u_ : Int64 × (Nat → Nat) × (Nat → Int64)) t_ => KO D ad cI cJ cQ M u_.2.1 u_.2.2 u_.1 t_) (azs 28 ad sz)) (fun _ _ _ => False) 2 12 (azs 28 ad sz) := by
  refine mkL_Qi (S := Int64 × (Nat → Nat) × (Nat → Int64)) (post := fun r_ (u_ : Int64 × (Nat → Nat) × (Nat → Int64)) => r_ = nI (cd1 (ixB p0 (M 0 0) && ixB p1 3)) ∧ ((cd1 (ixB p0 (M 0 0) && ixB p1 3)) = 0 → u_.1 = (nI (tk M (clN p0) (clN p1) (clN p1 * 12))).toInt64) ∧ hTs M u_.2.1) (BQ := fun (u_ : Int64 × (Nat → Nat) × (Nat → Int64)) t_ => KO D ad cI cJ cQ M u_.2.1 u_.2.2 u_.1 t_) (cc := cL_takenLate) (maxL := 5) (hh := [(0, 10, 13, 24)]) (by decide) rfl (Nat.le_of_ble_eq_true rfl) ?_
  intro p e s m args below meth c Q C0 htab B0 hret ls hl
  obtain ⟨hx, hb, hr, hml, hown, hts, hlocks⟩ := C0
  have hown : s.vm.findClass RL = some m.cls := hown
  obtain ⟨hsz, hX, hK, hP⟩ := B0
  subst hsz
  have hl : lv_has ls 5 [(0, .ref (ad 0)), (1, .int p0), (2, .int p1), (3, .ref (ad 27))] := hl
  have hndc : ndz 27 ad := fun i j hi hj h => hnd i j (by omega) (by omega) h
  have hAd : ∀ i, i < 28 → azs 28 ad s.heap.size (ad i) := fun i hi => azs_i hi
  have hS0 : va_S (azs 28 ad s.heap.size) s.heap s.heap [] := va_S.rf
  refine lv_aload_n hx hb dL_takenLate_0 rfl (lv_at hl 3 rfl) ?_
  refine lv_iconst (v := nI 0) hx hb dL_takenLate_1 (by decide) ?_
  refine lv_aload_n hx hb dL_takenLate_2 rfl (lv_at hl 0 rfl) ?_
  refine lv_iload_n hx hb dL_takenLate_3 rfl (lv_at hl 1 rfl) ?_
  refine lv_iload_n hx hb dL_takenLate_4 rfl (lv_at hl 2 rfl) ?_
  refine zx_i (vx_runV (As := [.int p0, .int p1]) (rest := [.int (nI 0), .ref (ad 27)]) ⟨hx, hb, hml, hown, hts⟩ (p0_takenLate l hfl hI p0 p1) (cwV 2 hts gL_takenLate_X0_takenLate rfl rfl rfl (by decide +kernel) (by decide)) (pv0X (s0 := s.heap) hK (woP_c hP) hX.1 (fun a _ _ => rfl)) rfl rfl hl.1 rfl (lv_room (Nat.le_of_ble_eq_true rfl)) dL_takenLate_5 (by decide)) (fun {E ce q9 H1} hp hz hk hce hcv hcl => ?_) (fun r hp => ?_)
  · have hS1 : va_S (azs 28 ad s.heap.size) s.heap H1 [] := ⟨hz, fun q h1 _ => hk q h1, fun q h => by cases h⟩
    obtain ⟨rfl, hcd⟩ := hp
    refine vx_catch (own := RL) (name := eI) (E := eI) (ce := ce) hown [] ⟨0, 10, 13, 24⟩ [] (htab.trans rfl) (fun z hz => by cases hz) (by decide) (by decide) (hts (.classLink RL 24 eI) (by decide +kernel)) hX.1.ci hce hcv hcl ?_
    refine lv_astore (lv' := [(4, .ref q9), (0, .ref (ad 0)), (1, .int p0), (2, .int p1), (3, .ref (ad 27))]) hx hb dL_takenLate_13 hl (by decide) rfl (fun ls hl => ?_)
    refine lv_iconst (v := nI 1) hx hb dL_takenLate_15 (by decide) ?_
    exact hret (u := (o, ts, pu)) (by decide) (by decide) ⟨congrArg nI hcd.symm, fun h => absurd (hcd.symm.trans h) (by decide), hT⟩ hS1 (fun t ht hA => ⟨va_K.moved hA hK, by rw [ht]; exact wz_old hP hk⟩) dL_takenLate_16
  · obtain ⟨hg, rfl⟩ := hp
    have hcd : cd1 (ixB p0 (M 0 0) && ixB p1 3) = 0 := cd1_t hg
    have hP1 := hP
    refine lv_i2l hx hb dL_takenLate_8 rfl ?_
    refine zl_st hx hb hK hP1 hnd hAd hS0 27 (by decide) 1 rfl rfl (by decide) (i := 0) (by decide) _ (woS_o (i := 0)) dL_takenLate_9 (fun H2 locs2 hP2 hS2 => ?_)
    have hP2 := woP_set hP2
    refine lv_goto (tgt := 17) hx hb dL_takenLate_10 (by decide) ?_
    refine lv_iconst (v := nI 0) hx hb dL_takenLate_17 (by decide) ?_
    exact hret (u := (_, ts, pu)) (by decide) (by decide) ⟨congrArg nI hcd.symm, fun _ => rfl, hT⟩ hS2 (fun t ht hA => ⟨va_K.moved hA hK, by rw [ht]; exact hP2⟩) dL_takenLate_18
set_option maxHeartbeats 4000000 in
theorem w0_licence (l : Launch) (hfl : l.stackTraces = false) {D : va_G} {ad : Nat → Nat} {cI cJ cQ : ClassId} {M : Mdl} {ts : Nat → Nat} {pu : Nat → Int64} {o : Int64} {sa : Nat → Nat} {Z : Nat → Prop} {sz : Nat} (hI : Inv M) (hnd : ndz 28 ad) (hT : hTs M ts) (p0 : Int32) : vx_Met l yL_licence wsL_licence (rmX 2 1) (va_Pc [.ref (ad 0), .int p0, .ref (ad 27)] (KW D ad cI cJ cQ M ts pu o sa Z sz)) (va_Qi (fun r_ (u_ : Int64 × (Nat → Nat) × (Nat → Int64)) => r_ = nI (cd1 (ixB p0 (M 0 0))) ∧ ((cd1 (ixB p0 (M 0 0))) = 0 → u_.1 = (nI (M 3 (clN p0))).toInt64) ∧ hTs M u_.2.1) (fun (u_ : Int64 × (Nat → Nat) × (Nat → Int64)) t_ => KO D ad cI cJ cQ M u_.2.1 u_.2.2 u_.1 t_) (azs 28 ad sz)) (fun _ _ _ => False) 1 6 (azs 28 ad sz) := by
  refine mkL_Qi (S := Int64 × (Nat → Nat) × (Nat → Int64)) (post := fun r_ (u_ : Int64 × (Nat → Nat) × (Nat → Int64)) => r_ = nI (cd1 (ixB p0 (M 0 0))) ∧ ((cd1 (ixB p0 (M 0 0))) = 0 → u_.1 = (nI (M 3 (clN p0))).toInt64) ∧ hTs M u_.2.1) (BQ := fun (u_ : Int64 × (Nat → Nat) × (Nat → Int64)) t_ => KO D ad cI cJ cQ M u_.2.1 u_.2.2 u_.1 t_) (cc := cL_licence) (maxL := 4) (hh := [(0, 9, 12, 24)]) (by decide) rfl (Nat.le_of_ble_eq_true rfl) ?_
  intro p e s m args below meth c Q C0 htab B0 hret ls hl
  obtain ⟨hx, hb, hr, hml, hown, hts, hlocks⟩ := C0
  have hown : s.vm.findClass RL = some m.cls := hown
  obtain ⟨hsz, hX, hK, hP⟩ := B0
  subst hsz
  have hl : lv_has ls 4 [(0, .ref (ad 0)), (1, .int p0), (2, .ref (ad 27))] := hl
  have hndc : ndz 27 ad := fun i j hi hj h => hnd i j (by omega) (by omega) h
  have hAd : ∀ i, i < 28 → azs 28 ad s.heap.size (ad i) := fun i hi => azs_i hi
  have hS0 : va_S (azs 28 ad s.heap.size) s.heap s.heap [] := va_S.rf
  refine lv_aload_n hx hb dL_licence_0 rfl (lv_at hl 2 rfl) ?_
  refine lv_iconst (v := nI 0) hx hb dL_licence_1 (by decide) ?_
  refine lv_aload_n hx hb dL_licence_2 rfl (lv_at hl 0 rfl) ?_
  refine lv_iload_n hx hb dL_licence_3 rfl (lv_at hl 1 rfl) ?_
  refine zx_i (vx_runV (As := [.int p0]) (rest := [.int (nI 0), .ref (ad 27)]) ⟨hx, hb, hml, hown, hts⟩ (p0_licence l hfl hI p0) (cwV 1 hts gL_licence_X0_licence rfl rfl rfl (by decide +kernel) (by decide)) (pv0X (s0 := s.heap) hK (woP_c hP) hX.1 (fun a _ _ => rfl)) rfl rfl hl.1 rfl (lv_room (Nat.le_of_ble_eq_true rfl)) dL_licence_4 (by decide)) (fun {E ce q9 H1} hp hz hk hce hcv hcl => ?_) (fun r hp => ?_)
  · have hS1 : va_S (azs 28 ad s.heap.size) s.heap H1 [] := ⟨hz, fun q h1 _ => hk q h1, fun q h => by cases h⟩
    obtain ⟨rfl, hcd⟩ := hp
    refine vx_catch (own := RL) (name := eI) (E := eI) (ce := ce) hown [] ⟨0, 9, 12, 24⟩ [] (htab.trans rfl) (fun z hz => by cases hz) (by decide) (by decide) (hts (.classLink RL 24 eI) (by decide +kernel)) hX.1.ci hce hcv hcl ?_
    refine lv_astore_n (lv' := [(3, .ref q9), (0, .ref (ad 0)), (1, .int p0), (2, .ref (ad 27))]) hx hb dL_licence_12 rfl hl (by decide) rfl (fun ls hl => ?_)
    refine lv_iconst (v := nI 1) hx hb dL_licence_13 (by decide) ?_
    exact hret (u := (o, ts, pu)) (by decide) (by decide) ⟨congrArg nI hcd.symm, fun h => absurd (hcd.symm.trans h) (by decide), hT⟩ hS1 (fun t ht hA => ⟨va_K.moved hA hK, by rw [ht]; exact wz_old hP hk⟩) dL_licence_14
  · obtain ⟨hg, rfl⟩ := hp
    have hcd : cd1 (ixB p0 (M 0 0)) = 0 := cd1_t hg
    have hP1 := hP
    refine lv_i2l hx hb dL_licence_7 rfl ?_
    refine zl_st hx hb hK hP1 hnd hAd hS0 27 (by decide) 1 rfl rfl (by decide) (i := 0) (by decide) _ (woS_o (i := 0)) dL_licence_8 (fun H2 locs2 hP2 hS2 => ?_)
    have hP2 := woP_set hP2
    refine lv_goto (tgt := 15) hx hb dL_licence_9 (by decide) ?_
    refine lv_iconst (v := nI 0) hx hb dL_licence_15 (by decide) ?_
    exact hret (u := (_, ts, pu)) (by decide) (by decide) ⟨congrArg nI hcd.symm, fun _ => rfl, hT⟩ hS2 (fun t ht hA => ⟨va_K.moved hA hK, by rw [ht]; exact hP2⟩) dL_licence_16
set_option maxHeartbeats 4000000 in
theorem w0_ratio (l : Launch) (hfl : l.stackTraces = false) {D : va_G} {ad : Nat → Nat} {cI cJ cQ : ClassId} {M : Mdl} {ts : Nat → Nat} {pu : Nat → Int64} {o : Int64} {sa : Nat → Nat} {Z : Nat → Prop} {sz : Nat} (hI : Inv M) (hnd : ndz 28 ad) (hT : hTs M ts) (p0 p1 p2 : Int32) : vx_Met l yL_ratio wsL_ratio (rmX 2 3) (va_Pc [.ref (ad 0), .int p0, .int p1, .int p2, .ref (ad 27)] (KW D ad cI cJ cQ M ts pu o sa Z sz)) (va_Qi (fun r_ (u_ : Int64 × (Nat → Nat) × (Nat → Int64)) => r_ = nI (cd2 (ixB p0 3 && ixB p1 3) (rgB p2 (nI 0) (nI 200))) ∧ ((cd2 (ixB p0 3 && ixB p1 3) (rgB p2 (nI 0) (nI 200))) = 0 → u_.1 = (nI (M (12 + 3 * clN p0) (clN p1))).toInt64) ∧ hTs (moC (cd2 (ixB p0 3 && ixB p1 3) (rgB p2 (nI 0) (nI 200))) (nx_ratio M (clN p0) (clN p1) (clN p2)) M) u_.2.1) (fun (u_ : Int64 × (Nat → Nat) × (Nat → Int64)) t_ => KO D ad cI cJ cQ (moC (cd2 (ixB p0 3 && ixB p1 3) (rgB p2 (nI 0) (nI 200))) (nx_ratio M (clN p0) (clN p1) (clN p2)) M) u_.2.1 u_.2.2 u_.1 t_) (azs 28 ad sz)) (fun _ _ _ => False) 3 18 (azs 28 ad sz) := by
  refine mkL_Qi (S := Int64 × (Nat → Nat) × (Nat → Int64)) (post := fun r_ (u_ : Int64 × (Nat → Nat) × (Nat → Int64)) => r_ = nI (cd2 (ixB p0 3 && ixB p1 3) (rgB p2 (nI 0) (nI 200))) ∧ ((cd2 (ixB p0 3 && ixB p1 3) (rgB p2 (nI 0) (nI 200))) = 0 → u_.1 = (nI (M (12 + 3 * clN p0) (clN p1))).toInt64) ∧ hTs (moC (cd2 (ixB p0 3 && ixB p1 3) (rgB p2 (nI 0) (nI 200))) (nx_ratio M (clN p0) (clN p1) (clN p2)) M) u_.2.1) (BQ := fun (u_ : Int64 × (Nat → Nat) × (Nat → Int64)) t_ => KO D ad cI cJ cQ (moC (cd2 (ixB p0 3 && ixB p1 3) (rgB p2 (nI 0) (nI 200))) (nx_ratio M (clN p0) (clN p1) (clN p2)) M) u_.2.1 u_.2.2 u_.1 t_) (cc := cL_ratio) (maxL := 6) (hh := [(0, 12, 15, 24), (0, 12, 19, 13)]) (by decide) rfl (Nat.le_of_ble_eq_true rfl) ?_
  intro p e s m args below meth c Q C0 htab B0 hret ls hl
  obtain ⟨hx, hb, hr, hml, hown, hts, hlocks⟩ := C0
  have hown : s.vm.findClass RL = some m.cls := hown
  obtain ⟨hsz, hX, hK, hP⟩ := B0
  subst hsz
  have hl : lv_has ls 6 [(0, .ref (ad 0)), (1, .int p0), (2, .int p1), (3, .int p2), (4, .ref (ad 27))] := hl
  have hndc : ndz 27 ad := fun i j hi hj h => hnd i j (by omega) (by omega) h
  have hAd : ∀ i, i < 28 → azs 28 ad s.heap.size (ad i) := fun i hi => azs_i hi
  have hS0 : va_S (azs 28 ad s.heap.size) s.heap s.heap [] := va_S.rf
  refine lv_aload hx hb dL_ratio_0 (lv_at hl 4 rfl) ?_
  refine lv_iconst (v := nI 0) hx hb dL_ratio_2 (by decide) ?_
  refine lv_aload_n hx hb dL_ratio_3 rfl (lv_at hl 0 rfl) ?_
  refine lv_iload_n hx hb dL_ratio_4 rfl (lv_at hl 1 rfl) ?_
  refine lv_iload_n hx hb dL_ratio_5 rfl (lv_at hl 2 rfl) ?_
  refine lv_iload_n hx hb dL_ratio_6 rfl (lv_at hl 3 rfl) ?_
  refine zx_wi (A0 := azs 28 ad s.heap.size) (H0 := s.heap) (vx_runV (As := [.int p0, .int p1, .int p2]) (rest := [.int (nI 0), .ref (ad 27)]) ⟨hx, hb, hml, hown, hts⟩ (p0_ratio l hfl hI hndc p0 p1 p2) (cwV 3 hts gL_ratio_X0_ratio rfl rfl rfl (by decide +kernel) (by decide)) (pv0X (s0 := s.heap) hK (woP_c hP) hX.1 (fun a _ _ => rfl)) rfl rfl hl.1 rfl (lv_room (Nat.le_of_ble_eq_true rfl)) dL_ratio_7 (by decide)) hS0 (fun q _ h => h.elim (fun ⟨i, hi, he⟩ => Or.inl ⟨i, by omega, he⟩) Or.inr) (fun q h => h.elim (fun ⟨i, hi, he⟩ => Or.inl ⟨i, by omega, he⟩) Or.inr) (fun {E ce q9 H1 locs1} hp hz hk hS1 hce hcv hcl => ?_) (fun r u t H1 locs1 ht9 hv hp hB hz hk hS1 => ?_)
  · have hz9 := hz
    rcases hp with ⟨rfl, hcd⟩ | ⟨rfl, hcd⟩
    · refine vx_catch (own := RL) (name := eI) (E := eI) (ce := ce) hown [] ⟨0, 12, 15, 24⟩ [⟨0, 12, 19, 13⟩] (htab.trans rfl) (fun z hz => by cases hz) (by decide) (by decide) (hts (.classLink RL 24 eI) (by decide +kernel)) hX.1.ci hce hcv hcl ?_
      refine lv_astore (lv' := [(5, .ref q9), (0, .ref (ad 0)), (1, .int p0), (2, .int p1), (3, .int p2), (4, .ref (ad 27))]) hx hb dL_ratio_15 hl (by decide) rfl (fun ls hl => ?_)
      refine lv_iconst (v := nI 1) hx hb dL_ratio_17 (by decide) ?_
      have eM : (moC (cd2 (ixB p0 3 && ixB p1 3) (rgB p2 (nI 0) (nI 200))) (nx_ratio M (clN p0) (clN p1) (clN p2)) M) = M := moC_n (by rw [hcd]; decide)
      exact hret (u := (o, ts, pu)) (by decide) (by decide) ⟨congrArg nI hcd.symm, fun h => absurd (hcd.symm.trans h) (by decide), by rw [eM]; exact hT⟩ hS1 (fun t ht hA => by rw [eM]; exact ⟨va_K.moved hA hK, by rw [ht]; exact wz_old hP hk⟩) dL_ratio_18
    · refine vx_catch (own := RL) (name := eA) (E := eA) (ce := ce) hown [⟨0, 12, 15, 24⟩] ⟨0, 12, 19, 13⟩ [] (htab.trans rfl) (fun z hz => by cases List.mem_singleton.mp hz; exact Or.inr ⟨by decide, _, hts (.classLink RL 24 eI) (by decide +kernel), hX.2.2.1⟩) (by decide) (by decide) (hts (.classLink RL 13 eA) (by decide +kernel)) hX.1.ca hce hcv hcl ?_
      refine lv_astore (lv' := [(5, .ref q9), (0, .ref (ad 0)), (1, .int p0), (2, .int p1), (3, .int p2), (4, .ref (ad 27))]) hx hb dL_ratio_19 hl (by decide) rfl (fun ls hl => ?_)
      refine lv_iconst (v := nI 2) hx hb dL_ratio_21 (by decide) ?_
      have eM : (moC (cd2 (ixB p0 3 && ixB p1 3) (rgB p2 (nI 0) (nI 200))) (nx_ratio M (clN p0) (clN p1) (clN p2)) M) = M := moC_n (by rw [hcd]; decide)
      exact hret (u := (o, ts, pu)) (by decide) (by decide) ⟨congrArg nI hcd.symm, fun h => absurd (hcd.symm.trans h) (by decide), by rw [eM]; exact hT⟩ hS1 (fun t ht hA => by rw [eM]; exact ⟨va_K.moved hA hK, by rw [ht]; exact wz_old hP hk⟩) dL_ratio_22
  · obtain ⟨hg, rfl⟩ := hp
    have hcd : cd2 (ixB p0 3 && ixB p1 3) (rgB p2 (nI 0) (nI 200)) = 0 := cd2_t hg
    have hP1 := woP_next hP hnd hk (by rw [← ht9]; exact hB.2)
    refine lv_i2l hx hb dL_ratio_10 rfl ?_
    refine zl_st hx hb hK hP1 hnd hAd hS1 27 (by decide) 1 rfl rfl (by decide) (i := 0) (by decide) _ (woS_o (i := 0)) dL_ratio_11 (fun H2 locs2 hP2 hS2 => ?_)
    have hP2 := woP_set hP2
    refine lv_goto (tgt := 23) hx hb dL_ratio_12 (by decide) ?_
    refine lv_iconst (v := nI 0) hx hb dL_ratio_23 (by decide) ?_
    have eM : (moC (cd2 (ixB p0 3 && ixB p1 3) (rgB p2 (nI 0) (nI 200))) (nx_ratio M (clN p0) (clN p1) (clN p2)) M) = nx_ratio M (clN p0) (clN p1) (clN p2) := moC_z hcd
    have hTn : hTs (moC (cd2 (ixB p0 3 && ixB p1 3) (rgB p2 (nI 0) (nI 200))) (nx_ratio M (clN p0) (clN p1) (clN p2)) M) (ts) := by
      rw [eM]
      exact (hTs_k hT (fun r hr => by omega))
    exact hret (u := (_, ts, pu)) (by decide) (by decide) ⟨congrArg nI hcd.symm, fun _ => rfl, hTn⟩ hS2 (fun t ht hA => by rw [eM]; exact ⟨va_K.moved hA hK, by rw [ht]; exact hP2⟩) dL_ratio_24
set_option maxHeartbeats 4000000 in
theorem w0_burden (l : Launch) (hfl : l.stackTraces = false) {D : va_G} {ad : Nat → Nat} {cI cJ cQ : ClassId} {M : Mdl} {ts : Nat → Nat} {pu : Nat → Int64} {o : Int64} {sa : Nat → Nat} {Z : Nat → Prop} {sz : Nat} (hI : Inv M) (hnd : ndz 28 ad) (hT : hTs M ts) (p0 : Int32) : vx_Met l yL_burden wsL_burden (rmX 3 1) (va_Pc [.ref (ad 0), .int p0, .ref (ad 27)] (KW D ad cI cJ cQ M ts pu o sa Z sz)) (va_Qi (fun r_ (u_ : Int64 × (Nat → Nat) × (Nat → Int64)) => r_ = nI (cd1 (ixB p0 (M 5 0))) ∧ ((cd1 (ixB p0 (M 5 0))) = 0 → u_.1 = lN (bud M (clN p0))) ∧ hTs M u_.2.1) (fun (u_ : Int64 × (Nat → Nat) × (Nat → Int64)) t_ => KO D ad cI cJ cQ M u_.2.1 u_.2.2 u_.1 t_) (azs 28 ad sz)) (fun _ _ _ => False) 1 6 (azs 28 ad sz) := by
  refine mkL_Qi (S := Int64 × (Nat → Nat) × (Nat → Int64)) (post := fun r_ (u_ : Int64 × (Nat → Nat) × (Nat → Int64)) => r_ = nI (cd1 (ixB p0 (M 5 0))) ∧ ((cd1 (ixB p0 (M 5 0))) = 0 → u_.1 = lN (bud M (clN p0))) ∧ hTs M u_.2.1) (BQ := fun (u_ : Int64 × (Nat → Nat) × (Nat → Int64)) t_ => KO D ad cI cJ cQ M u_.2.1 u_.2.2 u_.1 t_) (cc := cL_burden) (maxL := 4) (hh := [(0, 8, 11, 24)]) (by decide) rfl (Nat.le_of_ble_eq_true rfl) ?_
  intro p e s m args below meth c Q C0 htab B0 hret ls hl
  obtain ⟨hx, hb, hr, hml, hown, hts, hlocks⟩ := C0
  have hown : s.vm.findClass RL = some m.cls := hown
  obtain ⟨hsz, hX, hK, hP⟩ := B0
  subst hsz
  have hl : lv_has ls 4 [(0, .ref (ad 0)), (1, .int p0), (2, .ref (ad 27))] := hl
  have hndc : ndz 27 ad := fun i j hi hj h => hnd i j (by omega) (by omega) h
  have hAd : ∀ i, i < 28 → azs 28 ad s.heap.size (ad i) := fun i hi => azs_i hi
  have hS0 : va_S (azs 28 ad s.heap.size) s.heap s.heap [] := va_S.rf
  refine lv_aload_n hx hb dL_burden_0 rfl (lv_at hl 2 rfl) ?_
  refine lv_iconst (v := nI 0) hx hb dL_burden_1 (by decide) ?_
  refine lv_aload_n hx hb dL_burden_2 rfl (lv_at hl 0 rfl) ?_
  refine lv_iload_n hx hb dL_burden_3 rfl (lv_at hl 1 rfl) ?_
  refine zx_l (vx_runV (As := [.int p0]) (rest := [.int (nI 0), .ref (ad 27)]) ⟨hx, hb, hml, hown, hts⟩ (p0_burden l hfl hI hT p0) (cwV 1 hts gL_burden_X0_burden rfl rfl rfl (by decide +kernel) (by decide)) (pv0X (s0 := s.heap) hK (woP_c hP) hX.1 (fun a _ _ => rfl)) rfl rfl hl.1 rfl (lv_room (Nat.le_of_ble_eq_true rfl)) dL_burden_4 (by decide)) (fun {E ce q9 H1} hp hz hk hce hcv hcl => ?_) (fun r hp => ?_)
  · have hS1 : va_S (azs 28 ad s.heap.size) s.heap H1 [] := ⟨hz, fun q h1 _ => hk q h1, fun q h => by cases h⟩
    obtain ⟨rfl, hcd⟩ := hp
    refine vx_catch (own := RL) (name := eI) (E := eI) (ce := ce) hown [] ⟨0, 8, 11, 24⟩ [] (htab.trans rfl) (fun z hz => by cases hz) (by decide) (by decide) (hts (.classLink RL 24 eI) (by decide +kernel)) hX.1.ci hce hcv hcl ?_
    refine lv_astore_n (lv' := [(3, .ref q9), (0, .ref (ad 0)), (1, .int p0), (2, .ref (ad 27))]) hx hb dL_burden_11 rfl hl (by decide) rfl (fun ls hl => ?_)
    refine lv_iconst (v := nI 1) hx hb dL_burden_12 (by decide) ?_
    exact hret (u := (o, ts, pu)) (by decide) (by decide) ⟨congrArg nI hcd.symm, fun h => absurd (hcd.symm.trans h) (by decide), hT⟩ hS1 (fun t ht hA => ⟨va_K.moved hA hK, by rw [ht]; exact wz_old hP hk⟩) dL_burden_13
  · obtain ⟨hg, rfl⟩ := hp
    have hcd : cd1 (ixB p0 (M 5 0)) = 0 := cd1_t hg
    have hP1 := hP
    refine zl_st hx hb hK hP1 hnd hAd hS0 27 (by decide) 1 rfl rfl (by decide) (i := 0) (by decide) _ (woS_o (i := 0)) dL_burden_7 (fun H2 locs2 hP2 hS2 => ?_)
    have hP2 := woP_set hP2
    refine lv_goto (tgt := 14) hx hb dL_burden_8 (by decide) ?_
    refine lv_iconst (v := nI 0) hx hb dL_burden_14 (by decide) ?_
    exact hret (u := (_, ts, pu)) (by decide) (by decide) ⟨congrArg nI hcd.symm, fun _ => rfl, hT⟩ hS2 (fun t ht hA => ⟨va_K.moved hA hK, by rw [ht]; exact hP2⟩) dL_burden_15
set_option maxHeartbeats 4000000 in
theorem w0_trade (l : Launch) (hfl : l.stackTraces = false) {D : va_G} {ad : Nat → Nat} {cI cJ cQ : ClassId} {M : Mdl} {ts : Nat → Nat} {pu : Nat → Int64} {o : Int64} {sa : Nat → Nat} {Z : Nat → Prop} {sz : Nat} (hI : Inv M) (hnd : ndz 28 ad) (hT : hTs M ts) (p0 p1 p2 : Int32) : vx_Met l yL_trade wsL_trade (rmX 3 5) (va_Pc [.ref (ad 0), .int p0, .int p1, .int p2, .ref (ad 27)] (KW D ad cI cJ cQ M ts pu o sa Z sz)) (va_Qi (fun r_ (u_ : Int64 × (Nat → Nat) × (Nat → Int64)) => r_ = nI (cd3 (ixB p0 (M 0 0) && ixB p1 (M 0 0)) (decide (p0 ≠ p1) && rgB p2 (nI 1) (nI 5000)) (cn M (clN p0) (clN p1) (clN p2))) ∧ ((cd3 (ixB p0 (M 0 0) && ixB p1 (M 0 0)) (decide (p0 ≠ p1) && rgB p2 (nI 1) (nI 5000)) (cn M (clN p0) (clN p1) (clN p2))) = 0 → u_.1 = (nI (gt M (clN p0) (clN p1) (clN p2))).toInt64) ∧ hTs (moC (cd3 (ixB p0 (M 0 0) && ixB p1 (M 0 0)) (decide (p0 ≠ p1) && rgB p2 (nI 1) (nI 5000)) (cn M (clN p0) (clN p1) (clN p2))) (nx_trade M (clN p0) (clN p1) (clN p2)) M) u_.2.1) (fun (u_ : Int64 × (Nat → Nat) × (Nat → Int64)) t_ => KO D ad cI cJ cQ (moC (cd3 (ixB p0 (M 0 0) && ixB p1 (M 0 0)) (decide (p0 ≠ p1) && rgB p2 (nI 1) (nI 5000)) (cn M (clN p0) (clN p1) (clN p2))) (nx_trade M (clN p0) (clN p1) (clN p2)) M) u_.2.1 u_.2.2 u_.1 t_) (azs 28 ad sz)) (fun _ _ _ => False) 5 30 (azs 28 ad sz) := by
  refine mkL_Qi (S := Int64 × (Nat → Nat) × (Nat → Int64)) (post := fun r_ (u_ : Int64 × (Nat → Nat) × (Nat → Int64)) => r_ = nI (cd3 (ixB p0 (M 0 0) && ixB p1 (M 0 0)) (decide (p0 ≠ p1) && rgB p2 (nI 1) (nI 5000)) (cn M (clN p0) (clN p1) (clN p2))) ∧ ((cd3 (ixB p0 (M 0 0) && ixB p1 (M 0 0)) (decide (p0 ≠ p1) && rgB p2 (nI 1) (nI 5000)) (cn M (clN p0) (clN p1) (clN p2))) = 0 → u_.1 = (nI (gt M (clN p0) (clN p1) (clN p2))).toInt64) ∧ hTs (moC (cd3 (ixB p0 (M 0 0) && ixB p1 (M 0 0)) (decide (p0 ≠ p1) && rgB p2 (nI 1) (nI 5000)) (cn M (clN p0) (clN p1) (clN p2))) (nx_trade M (clN p0) (clN p1) (clN p2)) M) u_.2.1) (BQ := fun (u_ : Int64 × (Nat → Nat) × (Nat → Int64)) t_ => KO D ad cI cJ cQ (moC (cd3 (ixB p0 (M 0 0) && ixB p1 (M 0 0)) (decide (p0 ≠ p1) && rgB p2 (nI 1) (nI 5000)) (cn M (clN p0) (clN p1) (clN p2))) (nx_trade M (clN p0) (clN p1) (clN p2)) M) u_.2.1 u_.2.2 u_.1 t_) (cc := cL_trade) (maxL := 6) (hh := [(0, 12, 15, 24), (0, 12, 19, 13), (0, 12, 23, 15)]) (by decide) rfl (Nat.le_of_ble_eq_true rfl) ?_
  intro p e s m args below meth c Q C0 htab B0 hret ls hl
  obtain ⟨hx, hb, hr, hml, hown, hts, hlocks⟩ := C0
  have hown : s.vm.findClass RL = some m.cls := hown
  obtain ⟨hsz, hX, hK, hP⟩ := B0
  subst hsz
  have hl : lv_has ls 6 [(0, .ref (ad 0)), (1, .int p0), (2, .int p1), (3, .int p2), (4, .ref (ad 27))] := hl
  have hndc : ndz 27 ad := fun i j hi hj h => hnd i j (by omega) (by omega) h
  have hAd : ∀ i, i < 28 → azs 28 ad s.heap.size (ad i) := fun i hi => azs_i hi
  have hS0 : va_S (azs 28 ad s.heap.size) s.heap s.heap [] := va_S.rf
  refine lv_aload hx hb dL_trade_0 (lv_at hl 4 rfl) ?_
  refine lv_iconst (v := nI 0) hx hb dL_trade_2 (by decide) ?_
  refine lv_aload_n hx hb dL_trade_3 rfl (lv_at hl 0 rfl) ?_
  refine lv_iload_n hx hb dL_trade_4 rfl (lv_at hl 1 rfl) ?_
  refine lv_iload_n hx hb dL_trade_5 rfl (lv_at hl 2 rfl) ?_
  refine lv_iload_n hx hb dL_trade_6 rfl (lv_at hl 3 rfl) ?_
  refine zx_wi (A0 := azs 28 ad s.heap.size) (H0 := s.heap) (vx_runV (As := [.int p0, .int p1, .int p2]) (rest := [.int (nI 0), .ref (ad 27)]) ⟨hx, hb, hml, hown, hts⟩ (p0_trade l hfl hI hndc hT p0 p1 p2) (cwV 3 hts gL_trade_X0_trade rfl rfl rfl (by decide +kernel) (by decide)) (pv0X (s0 := s.heap) hK (woP_c hP) hX.1 (fun a _ _ => rfl)) rfl rfl hl.1 rfl (lv_room (Nat.le_of_ble_eq_true rfl)) dL_trade_7 (by decide)) hS0 (fun q _ h => h.elim (fun ⟨i, hi, he⟩ => Or.inl ⟨i, by omega, he⟩) Or.inr) (fun q h => h.elim (fun ⟨i, hi, he⟩ => Or.inl ⟨i, by omega, he⟩) Or.inr) (fun {E ce q9 H1 locs1} hp hz hk hS1 hce hcv hcl => ?_) (fun r u t H1 locs1 ht9 hv hp hB hz hk hS1 => ?_)
  · have hz9 := hz
    rcases hp with ⟨rfl, hcd⟩ | ⟨rfl, hcd⟩ | ⟨rfl, hcd⟩
    · refine vx_catch (own := RL) (name := eI) (E := eI) (ce := ce) hown [] ⟨0, 12, 15, 24⟩ [⟨0, 12, 19, 13⟩, ⟨0, 12, 23, 15⟩] (htab.trans rfl) (fun z hz => by cases hz) (by decide) (by decide) (hts (.classLink RL 24 eI) (by decide +kernel)) hX.1.ci hce hcv hcl ?_
      refine lv_astore (lv' := [(5, .ref q9), (0, .ref (ad 0)), (1, .int p0), (2, .int p1), (3, .int p2), (4, .ref (ad 27))]) hx hb dL_trade_15 hl (by decide) rfl (fun ls hl => ?_)
      refine lv_iconst (v := nI 1) hx hb dL_trade_17 (by decide) ?_
      have eM : (moC (cd3 (ixB p0 (M 0 0) && ixB p1 (M 0 0)) (decide (p0 ≠ p1) && rgB p2 (nI 1) (nI 5000)) (cn M (clN p0) (clN p1) (clN p2))) (nx_trade M (clN p0) (clN p1) (clN p2)) M) = M := moC_n (by rw [hcd]; decide)
      exact hret (u := (o, ts, pu)) (by decide) (by decide) ⟨congrArg nI hcd.symm, fun h => absurd (hcd.symm.trans h) (by decide), by rw [eM]; exact hT⟩ hS1 (fun t ht hA => by rw [eM]; exact ⟨va_K.moved hA hK, by rw [ht]; exact wz_old hP hk⟩) dL_trade_18
    · refine vx_catch (own := RL) (name := eA) (E := eA) (ce := ce) hown [⟨0, 12, 15, 24⟩] ⟨0, 12, 19, 13⟩ [⟨0, 12, 23, 15⟩] (htab.trans rfl) (fun z hz => by cases List.mem_singleton.mp hz; exact Or.inr ⟨by decide, _, hts (.classLink RL 24 eI) (by decide +kernel), hX.2.2.1⟩) (by decide) (by decide) (hts (.classLink RL 13 eA) (by decide +kernel)) hX.1.ca hce hcv hcl ?_
      refine lv_astore (lv' := [(5, .ref q9), (0, .ref (ad 0)), (1, .int p0), (2, .int p1), (3, .int p2), (4, .ref (ad 27))]) hx hb dL_trade_19 hl (by decide) rfl (fun ls hl => ?_)
      refine lv_iconst (v := nI 2) hx hb dL_trade_21 (by decide) ?_
      have eM : (moC (cd3 (ixB p0 (M 0 0) && ixB p1 (M 0 0)) (decide (p0 ≠ p1) && rgB p2 (nI 1) (nI 5000)) (cn M (clN p0) (clN p1) (clN p2))) (nx_trade M (clN p0) (clN p1) (clN p2)) M) = M := moC_n (by rw [hcd]; decide)
      exact hret (u := (o, ts, pu)) (by decide) (by decide) ⟨congrArg nI hcd.symm, fun h => absurd (hcd.symm.trans h) (by decide), by rw [eM]; exact hT⟩ hS1 (fun t ht hA => by rw [eM]; exact ⟨va_K.moved hA hK, by rw [ht]; exact wz_old hP hk⟩) dL_trade_22
    · refine vx_catch (own := RL) (name := eS) (E := eS) (ce := ce) hown [⟨0, 12, 15, 24⟩, ⟨0, 12, 19, 13⟩] ⟨0, 12, 23, 15⟩ [] (htab.trans rfl) (fun z hz => (List.mem_cons.mp hz).elim (fun h9 => by cases h9; exact Or.inr ⟨by decide, _, hts (.classLink RL 24 eI) (by decide +kernel), hX.2.2.2⟩) (fun h9 => by cases List.mem_singleton.mp h9; exact Or.inr ⟨by decide, _, hts (.classLink RL 13 eA) (by decide +kernel), hX.2.1⟩)) (by decide) (by decide) (hts (.classLink RL 15 eS) (by decide +kernel)) hX.1.cs hce hcv hcl ?_
      refine lv_astore (lv' := [(5, .ref q9), (0, .ref (ad 0)), (1, .int p0), (2, .int p1), (3, .int p2), (4, .ref (ad 27))]) hx hb dL_trade_23 hl (by decide) rfl (fun ls hl => ?_)
      refine lv_iconst (v := nI 3) hx hb dL_trade_25 (by decide) ?_
      have eM : (moC (cd3 (ixB p0 (M 0 0) && ixB p1 (M 0 0)) (decide (p0 ≠ p1) && rgB p2 (nI 1) (nI 5000)) (cn M (clN p0) (clN p1) (clN p2))) (nx_trade M (clN p0) (clN p1) (clN p2)) M) = M := moC_n (by rw [hcd]; decide)
      exact hret (u := (o, ts, pu)) (by decide) (by decide) ⟨congrArg nI hcd.symm, fun h => absurd (hcd.symm.trans h) (by decide), by rw [eM]; exact hT⟩ hS1 (fun t ht hA => by rw [eM]; exact ⟨va_K.moved hA hK, by rw [ht]; exact wz_old hP hk⟩) dL_trade_26
  · obtain ⟨hg, rfl⟩ := hp
    have hcd : cd3 (ixB p0 (M 0 0) && ixB p1 (M 0 0)) (decide (p0 ≠ p1) && rgB p2 (nI 1) (nI 5000)) (cn M (clN p0) (clN p1) (clN p2)) = 0 := cd3_t hg
    have hP1 := woP_next hP hnd hk (by rw [← ht9]; exact hB.2)
    refine lv_i2l hx hb dL_trade_10 rfl ?_
    refine zl_st hx hb hK hP1 hnd hAd hS1 27 (by decide) 1 rfl rfl (by decide) (i := 0) (by decide) _ (woS_o (i := 0)) dL_trade_11 (fun H2 locs2 hP2 hS2 => ?_)
    have hP2 := woP_set hP2
    refine lv_goto (tgt := 27) hx hb dL_trade_12 (by decide) ?_
    refine lv_iconst (v := nI 0) hx hb dL_trade_27 (by decide) ?_
    have eM : (moC (cd3 (ixB p0 (M 0 0) && ixB p1 (M 0 0)) (decide (p0 ≠ p1) && rgB p2 (nI 1) (nI 5000)) (cn M (clN p0) (clN p1) (clN p2))) (nx_trade M (clN p0) (clN p1) (clN p2)) M) = nx_trade M (clN p0) (clN p1) (clN p2) := moC_z hcd
    have hTn : hTs (moC (cd3 (ixB p0 (M 0 0) && ixB p1 (M 0 0)) (decide (p0 ≠ p1) && rgB p2 (nI 1) (nI 5000)) (cn M (clN p0) (clN p1) (clN p2))) (nx_trade M (clN p0) (clN p1) (clN p2)) M) (ts) := by
      rw [eM]
      exact (hTs_k (hTs_k hT (fun r hr => by omega)) (fun r hr => by omega))
    exact hret (u := (_, ts, pu)) (by decide) (by decide) ⟨congrArg nI hcd.symm, fun _ => rfl, hTn⟩ hS2 (fun t ht hA => by rw [eM]; exact ⟨va_K.moved hA hK, by rw [ht]; exact hP2⟩) dL_trade_28
set_option maxHeartbeats 4000000 in
theorem w0_mostTraded (l : Launch) (hfl : l.stackTraces = false) {D : va_G} {ad : Nat → Nat} {cI cJ cQ : ClassId} {M : Mdl} {ts : Nat → Nat} {pu : Nat → Int64} {o : Int64} {sa : Nat → Nat} {Z : Nat → Prop} {sz : Nat} (hI : Inv M) (hnd : ndz 28 ad) (hT : hTs M ts) (p0 p1 : Int32) : vx_Met l yL_mostTraded wsL_mostTraded (rmX 3 3) (va_Pc [.ref (ad 0), .int p0, .int p1, .ref (ad 27)] (KW D ad cI cJ cQ M ts pu o sa Z sz)) (va_Qi (fun r_ (u_ : Int64 × (Nat → Nat) × (Nat → Int64)) => r_ = nI (cd2 (ixB p0 (M 0 0) && ixB p1 (M 0 0)) (decide (p0 ≠ p1))) ∧ ((cd2 (ixB p0 (M 0 0) && ixB p1 (M 0 0)) (decide (p0 ≠ p1))) = 0 → u_.1 = (nI (mtr M (clN p0) (clN p1) 5000)).toInt64) ∧ hTs M u_.2.1) (fun (u_ : Int64 × (Nat → Nat) × (Nat → Int64)) t_ => KO D ad cI cJ cQ M u_.2.1 u_.2.2 u_.1 t_) (azs 28 ad sz)) (fun _ _ _ => False) 3 18 (azs 28 ad sz) := by
  refine mkL_Qi (S := Int64 × (Nat → Nat) × (Nat → Int64)) (post := fun r_ (u_ : Int64 × (Nat → Nat) × (Nat → Int64)) => r_ = nI (cd2 (ixB p0 (M 0 0) && ixB p1 (M 0 0)) (decide (p0 ≠ p1))) ∧ ((cd2 (ixB p0 (M 0 0) && ixB p1 (M 0 0)) (decide (p0 ≠ p1))) = 0 → u_.1 = (nI (mtr M (clN p0) (clN p1) 5000)).toInt64) ∧ hTs M u_.2.1) (BQ := fun (u_ : Int64 × (Nat → Nat) × (Nat → Int64)) t_ => KO D ad cI cJ cQ M u_.2.1 u_.2.2 u_.1 t_) (cc := cL_mostTraded) (maxL := 5) (hh := [(0, 10, 13, 24), (0, 10, 17, 13)]) (by decide) rfl (Nat.le_of_ble_eq_true rfl) ?_
  intro p e s m args below meth c Q C0 htab B0 hret ls hl
  obtain ⟨hx, hb, hr, hml, hown, hts, hlocks⟩ := C0
  have hown : s.vm.findClass RL = some m.cls := hown
  obtain ⟨hsz, hX, hK, hP⟩ := B0
  subst hsz
  have hl : lv_has ls 5 [(0, .ref (ad 0)), (1, .int p0), (2, .int p1), (3, .ref (ad 27))] := hl
  have hndc : ndz 27 ad := fun i j hi hj h => hnd i j (by omega) (by omega) h
  have hAd : ∀ i, i < 28 → azs 28 ad s.heap.size (ad i) := fun i hi => azs_i hi
  have hS0 : va_S (azs 28 ad s.heap.size) s.heap s.heap [] := va_S.rf
  refine lv_aload_n hx hb dL_mostTraded_0 rfl (lv_at hl 3 rfl) ?_
  refine lv_iconst (v := nI 0) hx hb dL_mostTraded_1 (by decide) ?_
  refine lv_aload_n hx hb dL_mostTraded_2 rfl (lv_at hl 0 rfl) ?_
  refine lv_iload_n hx hb dL_mostTraded_3 rfl (lv_at hl 1 rfl) ?_
  refine lv_iload_n hx hb dL_mostTraded_4 rfl (lv_at hl 2 rfl) ?_
  refine zx_i (vx_runV (As := [.int p0, .int p1]) (rest := [.int (nI 0), .ref (ad 27)]) ⟨hx, hb, hml, hown, hts⟩ (p0_mostTraded l hfl hI hT p0 p1) (cwV 2 hts gL_mostTraded_X0_mostTraded rfl rfl rfl (by decide +kernel) (by decide)) (pv0X (s0 := s.heap) hK (woP_c hP) hX.1 (fun a _ _ => rfl)) rfl rfl hl.1 rfl (lv_room (Nat.le_of_ble_eq_true rfl)) dL_mostTraded_5 (by decide)) (fun {E ce q9 H1} hp hz hk hce hcv hcl => ?_) (fun r hp => ?_)
  · have hS1 : va_S (azs 28 ad s.heap.size) s.heap H1 [] := ⟨hz, fun q h1 _ => hk q h1, fun q h => by cases h⟩
    rcases hp with ⟨rfl, hcd⟩ | ⟨rfl, hcd⟩
    · refine vx_catch (own := RL) (name := eI) (E := eI) (ce := ce) hown [] ⟨0, 10, 13, 24⟩ [⟨0, 10, 17, 13⟩] (htab.trans rfl) (fun z hz => by cases hz) (by decide) (by decide) (hts (.classLink RL 24 eI) (by decide +kernel)) hX.1.ci hce hcv hcl ?_
      refine lv_astore (lv' := [(4, .ref q9), (0, .ref (ad 0)), (1, .int p0), (2, .int p1), (3, .ref (ad 27))]) hx hb dL_mostTraded_13 hl (by decide) rfl (fun ls hl => ?_)
      refine lv_iconst (v := nI 1) hx hb dL_mostTraded_15 (by decide) ?_
      exact hret (u := (o, ts, pu)) (by decide) (by decide) ⟨congrArg nI hcd.symm, fun h => absurd (hcd.symm.trans h) (by decide), hT⟩ hS1 (fun t ht hA => ⟨va_K.moved hA hK, by rw [ht]; exact wz_old hP hk⟩) dL_mostTraded_16
    · refine vx_catch (own := RL) (name := eA) (E := eA) (ce := ce) hown [⟨0, 10, 13, 24⟩] ⟨0, 10, 17, 13⟩ [] (htab.trans rfl) (fun z hz => by cases List.mem_singleton.mp hz; exact Or.inr ⟨by decide, _, hts (.classLink RL 24 eI) (by decide +kernel), hX.2.2.1⟩) (by decide) (by decide) (hts (.classLink RL 13 eA) (by decide +kernel)) hX.1.ca hce hcv hcl ?_
      refine lv_astore (lv' := [(4, .ref q9), (0, .ref (ad 0)), (1, .int p0), (2, .int p1), (3, .ref (ad 27))]) hx hb dL_mostTraded_17 hl (by decide) rfl (fun ls hl => ?_)
      refine lv_iconst (v := nI 2) hx hb dL_mostTraded_19 (by decide) ?_
      exact hret (u := (o, ts, pu)) (by decide) (by decide) ⟨congrArg nI hcd.symm, fun h => absurd (hcd.symm.trans h) (by decide), hT⟩ hS1 (fun t ht hA => ⟨va_K.moved hA hK, by rw [ht]; exact wz_old hP hk⟩) dL_mostTraded_20
  · obtain ⟨hg, rfl⟩ := hp
    have hcd : cd2 (ixB p0 (M 0 0) && ixB p1 (M 0 0)) (decide (p0 ≠ p1)) = 0 := cd2_t hg
    have hP1 := hP
    refine lv_i2l hx hb dL_mostTraded_8 rfl ?_
    refine zl_st hx hb hK hP1 hnd hAd hS0 27 (by decide) 1 rfl rfl (by decide) (i := 0) (by decide) _ (woS_o (i := 0)) dL_mostTraded_9 (fun H2 locs2 hP2 hS2 => ?_)
    have hP2 := woP_set hP2
    refine lv_goto (tgt := 21) hx hb dL_mostTraded_10 (by decide) ?_
    refine lv_iconst (v := nI 0) hx hb dL_mostTraded_21 (by decide) ?_
    exact hret (u := (_, ts, pu)) (by decide) (by decide) ⟨congrArg nI hcd.symm, fun _ => rfl, hT⟩ hS2 (fun t ht hA => ⟨va_K.moved hA hK, by rw [ht]; exact hP2⟩) dL_mostTraded_22
