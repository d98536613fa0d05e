/-! the law's methods that ask the class -/
theorem ixB_lt {p : Int32} {n : Nat} (hn : n < 2 ^ 31) (h : ixB p n = true) : clN p < n := by
  obtain ⟨j, hj, rfl⟩ := ixB_of hn h
  rw [clN_nI (by omega)]
  exact hj
theorem hTs_rst {M : Mdl} {ts : Nat → Nat} {w m : Nat} (h : hTs M ts) : ∀ {k : Nat}, hTs (rst M w m k) ts
  | 0 => h
  | k + 1 => hTs_k (hTs_rst h) (fun r hr => by omega)
set_option maxHeartbeats 4000000 in
set_option maxRecDepth 100000 in
/-- built: well -/
theorem q_built (l : Launch) (hfl : l.stackTraces = false) {D : va_G} {n : Nat} {ad : Nat → Nat} {cI cJ cQ : ClassId} {M K : Mdl} {ts : Nat → Nat} {pu : Nat → Int64} {X : Nat → va_E} {sa : Nat → Nat} {sz z0 : Nat} (hI : Inv M) (hn : 37 ≤ n) (hnd : ndz n ad) (hAd : ∀ i, i < n → zA z0 (ad i)) (hz0 : z0 ≤ sz) (hT : hTs M ts) (hw8 : M 0 0 < 8) (p0 p1 p2 : Int32) : vx_Met l yL_built wsL_built (rmX 2 4) (va_Pc [.ref (ad 0), .int (p0), .int (p1), .int (p2)] (KV D n ad cI cJ cQ (wxE ad cI cJ cQ M ts pu K X) sa (zA z0) sz)) (va_Qi (fun r_ (u_ : (Nat → Nat) × (Nat → Int64)) => r_ = rsc (cd2 (rgB p0 (nI 0) (nI 99) && rgB p1 (nI 0) (nI 2) && rgB p2 (nI 0) (nI 5000)) (decide (M 0 0 < 8))) (nI (M 0 0)) ∧ hTs (moC (cd2 (rgB p0 (nI 0) (nI 99) && rgB p1 (nI 0) (nI 2) && rgB p2 (nI 0) (nI 5000)) (decide (M 0 0 < 8))) (nx_well M (clN p0) (clN p1) (clN p2)) M) u_.1) (fun (u_ : (Nat → Nat) × (Nat → Int64)) t_ => KA D n ad cI cJ cQ (wxE ad cI cJ cQ (moC (cd2 (rgB p0 (nI 0) (nI 99) && rgB p1 (nI 0) (nI 2) && rgB p2 (nI 0) (nI 5000)) (decide (M 0 0 < 8))) (nx_well M (clN p0) (clN p1) (clN p2)) M) u_.1 u_.2 K X) t_) (zA z0)) (fun _ _ _ => False) 4 24 (zA z0) := by
  refine mkL_Qi (S := (Nat → Nat) × (Nat → Int64)) (post := fun r_ (u_ : (Nat → Nat) × (Nat → Int64)) => r_ = rsc (cd2 (rgB p0 (nI 0) (nI 99) && rgB p1 (nI 0) (nI 2) && rgB p2 (nI 0) (nI 5000)) (decide (M 0 0 < 8))) (nI (M 0 0)) ∧ hTs (moC (cd2 (rgB p0 (nI 0) (nI 99) && rgB p1 (nI 0) (nI 2) && rgB p2 (nI 0) (nI 5000)) (decide (M 0 0 < 8))) (nx_well M (clN p0) (clN p1) (clN p2)) M) u_.1) (BQ := fun (u_ : (Nat → Nat) × (Nat → Int64)) t_ => KA D n ad cI cJ cQ (wxE ad cI cJ cQ (moC (cd2 (rgB p0 (nI 0) (nI 99) && rgB p1 (nI 0) (nI 2) && rgB p2 (nI 0) (nI 5000)) (decide (M 0 0 < 8))) (nx_well M (clN p0) (clN p1) (clN p2)) M) u_.1 u_.2 K X) t_) (cc := cL_built) (maxL := 5) (hh := [(0, 7, 8, 33)]) (by decide) rfl (Nat.le_of_ble_eq_true rfl) ?_
  intro p e s m args below meth c Q C0 htab B0 hret ls hl
  obtain ⟨hx, hb, hr, hml, hown, hts, hlocks⟩ := C0
  have hown : s.vm.findClass RL = some m.cls := hown
  obtain ⟨hsz, hX, hK, hP⟩ := B0
  subst hsz
  have hl : lv_has ls 5 [(0, .ref (ad 0)), (1, .int (p0)), (2, .int (p1)), (3, .int (p2))] := hl
  have hndc : ndz 27 ad := fun i j hi hj h => hnd i j (by omega) (by omega) h
  have hS0 : va_S (zA z0) s.heap s.heap [] := va_S.rf
  refine lv_aload_n hx hb dL_built_0 rfl (lv_at hl 0 rfl) ?_
  refine lv_iload_n hx hb dL_built_1 rfl (lv_at hl 1 rfl) ?_
  refine lv_iload_n hx hb dL_built_2 rfl (lv_at hl 2 rfl) ?_
  refine lv_iload_n hx hb dL_built_3 rfl (lv_at hl 3 rfl) ?_
  refine zx_wi (A0 := zA z0) (H0 := s.heap) (vx_runV (As := [.int (p0), .int (p1), .int (p2)]) (rest := []) ⟨hx, hb, hml, hown, hts⟩ (p0_well l hfl hI hndc p0 p1 p2) (cwV 3 hts gL_built_X0_well rfl rfl rfl (by decide +kernel) (by decide)) (pv0X (s0 := s.heap) hK (wxP_c hn hP) hX.1 (fun a _ _ => rfl)) rfl rfl hl.1 rfl (lv_room (Nat.le_of_ble_eq_true rfl)) dL_built_4 (by decide)) hS0 (fun q _ h => azs_z hn hAd hz0 h) (fun q h => azs_z hn hAd hz0 h) (fun {E ce q9 H1 locs1} hp hz hk hS1 hce hcv hcl => ?_) (fun r u t H1 locs1 ht9 hv hp hB hz hk hS1 => ?_)
  · have hz9 := hz
    rcases hp with ⟨rfl, hcd⟩ | ⟨rfl, hcd⟩
    · refine vx_catch (own := RL) (name := eA) (E := eA) (ce := ce) hown [] ⟨0, 7, 8, 33⟩ [] (htab.trans rfl) (fun z hz => by cases hz) (by decide) (by decide) (hts (.classLink RL 33 eA) (by decide +kernel)) hX.1.ca hce hcv hcl ?_
      refine lv_astore (lv' := [(4, .ref q9), (0, .ref (ad 0)), (1, .int (p0)), (2, .int (p1)), (3, .int (p2))]) hx hb dL_built_8 hl (by decide) rfl (fun ls hl => ?_)
      refine lv_bipush (v := (-101)) hx hb dL_built_10 (by decide) ?_
      have eM : (moC (cd2 (rgB p0 (nI 0) (nI 99) && rgB p1 (nI 0) (nI 2) && rgB p2 (nI 0) (nI 5000)) (decide (M 0 0 < 8))) (nx_well M (clN p0) (clN p1) (clN p2)) M) = M := moC_n (by rw [hcd]; decide)
      exact hret (u := (ts, pu)) (by decide) (by decide) ⟨(rsc_1 hcd).symm, by rw [eM]; exact hT⟩ hS1 (fun t ht hA => by rw [eM]; exact ⟨va_K.moved hA hK, by rw [ht]; exact wz_old hP hk⟩) dL_built_12
    · exact absurd hcd (by rw [decide_eq_true hw8]; unfold cd2; split <;> decide)
  · obtain ⟨hg, rfl⟩ := hp
    have hcd : cd2 (rgB p0 (nI 0) (nI 99) && rgB p1 (nI 0) (nI 2) && rgB p2 (nI 0) (nI 5000)) (decide (M 0 0 < 8)) = 0 := cd2_t hg
    have hP1 := wxP_next hn hP hnd hk (by rw [← ht9]; exact hB.2)
    have eM : (moC (cd2 (rgB p0 (nI 0) (nI 99) && rgB p1 (nI 0) (nI 2) && rgB p2 (nI 0) (nI 5000)) (decide (M 0 0 < 8))) (nx_well M (clN p0) (clN p1) (clN p2)) M) = nx_well M (clN p0) (clN p1) (clN p2) := moC_z hcd
    have hTn : hTs (moC (cd2 (rgB p0 (nI 0) (nI 99) && rgB p1 (nI 0) (nI 2) && rgB p2 (nI 0) (nI 5000)) (decide (M 0 0 < 8))) (nx_well M (clN p0) (clN p1) (clN p2)) M) (ts) := by
      rw [eM]
      exact (hTs_k (hTs_k (hTs_k (hTs_k hT (fun r hr => by omega)) (fun r hr => by omega)) (fun r hr => by omega)) (fun r hr => by omega))
    exact hret (u := (ts, pu)) (by decide) (by decide) ⟨(rsc_0 hcd).symm, hTn⟩ hS1 (fun t ht hA => by rw [eM]; exact ⟨va_K.moved hA hK, by rw [ht]; exact hP1⟩) dL_built_7
set_option maxHeartbeats 4000000 in
set_option maxRecDepth 100000 in
/-- watched: watch -/
theorem q_watched (l : Launch) (hfl : l.stackTraces = false) {D : va_G} {n : Nat} {ad : Nat → Nat} {cI cJ cQ : ClassId} {M K : Mdl} {ts : Nat → Nat} {pu : Nat → Int64} {X : Nat → va_E} {sa : Nat → Nat} {sz z0 : Nat} (hI : Inv M) (hn : 37 ≤ n) (hnd : ndz n ad) (hAd : ∀ i, i < n → zA z0 (ad i)) (hz0 : z0 ≤ sz) (hT : hTs M ts) (hw8 : M 5 0 < 4) (p0 p1 : Int32) : vx_Met l yL_watched wsL_watched (rmX 2 3) (va_Pc [.ref (ad 0), .int (p0), .int (p1)] (KV D n ad cI cJ cQ (wxE ad cI cJ cQ M ts pu K X) sa (zA z0) sz)) (va_Qi (fun r_ (u_ : (Nat → Nat) × (Nat → Int64)) => r_ = rsc (cd2 (rgB p0 (nI 0) (nI 99) && rgB p1 (nI 0) (nI 10000)) (decide (M 5 0 < 4))) (nI (M 5 0)) ∧ hTs (moC (cd2 (rgB p0 (nI 0) (nI 99) && rgB p1 (nI 0) (nI 10000)) (decide (M 5 0 < 4))) (nx_watch M (clN p0) (clN p1)) M) u_.1) (fun (u_ : (Nat → Nat) × (Nat → Int64)) t_ => KA D n ad cI cJ cQ (wxE ad cI cJ cQ (moC (cd2 (rgB p0 (nI 0) (nI 99) && rgB p1 (nI 0) (nI 10000)) (decide (M 5 0 < 4))) (nx_watch M (clN p0) (clN p1)) M) u_.1 u_.2 K X) t_) (zA z0)) (fun _ _ _ => False) 3 18 (zA z0) := by
  refine mkL_Qi (S := (Nat → Nat) × (Nat → Int64)) (post := fun r_ (u_ : (Nat → Nat) × (Nat → Int64)) => r_ = rsc (cd2 (rgB p0 (nI 0) (nI 99) && rgB p1 (nI 0) (nI 10000)) (decide (M 5 0 < 4))) (nI (M 5 0)) ∧ hTs (moC (cd2 (rgB p0 (nI 0) (nI 99) && rgB p1 (nI 0) (nI 10000)) (decide (M 5 0 < 4))) (nx_watch M (clN p0) (clN p1)) M) u_.1) (BQ := fun (u_ : (Nat → Nat) × (Nat → Int64)) t_ => KA D n ad cI cJ cQ (wxE ad cI cJ cQ (moC (cd2 (rgB p0 (nI 0) (nI 99) && rgB p1 (nI 0) (nI 10000)) (decide (M 5 0 < 4))) (nx_watch M (clN p0) (clN p1)) M) u_.1 u_.2 K X) t_) (cc := cL_watched) (maxL := 4) (hh := [(0, 6, 7, 33)]) (by decide) rfl (Nat.le_of_ble_eq_true rfl) ?_
  intro p e s m args below meth c Q C0 htab B0 hret ls hl
  obtain ⟨hx, hb, hr, hml, hown, hts, hlocks⟩ := C0
  have hown : s.vm.findClass RL = some m.cls := hown
  obtain ⟨hsz, hX, hK, hP⟩ := B0
  subst hsz
  have hl : lv_has ls 4 [(0, .ref (ad 0)), (1, .int (p0)), (2, .int (p1))] := hl
  have hndc : ndz 27 ad := fun i j hi hj h => hnd i j (by omega) (by omega) h
  have hS0 : va_S (zA z0) s.heap s.heap [] := va_S.rf
  refine lv_aload_n hx hb dL_watched_0 rfl (lv_at hl 0 rfl) ?_
  refine lv_iload_n hx hb dL_watched_1 rfl (lv_at hl 1 rfl) ?_
  refine lv_iload_n hx hb dL_watched_2 rfl (lv_at hl 2 rfl) ?_
  refine zx_wi (A0 := zA z0) (H0 := s.heap) (vx_runV (As := [.int (p0), .int (p1)]) (rest := []) ⟨hx, hb, hml, hown, hts⟩ (p0_watch l hfl hI hndc p0 p1) (cwV 2 hts gL_watched_X0_watch rfl rfl rfl (by decide +kernel) (by decide)) (pv0X (s0 := s.heap) hK (wxP_c hn hP) hX.1 (fun a _ _ => rfl)) rfl rfl hl.1 rfl (lv_room (Nat.le_of_ble_eq_true rfl)) dL_watched_3 (by decide)) hS0 (fun q _ h => azs_z hn hAd hz0 h) (fun q h => azs_z hn hAd hz0 h) (fun {E ce q9 H1 locs1} hp hz hk hS1 hce hcv hcl => ?_) (fun r u t H1 locs1 ht9 hv hp hB hz hk hS1 => ?_)
  · have hz9 := hz
    rcases hp with ⟨rfl, hcd⟩ | ⟨rfl, hcd⟩
    · refine vx_catch (own := RL) (name := eA) (E := eA) (ce := ce) hown [] ⟨0, 6, 7, 33⟩ [] (htab.trans rfl) (fun z hz => by cases hz) (by decide) (by decide) (hts (.classLink RL 33 eA) (by decide +kernel)) hX.1.ca hce hcv hcl ?_
      refine lv_astore_n (lv' := [(3, .ref q9), (0, .ref (ad 0)), (1, .int (p0)), (2, .int (p1))]) hx hb dL_watched_7 rfl hl (by decide) rfl (fun ls hl => ?_)
      refine lv_bipush (v := (-101)) hx hb dL_watched_8 (by decide) ?_
      have eM : (moC (cd2 (rgB p0 (nI 0) (nI 99) && rgB p1 (nI 0) (nI 10000)) (decide (M 5 0 < 4))) (nx_watch M (clN p0) (clN p1)) M) = M := moC_n (by rw [hcd]; decide)
      exact hret (u := (ts, pu)) (by decide) (by decide) ⟨(rsc_1 hcd).symm, by rw [eM]; exact hT⟩ hS1 (fun t ht hA => by rw [eM]; exact ⟨va_K.moved hA hK, by rw [ht]; exact wz_old hP hk⟩) dL_watched_10
    · exact absurd hcd (by rw [decide_eq_true hw8]; unfold cd2; split <;> decide)
  · obtain ⟨hg, rfl⟩ := hp
    have hcd : cd2 (rgB p0 (nI 0) (nI 99) && rgB p1 (nI 0) (nI 10000)) (decide (M 5 0 < 4)) = 0 := cd2_t hg
    have hP1 := wxP_next hn hP hnd hk (by rw [← ht9]; exact hB.2)
    have eM : (moC (cd2 (rgB p0 (nI 0) (nI 99) && rgB p1 (nI 0) (nI 10000)) (decide (M 5 0 < 4))) (nx_watch M (clN p0) (clN p1)) M) = nx_watch M (clN p0) (clN p1) := moC_z hcd
    have hTn : hTs (moC (cd2 (rgB p0 (nI 0) (nI 99) && rgB p1 (nI 0) (nI 10000)) (decide (M 5 0 < 4))) (nx_watch M (clN p0) (clN p1)) M) (ts) := by
      rw [eM]
      exact (hTs_k (hTs_k (hTs_k hT (fun r hr => by omega)) (fun r hr => by omega)) (fun r hr => by omega))
    exact hret (u := (ts, pu)) (by decide) (by decide) ⟨(rsc_0 hcd).symm, hTn⟩ hS1 (fun t ht hA => by rw [eM]; exact ⟨va_K.moved hA hK, by rw [ht]; exact hP1⟩) dL_watched_6
set_option maxHeartbeats 4000000 in
set_option maxRecDepth 100000 in
/-- set: response -/
theorem q_set0 (l : Launch) (hfl : l.stackTraces = false) {D : va_G} {n : Nat} {ad : Nat → Nat} {cI cJ cQ : ClassId} {M K : Mdl} {ts : Nat → Nat} {pu : Nat → Int64} {X : Nat → va_E} {sa : Nat → Nat} {sz z0 : Nat} (hI : Inv M) (hn : 37 ≤ n) (hnd : ndz n ad) (hAd : ∀ i, i < n → zA z0 (ad i)) (hz0 : z0 ≤ sz) (hT : hTs M ts) (p0 p1 p2 : Int32) : vx_Met l yL_set wsL_set (rmX 2 3) (va_Pc [.ref (ad 0), .int (nI (0)), .int (p0), .int (p1), .int (p2)] (KV D n ad cI cJ cQ (wxE ad cI cJ cQ M ts pu K X) sa (zA z0) sz)) (va_Qi (fun r_ (u_ : (Nat → Nat) × (Nat → Int64)) => r_ = rsc (cd2 (ixB p0 5 && ixB p1 12) (rgB p2 (nI 0) (nI 1000))) (nI (M (11 + 3 * clN p0) (clN p1))) ∧ hTs (moC (cd2 (ixB p0 5 && ixB p1 12) (rgB p2 (nI 0) (nI 1000))) (nx_response M (clN p0) (clN p1) (clN p2)) M) u_.1) (fun (u_ : (Nat → Nat) × (Nat → Int64)) t_ => KA D n ad cI cJ cQ (wxE ad cI cJ cQ (moC (cd2 (ixB p0 5 && ixB p1 12) (rgB p2 (nI 0) (nI 1000))) (nx_response M (clN p0) (clN p1) (clN p2)) M) u_.1 u_.2 K X) t_) (zA z0)) (fun _ _ _ => False) 3 18 (zA z0) := by
  refine mkL_Qi (S := (Nat → Nat) × (Nat → Int64)) (post := fun r_ (u_ : (Nat → Nat) × (Nat → Int64)) => r_ = rsc (cd2 (ixB p0 5 && ixB p1 12) (rgB p2 (nI 0) (nI 1000))) (nI (M (11 + 3 * clN p0) (clN p1))) ∧ hTs (moC (cd2 (ixB p0 5 && ixB p1 12) (rgB p2 (nI 0) (nI 1000))) (nx_response M (clN p0) (clN p1) (clN p2)) M) u_.1) (BQ := fun (u_ : (Nat → Nat) × (Nat → Int64)) t_ => KA D n ad cI cJ cQ (wxE ad cI cJ cQ (moC (cd2 (ixB p0 5 && ixB p1 12) (rgB p2 (nI 0) (nI 1000))) (nx_response M (clN p0) (clN p1) (clN p2)) M) u_.1 u_.2 K X) t_) (cc := cL_set) (maxL := 6) (hh := [(0, 55, 56, 51), (0, 55, 61, 33)]) (by decide) rfl (Nat.le_of_ble_eq_true rfl) ?_
  intro p e s m args below meth c Q C0 htab B0 hret ls hl
  obtain ⟨hx, hb, hr, hml, hown, hts, hlocks⟩ := C0
  have hown : s.vm.findClass RL = some m.cls := hown
  obtain ⟨hsz, hX, hK, hP⟩ := B0
  subst hsz
  have hl : lv_has ls 6 [(0, .ref (ad 0)), (1, .int (nI (0))), (2, .int (p0)), (3, .int (p1)), (4, .int (p2))] := hl
  have hndc : ndz 27 ad := fun i j hi hj h => hnd i j (by omega) (by omega) h
  have hS0 : va_S (zA z0) s.heap s.heap [] := va_S.rf
  refine lv_iload_n hx hb dL_set_0 rfl (lv_at hl 1 rfl) ?_
  refine lv_if_ne (tgt := 15) hx hb dL_set_1 (by decide) (fun c_1 => False.elim (by revert c_1; decide)) (fun _ => ?_)
  refine lv_aload_n hx hb dL_set_4 rfl (lv_at hl 0 rfl) ?_
  refine lv_iload_n hx hb dL_set_5 rfl (lv_at hl 2 rfl) ?_
  refine lv_iload_n hx hb dL_set_6 rfl (lv_at hl 3 rfl) ?_
  refine lv_iload hx hb dL_set_7 (lv_at hl 4 rfl) ?_
  refine zx_wi (A0 := zA z0) (H0 := s.heap) (vx_runV (As := [.int (p0), .int (p1), .int (p2)]) (rest := []) ⟨hx, hb, hml, hown, hts⟩ (p0_response l hfl hI hndc hT p0 p1 p2) (cwV 3 hts gL_set_X0_response rfl rfl rfl (by decide +kernel) (by decide)) (pv0X (s0 := s.heap) hK (wxP_c hn hP) hX.1 (fun a _ _ => rfl)) rfl rfl hl.1 rfl (lv_room (Nat.le_of_ble_eq_true rfl)) dL_set_9 (by decide)) hS0 (fun q _ h => azs_z hn hAd hz0 h) (fun q h => azs_z hn hAd hz0 h) (fun {E ce q9 H1 locs1} hp hz hk hS1 hce hcv hcl => ?_) (fun r u t H1 locs1 ht9 hv hp hB hz hk hS1 => ?_)
  · have hz9 := hz
    rcases hp with ⟨rfl, hcd⟩ | ⟨rfl, hcd⟩
    · refine vx_catch (own := RL) (name := eI) (E := eI) (ce := ce) hown [] ⟨0, 55, 56, 51⟩ [⟨0, 55, 61, 33⟩] (htab.trans rfl) (fun z hz => by cases hz) (by decide) (by decide) (hts (.classLink RL 51 eI) (by decide +kernel)) hX.1.ci hce hcv hcl ?_
      refine lv_astore (lv' := [(5, .ref q9), (0, .ref (ad 0)), (1, .int (nI (0))), (2, .int (p0)), (3, .int (p1)), (4, .int (p2))]) hx hb dL_set_56 hl (by decide) rfl (fun ls hl => ?_)
      refine lv_bipush (v := (-101)) hx hb dL_set_58 (by decide) ?_
      have eM : (moC (cd2 (ixB p0 5 && ixB p1 12) (rgB p2 (nI 0) (nI 1000))) (nx_response M (clN p0) (clN p1) (clN p2)) M) = M := moC_n (by rw [hcd]; decide)
      exact hret (u := (ts, pu)) (by decide) (by decide) ⟨(rsc_1 hcd).symm, by rw [eM]; exact hT⟩ hS1 (fun t ht hA => by rw [eM]; exact ⟨va_K.moved hA hK, by rw [ht]; exact wz_old hP hk⟩) dL_set_60
    · refine vx_catch (own := RL) (name := eA) (E := eA) (ce := ce) hown [⟨0, 55, 56, 51⟩] ⟨0, 55, 61, 33⟩ [] (htab.trans rfl) (fun z hz => by cases List.mem_singleton.mp hz; exact Or.inr ⟨by decide, _, hts (.classLink RL 51 eI) (by decide +kernel), hX.2.2.1⟩) (by decide) (by decide) (hts (.classLink RL 33 eA) (by decide +kernel)) hX.1.ca hce hcv hcl ?_
      refine lv_astore (lv' := [(5, .ref q9), (0, .ref (ad 0)), (1, .int (nI (0))), (2, .int (p0)), (3, .int (p1)), (4, .int (p2))]) hx hb dL_set_61 hl (by decide) rfl (fun ls hl => ?_)
      refine lv_bipush (v := (-102)) hx hb dL_set_63 (by decide) ?_
      have eM : (moC (cd2 (ixB p0 5 && ixB p1 12) (rgB p2 (nI 0) (nI 1000))) (nx_response M (clN p0) (clN p1) (clN p2)) M) = M := moC_n (by rw [hcd]; decide)
      exact hret (u := (ts, pu)) (by decide) (by decide) ⟨(rsc_2 hcd).symm, by rw [eM]; exact hT⟩ hS1 (fun t ht hA => by rw [eM]; exact ⟨va_K.moved hA hK, by rw [ht]; exact wz_old hP hk⟩) dL_set_65
  · obtain ⟨hg, rfl⟩ := hp
    have hcd : cd2 (ixB p0 5 && ixB p1 12) (rgB p2 (nI 0) (nI 1000)) = 0 := cd2_t hg
    have hP1 := wxP_next hn hP hnd hk (by rw [← ht9]; exact hB.2)
    refine lv_goto (tgt := 55) hx hb dL_set_12 (by decide) ?_
    have eM : (moC (cd2 (ixB p0 5 && ixB p1 12) (rgB p2 (nI 0) (nI 1000))) (nx_response M (clN p0) (clN p1) (clN p2)) M) = nx_response M (clN p0) (clN p1) (clN p2) := moC_z hcd
    have hTn : hTs (moC (cd2 (ixB p0 5 && ixB p1 12) (rgB p2 (nI 0) (nI 1000))) (nx_response M (clN p0) (clN p1) (clN p2)) M) (nup ts (clN p0) (ts (clN p0) + clN p2 - M (11 + 3 * clN p0) (clN p1))) := by
      rw [eM]
      exact (hTs_response hT (ixB_lt (by decide) (Bool.and_eq_true_iff.mp (Bool.and_eq_true_iff.mp hg).1).1) (ixB_lt (by decide) (Bool.and_eq_true_iff.mp (Bool.and_eq_true_iff.mp hg).1).2)).2
    exact hret (u := (nup ts (clN p0) (ts (clN p0) + clN p2 - M (11 + 3 * clN p0) (clN p1)), pu)) (by decide) (by decide) ⟨(rsc_0 hcd).symm, hTn⟩ hS1 (fun t ht hA => by rw [eM]; exact ⟨va_K.moved hA hK, by rw [ht]; exact hP1⟩) dL_set_55
set_option maxHeartbeats 4000000 in
set_option maxRecDepth 100000 in
/-- set: pump -/
theorem q_set1 (l : Launch) (hfl : l.stackTraces = false) {D : va_G} {n : Nat} {ad : Nat → Nat} {cI cJ cQ : ClassId} {M K : Mdl} {ts : Nat → Nat} {pu : Nat → Int64} {X : Nat → va_E} {sa : Nat → Nat} {sz z0 : Nat} (hI : Inv M) (hn : 37 ≤ n) (hnd : ndz n ad) (hAd : ∀ i, i < n → zA z0 (ad i)) (hz0 : z0 ≤ sz) (hT : hTs M ts) (p0 p1 p2 : Int32) : vx_Met l yL_set wsL_set (rmX 2 3) (va_Pc [.ref (ad 0), .int (nI (1)), .int (p0), .int (p1), .int (p2)] (KV D n ad cI cJ cQ (wxE ad cI cJ cQ M ts pu K X) sa (zA z0) sz)) (va_Qi (fun r_ (u_ : (Nat → Nat) × (Nat → Int64)) => r_ = rsc (cd2 (ixB p0 (M 0 0) && ixB p1 36) (rgB p2 (nI 0) (nI 1000))) (nI (M (10 + 3 * clN p0) (clN p1))) ∧ hTs (moC (cd2 (ixB p0 (M 0 0) && ixB p1 36) (rgB p2 (nI 0) (nI 1000))) (nx_pump M (clN p0) (clN p1) (clN p2)) M) u_.1) (fun (u_ : (Nat → Nat) × (Nat → Int64)) t_ => KA D n ad cI cJ cQ (wxE ad cI cJ cQ (moC (cd2 (ixB p0 (M 0 0) && ixB p1 36) (rgB p2 (nI 0) (nI 1000))) (nx_pump M (clN p0) (clN p1) (clN p2)) M) u_.1 u_.2 K X) t_) (zA z0)) (fun _ _ _ => False) 3 18 (zA z0) := by
  refine mkL_Qi (S := (Nat → Nat) × (Nat → Int64)) (post := fun r_ (u_ : (Nat → Nat) × (Nat → Int64)) => r_ = rsc (cd2 (ixB p0 (M 0 0) && ixB p1 36) (rgB p2 (nI 0) (nI 1000))) (nI (M (10 + 3 * clN p0) (clN p1))) ∧ hTs (moC (cd2 (ixB p0 (M 0 0) && ixB p1 36) (rgB p2 (nI 0) (nI 1000))) (nx_pump M (clN p0) (clN p1) (clN p2)) M) u_.1) (BQ := fun (u_ : (Nat → Nat) × (Nat → Int64)) t_ => KA D n ad cI cJ cQ (wxE ad cI cJ cQ (moC (cd2 (ixB p0 (M 0 0) && ixB p1 36) (rgB p2 (nI 0) (nI 1000))) (nx_pump M (clN p0) (clN p1) (clN p2)) M) u_.1 u_.2 K X) t_) (cc := cL_set) (maxL := 6) (hh := [(0, 55, 56, 51), (0, 55, 61, 33)]) (by decide) rfl (Nat.le_of_ble_eq_true rfl) ?_
  intro p e s m args below meth c Q C0 htab B0 hret ls hl
  obtain ⟨hx, hb, hr, hml, hown, hts, hlocks⟩ := C0
  have hown : s.vm.findClass RL = some m.cls := hown
  obtain ⟨hsz, hX, hK, hP⟩ := B0
  subst hsz
  have hl : lv_has ls 6 [(0, .ref (ad 0)), (1, .int (nI (1))), (2, .int (p0)), (3, .int (p1)), (4, .int (p2))] := hl
  have hndc : ndz 27 ad := fun i j hi hj h => hnd i j (by omega) (by omega) h
  have hS0 : va_S (zA z0) s.heap s.heap [] := va_S.rf
  refine lv_iload_n hx hb dL_set_0 rfl (lv_at hl 1 rfl) ?_
  refine lv_if_ne (tgt := 15) hx hb dL_set_1 (by decide) (fun _ => ?_) (fun c_1 => False.elim (by revert c_1; decide))
  refine lv_iload_n hx hb dL_set_15 rfl (lv_at hl 1 rfl) ?_
  refine lv_iconst (v := nI 1) hx hb dL_set_16 (by decide) ?_
  refine lv_icmp_ne (tgt := 31) hx hb dL_set_17 (by decide) (fun c_2 => False.elim (by revert c_2; decide)) (fun _ => ?_)
  refine lv_aload_n hx hb dL_set_20 rfl (lv_at hl 0 rfl) ?_
  refine lv_iload_n hx hb dL_set_21 rfl (lv_at hl 2 rfl) ?_
  refine lv_iload_n hx hb dL_set_22 rfl (lv_at hl 3 rfl) ?_
  refine lv_iload hx hb dL_set_23 (lv_at hl 4 rfl) ?_
  refine zx_wi (A0 := zA z0) (H0 := s.heap) (vx_runV (As := [.int (p0), .int (p1), .int (p2)]) (rest := []) ⟨hx, hb, hml, hown, hts⟩ (p0_pump l hfl hI hndc p0 p1 p2) (cwV 3 hts gL_set_X0_pump rfl rfl rfl (by decide +kernel) (by decide)) (pv0X (s0 := s.heap) hK (wxP_c hn hP) hX.1 (fun a _ _ => rfl)) rfl rfl hl.1 rfl (lv_room (Nat.le_of_ble_eq_true rfl)) dL_set_25 (by decide)) hS0 (fun q _ h => azs_z hn hAd hz0 h) (fun q h => azs_z hn hAd hz0 h) (fun {E ce q9 H1 locs1} hp hz hk hS1 hce hcv hcl => ?_) (fun r u t H1 locs1 ht9 hv hp hB hz hk hS1 => ?_)
  · have hz9 := hz
    rcases hp with ⟨rfl, hcd⟩ | ⟨rfl, hcd⟩
    · refine vx_catch (own := RL) (name := eI) (E := eI) (ce := ce) hown [] ⟨0, 55, 56, 51⟩ [⟨0, 55, 61, 33⟩] (htab.trans rfl) (fun z hz => by cases hz) (by decide) (by decide) (hts (.classLink RL 51 eI) (by decide +kernel)) hX.1.ci hce hcv hcl ?_
      refine lv_astore (lv' := [(5, .ref q9), (0, .ref (ad 0)), (1, .int (nI (1))), (2, .int (p0)), (3, .int (p1)), (4, .int (p2))]) hx hb dL_set_56 hl (by decide) rfl (fun ls hl => ?_)
      refine lv_bipush (v := (-101)) hx hb dL_set_58 (by decide) ?_
      have eM : (moC (cd2 (ixB p0 (M 0 0) && ixB p1 36) (rgB p2 (nI 0) (nI 1000))) (nx_pump M (clN p0) (clN p1) (clN p2)) M) = M := moC_n (by rw [hcd]; decide)
      exact hret (u := (ts, pu)) (by decide) (by decide) ⟨(rsc_1 hcd).symm, by rw [eM]; exact hT⟩ hS1 (fun t ht hA => by rw [eM]; exact ⟨va_K.moved hA hK, by rw [ht]; exact wz_old hP hk⟩) dL_set_60
    · refine vx_catch (own := RL) (name := eA) (E := eA) (ce := ce) hown [⟨0, 55, 56, 51⟩] ⟨0, 55, 61, 33⟩ [] (htab.trans rfl) (fun z hz => by cases List.mem_singleton.mp hz; exact Or.inr ⟨by decide, _, hts (.classLink RL 51 eI) (by decide +kernel), hX.2.2.1⟩) (by decide) (by decide) (hts (.classLink RL 33 eA) (by decide +kernel)) hX.1.ca hce hcv hcl ?_
      refine lv_astore (lv' := [(5, .ref q9), (0, .ref (ad 0)), (1, .int (nI (1))), (2, .int (p0)), (3, .int (p1)), (4, .int (p2))]) hx hb dL_set_61 hl (by decide) rfl (fun ls hl => ?_)
      refine lv_bipush (v := (-102)) hx hb dL_set_63 (by decide) ?_
      have eM : (moC (cd2 (ixB p0 (M 0 0) && ixB p1 36) (rgB p2 (nI 0) (nI 1000))) (nx_pump M (clN p0) (clN p1) (clN p2)) M) = M := moC_n (by rw [hcd]; decide)
      exact hret (u := (ts, pu)) (by decide) (by decide) ⟨(rsc_2 hcd).symm, by rw [eM]; exact hT⟩ hS1 (fun t ht hA => by rw [eM]; exact ⟨va_K.moved hA hK, by rw [ht]; exact wz_old hP hk⟩) dL_set_65
  · obtain ⟨hg, rfl⟩ := hp
    have hcd : cd2 (ixB p0 (M 0 0) && ixB p1 36) (rgB p2 (nI 0) (nI 1000)) = 0 := cd2_t hg
    have hP1 := wxP_next hn hP hnd hk (by rw [← ht9]; exact hB.2)
    refine lv_goto (tgt := 55) hx hb dL_set_28 (by decide) ?_
    have eM : (moC (cd2 (ixB p0 (M 0 0) && ixB p1 36) (rgB p2 (nI 0) (nI 1000))) (nx_pump M (clN p0) (clN p1) (clN p2)) M) = nx_pump M (clN p0) (clN p1) (clN p2) := moC_z hcd
    have hTn : hTs (moC (cd2 (ixB p0 (M 0 0) && ixB p1 36) (rgB p2 (nI 0) (nI 1000))) (nx_pump M (clN p0) (clN p1) (clN p2)) M) (ts) := by
      rw [eM]
      exact (hTs_k hT (fun r hr => by omega))
    exact hret (u := (ts, pu)) (by decide) (by decide) ⟨(rsc_0 hcd).symm, hTn⟩ hS1 (fun t ht hA => by rw [eM]; exact ⟨va_K.moved hA hK, by rw [ht]; exact hP1⟩) dL_set_55
set_option maxHeartbeats 4000000 in
set_option maxRecDepth 100000 in
/-- set: rest -/
theorem q_set2 (l : Launch) (hfl : l.stackTraces = false) {D : va_G} {n : Nat} {ad : Nat → Nat} {cI cJ cQ : ClassId} {M K : Mdl} {ts : Nat → Nat} {pu : Nat → Int64} {X : Nat → va_E} {sa : Nat → Nat} {sz z0 : Nat} (hI : Inv M) (hn : 37 ≤ n) (hnd : ndz n ad) (hAd : ∀ i, i < n → zA z0 (ad i)) (hz0 : z0 ≤ sz) (hT : hTs M ts) (p0 p1 p2 : Int32) : vx_Met l yL_set wsL_set (rmX 2 3) (va_Pc [.ref (ad 0), .int (nI (2)), .int (p0), .int (p1), .int (p2)] (KV D n ad cI cJ cQ (wxE ad cI cJ cQ M ts pu K X) sa (zA z0) sz)) (va_Qi (fun r_ (u_ : (Nat → Nat) × (Nat → Int64)) => r_ = rsc (cd2 (ixB p0 (M 0 0) && ixB p1 36) (rgB p2 (nI 1) (nI 36))) (nI (rss M (clN p0) (clN p1) (rsn (clN p1) (clN p2)))) ∧ hTs (moC (cd2 (ixB p0 (M 0 0) && ixB p1 36) (rgB p2 (nI 1) (nI 36))) (nx_rest M (clN p0) (clN p1) (clN p2)) M) u_.1) (fun (u_ : (Nat → Nat) × (Nat → Int64)) t_ => KA D n ad cI cJ cQ (wxE ad cI cJ cQ (moC (cd2 (ixB p0 (M 0 0) && ixB p1 36) (rgB p2 (nI 1) (nI 36))) (nx_rest M (clN p0) (clN p1) (clN p2)) M) u_.1 u_.2 K X) t_) (zA z0)) (fun _ _ _ => False) 3 18 (zA z0) := by
  refine mkL_Qi (S := (Nat → Nat) × (Nat → Int64)) (post := fun r_ (u_ : (Nat → Nat) × (Nat → Int64)) => r_ = rsc (cd2 (ixB p0 (M 0 0) && ixB p1 36) (rgB p2 (nI 1) (nI 36))) (nI (rss M (clN p0) (clN p1) (rsn (clN p1) (clN p2)))) ∧ hTs (moC (cd2 (ixB p0 (M 0 0) && ixB p1 36) (rgB p2 (nI 1) (nI 36))) (nx_rest M (clN p0) (clN p1) (clN p2)) M) u_.1) (BQ := fun (u_ : (Nat → Nat) × (Nat → Int64)) t_ => KA D n ad cI cJ cQ (wxE ad cI cJ cQ (moC (cd2 (ixB p0 (M 0 0) && ixB p1 36) (rgB p2 (nI 1) (nI 36))) (nx_rest M (clN p0) (clN p1) (clN p2)) M) u_.1 u_.2 K X) t_) (cc := cL_set) (maxL := 6) (hh := [(0, 55, 56, 51), (0, 55, 61, 33)]) (by decide) rfl (Nat.le_of_ble_eq_true rfl) ?_
  intro p e s m args below meth c Q C0 htab B0 hret ls hl
  obtain ⟨hx, hb, hr, hml, hown, hts, hlocks⟩ := C0
  have hown : s.vm.findClass RL = some m.cls := hown
  obtain ⟨hsz, hX, hK, hP⟩ := B0
  subst hsz
  have hl : lv_has ls 6 [(0, .ref (ad 0)), (1, .int (nI (2))), (2, .int (p0)), (3, .int (p1)), (4, .int (p2))] := hl
  have hndc : ndz 27 ad := fun i j hi hj h => hnd i j (by omega) (by omega) h
  have hS0 : va_S (zA z0) s.heap s.heap [] := va_S.rf
  refine lv_iload_n hx hb dL_set_0 rfl (lv_at hl 1 rfl) ?_
  refine lv_if_ne (tgt := 15) hx hb dL_set_1 (by decide) (fun _ => ?_) (fun c_1 => False.elim (by revert c_1; decide))
  refine lv_iload_n hx hb dL_set_15 rfl (lv_at hl 1 rfl) ?_
  refine lv_iconst (v := nI 1) hx hb dL_set_16 (by decide) ?_
  refine lv_icmp_ne (tgt := 31) hx hb dL_set_17 (by decide) (fun _ => ?_) (fun c_2 => False.elim (by revert c_2; decide))
  refine lv_iload_n hx hb dL_set_31 rfl (lv_at hl 1 rfl) ?_
  refine lv_iconst (v := nI 2) hx hb dL_set_32 (by decide) ?_
  refine lv_icmp_ne (tgt := 47) hx hb dL_set_33 (by decide) (fun c_3 => False.elim (by revert c_3; decide)) (fun _ => ?_)
  refine lv_aload_n hx hb dL_set_36 rfl (lv_at hl 0 rfl) ?_
  refine lv_iload_n hx hb dL_set_37 rfl (lv_at hl 2 rfl) ?_
  refine lv_iload_n hx hb dL_set_38 rfl (lv_at hl 3 rfl) ?_
  refine lv_iload hx hb dL_set_39 (lv_at hl 4 rfl) ?_
  refine zx_wi (A0 := zA z0) (H0 := s.heap) (vx_runV (As := [.int (p0), .int (p1), .int (p2)]) (rest := []) ⟨hx, hb, hml, hown, hts⟩ (p0_rest l hfl hI hndc p0 p1 p2) (cwV 3 hts gL_set_X0_rest rfl rfl rfl (by decide +kernel) (by decide)) (pv0X (s0 := s.heap) hK (wxP_c hn hP) hX.1 (fun a _ _ => rfl)) rfl rfl hl.1 rfl (lv_room (Nat.le_of_ble_eq_true rfl)) dL_set_41 (by decide)) hS0 (fun q _ h => azs_z hn hAd hz0 h) (fun q h => azs_z hn hAd hz0 h) (fun {E ce q9 H1 locs1} hp hz hk hS1 hce hcv hcl => ?_) (fun r u t H1 locs1 ht9 hv hp hB hz hk hS1 => ?_)
  · have hz9 := hz
    rcases hp with ⟨rfl, hcd⟩ | ⟨rfl, hcd⟩
    · refine vx_catch (own := RL) (name := eI) (E := eI) (ce := ce) hown [] ⟨0, 55, 56, 51⟩ [⟨0, 55, 61, 33⟩] (htab.trans rfl) (fun z hz => by cases hz) (by decide) (by decide) (hts (.classLink RL 51 eI) (by decide +kernel)) hX.1.ci hce hcv hcl ?_
      refine lv_astore (lv' := [(5, .ref q9), (0, .ref (ad 0)), (1, .int (nI (2))), (2, .int (p0)), (3, .int (p1)), (4, .int (p2))]) hx hb dL_set_56 hl (by decide) rfl (fun ls hl => ?_)
      refine lv_bipush (v := (-101)) hx hb dL_set_58 (by decide) ?_
      have eM : (moC (cd2 (ixB p0 (M 0 0) && ixB p1 36) (rgB p2 (nI 1) (nI 36))) (nx_rest M (clN p0) (clN p1) (clN p2)) M) = M := moC_n (by rw [hcd]; decide)
      exact hret (u := (ts, pu)) (by decide) (by decide) ⟨(rsc_1 hcd).symm, by rw [eM]; exact hT⟩ hS1 (fun t ht hA => by rw [eM]; exact ⟨va_K.moved hA hK, by rw [ht]; exact wz_old hP hk⟩) dL_set_60
    · refine vx_catch (own := RL) (name := eA) (E := eA) (ce := ce) hown [⟨0, 55, 56, 51⟩] ⟨0, 55, 61, 33⟩ [] (htab.trans rfl) (fun z hz => by cases List.mem_singleton.mp hz; exact Or.inr ⟨by decide, _, hts (.classLink RL 51 eI) (by decide +kernel), hX.2.2.1⟩) (by decide) (by decide) (hts (.classLink RL 33 eA) (by decide +kernel)) hX.1.ca hce hcv hcl ?_
      refine lv_astore (lv' := [(5, .ref q9), (0, .ref (ad 0)), (1, .int (nI (2))), (2, .int (p0)), (3, .int (p1)), (4, .int (p2))]) hx hb dL_set_61 hl (by decide) rfl (fun ls hl => ?_)
      refine lv_bipush (v := (-102)) hx hb dL_set_63 (by decide) ?_
      have eM : (moC (cd2 (ixB p0 (M 0 0) && ixB p1 36) (rgB p2 (nI 1) (nI 36))) (nx_rest M (clN p0) (clN p1) (clN p2)) M) = M := moC_n (by rw [hcd]; decide)
      exact hret (u := (ts, pu)) (by decide) (by decide) ⟨(rsc_2 hcd).symm, by rw [eM]; exact hT⟩ hS1 (fun t ht hA => by rw [eM]; exact ⟨va_K.moved hA hK, by rw [ht]; exact wz_old hP hk⟩) dL_set_65
  · obtain ⟨hg, rfl⟩ := hp
    have hcd : cd2 (ixB p0 (M 0 0) && ixB p1 36) (rgB p2 (nI 1) (nI 36)) = 0 := cd2_t hg
    have hP1 := wxP_next hn hP hnd hk (by rw [← ht9]; exact hB.2)
    refine lv_goto (tgt := 55) hx hb dL_set_44 (by decide) ?_
    have eM : (moC (cd2 (ixB p0 (M 0 0) && ixB p1 36) (rgB p2 (nI 1) (nI 36))) (nx_rest M (clN p0) (clN p1) (clN p2)) M) = nx_rest M (clN p0) (clN p1) (clN p2) := moC_z hcd
    have hTn : hTs (moC (cd2 (ixB p0 (M 0 0) && ixB p1 36) (rgB p2 (nI 1) (nI 36))) (nx_rest M (clN p0) (clN p1) (clN p2)) M) (ts) := by
      rw [eM]
      exact hTs_rst hT
    exact hret (u := (ts, pu)) (by decide) (by decide) ⟨(rsc_0 hcd).symm, hTn⟩ hS1 (fun t ht hA => by rw [eM]; exact ⟨va_K.moved hA hK, by rw [ht]; exact hP1⟩) dL_set_55
set_option maxHeartbeats 4000000 in
set_option maxRecDepth 100000 in
/-- set: ratio -/
theorem q_set3 (l : Launch) (hfl : l.stackTraces = false) {D : va_G} {n : Nat} {ad : Nat → Nat} {cI cJ cQ : ClassId} {M K : Mdl} {ts : Nat → Nat} {pu : Nat → Int64} {X : Nat → va_E} {sa : Nat → Nat} {sz z0 : Nat} (hI : Inv M) (hn : 37 ≤ n) (hnd : ndz n ad) (hAd : ∀ i, i < n → zA z0 (ad i)) (hz0 : z0 ≤ sz) (hT : hTs M ts) (p0 p1 p2 : Int32) : vx_Met l yL_set wsL_set (rmX 2 3) (va_Pc [.ref (ad 0), .int (nI (3)), .int (p0), .int (p1), .int (p2)] (KV D n ad cI cJ cQ (wxE ad cI cJ cQ M ts pu K X) sa (zA z0) sz)) (va_Qi (fun r_ (u_ : (Nat → Nat) × (Nat → Int64)) => r_ = rsc (cd2 (ixB p0 3 && ixB p1 3) (rgB p2 (nI 0) (nI 200))) (nI (M (12 + 3 * clN p0) (clN p1))) ∧ hTs (moC (cd2 (ixB p0 3 && ixB p1 3) (rgB p2 (nI 0) (nI 200))) (nx_ratio M (clN p0) (clN p1) (clN p2)) M) u_.1) (fun (u_ : (Nat → Nat) × (Nat → Int64)) t_ => KA D n ad cI cJ cQ (wxE ad cI cJ cQ (moC (cd2 (ixB p0 3 && ixB p1 3) (rgB p2 (nI 0) (nI 200))) (nx_ratio M (clN p0) (clN p1) (clN p2)) M) u_.1 u_.2 K X) t_) (zA z0)) (fun _ _ _ => False) 3 18 (zA z0) := by
  refine mkL_Qi (S := (Nat → Nat) × (Nat → Int64)) (post := fun r_ (u_ : (Nat → Nat) × (Nat → Int64)) => r_ = rsc (cd2 (ixB p0 3 && ixB p1 3) (rgB p2 (nI 0) (nI 200))) (nI (M (12 + 3 * clN p0) (clN p1))) ∧ hTs (moC (cd2 (ixB p0 3 && ixB p1 3) (rgB p2 (nI 0) (nI 200))) (nx_ratio M (clN p0) (clN p1) (clN p2)) M) u_.1) (BQ := fun (u_ : (Nat → Nat) × (Nat → Int64)) t_ => KA D n ad cI cJ cQ (wxE ad cI cJ cQ (moC (cd2 (ixB p0 3 && ixB p1 3) (rgB p2 (nI 0) (nI 200))) (nx_ratio M (clN p0) (clN p1) (clN p2)) M) u_.1 u_.2 K X) t_) (cc := cL_set) (maxL := 6) (hh := [(0, 55, 56, 51), (0, 55, 61, 33)]) (by decide) rfl (Nat.le_of_ble_eq_true rfl) ?_
  intro p e s m args below meth c Q C0 htab B0 hret ls hl
  obtain ⟨hx, hb, hr, hml, hown, hts, hlocks⟩ := C0
  have hown : s.vm.findClass RL = some m.cls := hown
  obtain ⟨hsz, hX, hK, hP⟩ := B0
  subst hsz
  have hl : lv_has ls 6 [(0, .ref (ad 0)), (1, .int (nI (3))), (2, .int (p0)), (3, .int (p1)), (4, .int (p2))] := hl
  have hndc : ndz 27 ad := fun i j hi hj h => hnd i j (by omega) (by omega) h
  have hS0 : va_S (zA z0) s.heap s.heap [] := va_S.rf
  refine lv_iload_n hx hb dL_set_0 rfl (lv_at hl 1 rfl) ?_
  refine lv_if_ne (tgt := 15) hx hb dL_set_1 (by decide) (fun _ => ?_) (fun c_1 => False.elim (by revert c_1; decide))
  refine lv_iload_n hx hb dL_set_15 rfl (lv_at hl 1 rfl) ?_
  refine lv_iconst (v := nI 1) hx hb dL_set_16 (by decide) ?_
  refine lv_icmp_ne (tgt := 31) hx hb dL_set_17 (by decide) (fun _ => ?_) (fun c_2 => False.elim (by revert c_2; decide))
  refine lv_iload_n hx hb dL_set_31 rfl (lv_at hl 1 rfl) ?_
  refine lv_iconst (v := nI 2) hx hb dL_set_32 (by decide) ?_
  refine lv_icmp_ne (tgt := 47) hx hb dL_set_33 (by decide) (fun _ => ?_) (fun c_3 => False.elim (by revert c_3; decide))
  refine lv_aload_n hx hb dL_set_47 rfl (lv_at hl 0 rfl) ?_
  refine lv_iload_n hx hb dL_set_48 rfl (lv_at hl 2 rfl) ?_
  refine lv_iload_n hx hb dL_set_49 rfl (lv_at hl 3 rfl) ?_
  refine lv_iload hx hb dL_set_50 (lv_at hl 4 rfl) ?_
  refine zx_wi (A0 := zA z0) (H0 := s.heap) (vx_runV (As := [.int (p0), .int (p1), .int (p2)]) (rest := []) ⟨hx, hb, hml, hown, hts⟩ (p0_ratio l hfl hI hndc p0 p1 p2) (cwV 3 hts gL_set_X0_ratio rfl rfl rfl (by decide +kernel) (by decide)) (pv0X (s0 := s.heap) hK (wxP_c hn hP) hX.1 (fun a _ _ => rfl)) rfl rfl hl.1 rfl (lv_room (Nat.le_of_ble_eq_true rfl)) dL_set_52 (by decide)) hS0 (fun q _ h => azs_z hn hAd hz0 h) (fun q h => azs_z hn hAd hz0 h) (fun {E ce q9 H1 locs1} hp hz hk hS1 hce hcv hcl => ?_) (fun r u t H1 locs1 ht9 hv hp hB hz hk hS1 => ?_)
  · have hz9 := hz
    rcases hp with ⟨rfl, hcd⟩ | ⟨rfl, hcd⟩
    · refine vx_catch (own := RL) (name := eI) (E := eI) (ce := ce) hown [] ⟨0, 55, 56, 51⟩ [⟨0, 55, 61, 33⟩] (htab.trans rfl) (fun z hz => by cases hz) (by decide) (by decide) (hts (.classLink RL 51 eI) (by decide +kernel)) hX.1.ci hce hcv hcl ?_
      refine lv_astore (lv' := [(5, .ref q9), (0, .ref (ad 0)), (1, .int (nI (3))), (2, .int (p0)), (3, .int (p1)), (4, .int (p2))]) hx hb dL_set_56 hl (by decide) rfl (fun ls hl => ?_)
      refine lv_bipush (v := (-101)) hx hb dL_set_58 (by decide) ?_
      have eM : (moC (cd2 (ixB p0 3 && ixB p1 3) (rgB p2 (nI 0) (nI 200))) (nx_ratio M (clN p0) (clN p1) (clN p2)) M) = M := moC_n (by rw [hcd]; decide)
      exact hret (u := (ts, pu)) (by decide) (by decide) ⟨(rsc_1 hcd).symm, by rw [eM]; exact hT⟩ hS1 (fun t ht hA => by rw [eM]; exact ⟨va_K.moved hA hK, by rw [ht]; exact wz_old hP hk⟩) dL_set_60
    · refine vx_catch (own := RL) (name := eA) (E := eA) (ce := ce) hown [⟨0, 55, 56, 51⟩] ⟨0, 55, 61, 33⟩ [] (htab.trans rfl) (fun z hz => by cases List.mem_singleton.mp hz; exact Or.inr ⟨by decide, _, hts (.classLink RL 51 eI) (by decide +kernel), hX.2.2.1⟩) (by decide) (by decide) (hts (.classLink RL 33 eA) (by decide +kernel)) hX.1.ca hce hcv hcl ?_
      refine lv_astore (lv' := [(5, .ref q9), (0, .ref (ad 0)), (1, .int (nI (3))), (2, .int (p0)), (3, .int (p1)), (4, .int (p2))]) hx hb dL_set_61 hl (by decide) rfl (fun ls hl => ?_)
      refine lv_bipush (v := (-102)) hx hb dL_set_63 (by decide) ?_
      have eM : (moC (cd2 (ixB p0 3 && ixB p1 3) (rgB p2 (nI 0) (nI 200))) (nx_ratio M (clN p0) (clN p1) (clN p2)) M) = M := moC_n (by rw [hcd]; decide)
      exact hret (u := (ts, pu)) (by decide) (by decide) ⟨(rsc_2 hcd).symm, by rw [eM]; exact hT⟩ hS1 (fun t ht hA => by rw [eM]; exact ⟨va_K.moved hA hK, by rw [ht]; exact wz_old hP hk⟩) dL_set_65
  · obtain ⟨hg, rfl⟩ := hp
    have hcd : cd2 (ixB p0 3 && ixB p1 3) (rgB p2 (nI 0) (nI 200)) = 0 := cd2_t hg
    have hP1 := wxP_next hn hP hnd hk (by rw [← ht9]; exact hB.2)
    have eM : (moC (cd2 (ixB p0 3 && ixB p1 3) (rgB p2 (nI 0) (nI 200))) (nx_ratio M (clN p0) (clN p1) (clN p2)) M) = nx_ratio M (clN p0) (clN p1) (clN p2) := moC_z hcd
    have hTn : hTs (moC (cd2 (ixB p0 3 && ixB p1 3) (rgB p2 (nI 0) (nI 200))) (nx_ratio M (clN p0) (clN p1) (clN p2)) M) (ts) := by
      rw [eM]
      exact (hTs_k hT (fun r hr => by omega))
    exact hret (u := (ts, pu)) (by decide) (by decide) ⟨(rsc_0 hcd).symm, hTn⟩ hS1 (fun t ht hA => by rw [eM]; exact ⟨va_K.moved hA hK, by rw [ht]; exact hP1⟩) dL_set_55
set_option maxHeartbeats 4000000 in
set_option maxRecDepth 100000 in
/-- of: pumped -/
theorem q_of0 (l : Launch) (hfl : l.stackTraces = false) {D : va_G} {n : Nat} {ad : Nat → Nat} {cI cJ cQ : ClassId} {M K : Mdl} {ts : Nat → Nat} {pu : Nat → Int64} {X : Nat → va_E} {sa : Nat → Nat} {sz z0 : Nat} (hI : Inv M) (hn : 37 ≤ n) (hnd : ndz n ad) (hAd : ∀ i, i < n → zA z0 (ad i)) (hz0 : z0 ≤ sz) (hT : hTs M ts) (p0 p1 : Int32) : vx_Met l yL_of wsL_of (rmX 2 2) (va_Pc [.ref (ad 0), .int (nI (0)), .int (p0), .int (p1)] (KV D n ad cI cJ cQ (wxE ad cI cJ cQ M ts pu K X) sa (zA z0) sz)) (va_Qi (fun r_ (u_ : (Nat → Nat) × (Nat → Int64)) => r_ = rsc (cd1 (ixB p0 (M 0 0) && ixB p1 3)) (nI (yr M (clN p0) (clN p1))) ∧ hTs M u_.1) (fun (u_ : (Nat → Nat) × (Nat → Int64)) t_ => KA D n ad cI cJ cQ (wxE ad cI cJ cQ M u_.1 u_.2 K X) t_) (zA z0)) (fun _ _ _ => False) 2 12 (zA z0) := by
  refine mkL_Qi (S := (Nat → Nat) × (Nat → Int64)) (post := fun r_ (u_ : (Nat → Nat) × (Nat → Int64)) => r_ = rsc (cd1 (ixB p0 (M 0 0) && ixB p1 3)) (nI (yr M (clN p0) (clN p1))) ∧ hTs M u_.1) (BQ := fun (u_ : (Nat → Nat) × (Nat → Int64)) t_ => KA D n ad cI cJ cQ (wxE ad cI cJ cQ M u_.1 u_.2 K X) t_) (cc := cL_of) (maxL := 5) (hh := [(0, 114, 115, 51)]) (by decide) rfl (Nat.le_of_ble_eq_true rfl) ?_
  intro p e s m args below meth c Q C0 htab B0 hret ls hl
  obtain ⟨hx, hb, hr, hml, hown, hts, hlocks⟩ := C0
  have hown : s.vm.findClass RL = some m.cls := hown
  obtain ⟨hsz, hX, hK, hP⟩ := B0
  subst hsz
  have hl : lv_has ls 5 [(0, .ref (ad 0)), (1, .int (nI (0))), (2, .int (p0)), (3, .int (p1))] := hl
  have hndc : ndz 27 ad := fun i j hi hj h => hnd i j (by omega) (by omega) h
  have hS0 : va_S (zA z0) s.heap s.heap [] := va_S.rf
  refine lv_iload_n hx hb dL_of_0 rfl (lv_at hl 1 rfl) ?_
  refine lv_if_ne (tgt := 13) hx hb dL_of_1 (by decide) (fun c_1 => False.elim (by revert c_1; decide)) (fun _ => ?_)
  refine lv_aload_n hx hb dL_of_4 rfl (lv_at hl 0 rfl) ?_
  refine lv_iload_n hx hb dL_of_5 rfl (lv_at hl 2 rfl) ?_
  refine lv_iload_n hx hb dL_of_6 rfl (lv_at hl 3 rfl) ?_
  refine zx_i (vx_runV (As := [.int (p0), .int (p1)]) (rest := []) ⟨hx, hb, hml, hown, hts⟩ (p0_pumped l hfl hI p0 p1) (cwV 2 hts gL_of_X0_pumped rfl rfl rfl (by decide +kernel) (by decide)) (pv0X (s0 := s.heap) hK (wxP_c hn hP) hX.1 (fun a _ _ => rfl)) rfl rfl hl.1 rfl (lv_room (Nat.le_of_ble_eq_true rfl)) dL_of_7 (by decide)) (fun {E ce q9 H1} hp hz hk hce hcv hcl => ?_) (fun r hp => ?_)
  · have hS1 : va_S (zA z0) s.heap H1 [] := ⟨hz, fun q h1 _ => hk q h1, fun q h => by cases h⟩
    obtain ⟨rfl, hcd⟩ := hp
    refine vx_catch (own := RL) (name := eI) (E := eI) (ce := ce) hown [] ⟨0, 114, 115, 51⟩ [] (htab.trans rfl) (fun z hz => by cases hz) (by decide) (by decide) (hts (.classLink RL 51 eI) (by decide +kernel)) hX.1.ci hce hcv hcl ?_
    refine lv_astore (lv' := [(4, .ref q9), (0, .ref (ad 0)), (1, .int (nI (0))), (2, .int (p0)), (3, .int (p1))]) hx hb dL_of_115 hl (by decide) rfl (fun ls hl => ?_)
    refine lv_bipush (v := (-101)) hx hb dL_of_117 (by decide) ?_
    exact hret (u := (ts, pu)) (by decide) (by decide) ⟨(rsc_1 hcd).symm, hT⟩ hS1 (fun t ht hA => ⟨va_K.moved hA hK, by rw [ht]; exact wz_old hP hk⟩) dL_of_119
  · obtain ⟨hg, rfl⟩ := hp
    have hcd : cd1 (ixB p0 (M 0 0) && ixB p1 3) = 0 := cd1_t hg
    have hP1 := hP
    refine lv_goto (tgt := 114) hx hb dL_of_10 (by decide) ?_
    exact hret (u := (ts, pu)) (by decide) (by decide) ⟨(rsc_0 hcd).symm, hT⟩ hS0 (fun t ht hA => ⟨va_K.moved hA hK, by rw [ht]; exact hP1⟩) dL_of_114
set_option maxHeartbeats 4000000 in
set_option maxRecDepth 100000 in
/-- of: headroom -/
theorem q_of1 (l : Launch) (hfl : l.stackTraces = false) {D : va_G} {n : Nat} {ad : Nat → Nat} {cI cJ cQ : ClassId} {M K : Mdl} {ts : Nat → Nat} {pu : Nat → Int64} {X : Nat → va_E} {sa : Nat → Nat} {sz z0 : Nat} (hI : Inv M) (hn : 37 ≤ n) (hnd : ndz n ad) (hAd : ∀ i, i < n → zA z0 (ad i)) (hz0 : z0 ≤ sz) (hT : hTs M ts) (p0 p1 : Int32) : vx_Met l yL_of wsL_of (rmX 3 2) (va_Pc [.ref (ad 0), .int (nI (1)), .int (p0), .int (p1)] (KV D n ad cI cJ cQ (wxE ad cI cJ cQ M ts pu K X) sa (zA z0) sz)) (va_Qi (fun r_ (u_ : (Nat → Nat) × (Nat → Int64)) => r_ = rsc (cd1 (ixB p0 (M 0 0) && ixB p1 36)) (nI (hdr M (clN p0) (clN p1) (M 5 0))) ∧ hTs M u_.1) (fun (u_ : (Nat → Nat) × (Nat → Int64)) t_ => KA D n ad cI cJ cQ (wxE ad cI cJ cQ M u_.1 u_.2 K X) t_) (zA z0)) (fun _ _ _ => False) 2 12 (zA z0) := by
  refine mkL_Qi (S := (Nat → Nat) × (Nat → Int64)) (post := fun r_ (u_ : (Nat → Nat) × (Nat → Int64)) => r_ = rsc (cd1 (ixB p0 (M 0 0) && ixB p1 36)) (nI (hdr M (clN p0) (clN p1) (M 5 0))) ∧ hTs M u_.1) (BQ := fun (u_ : (Nat → Nat) × (Nat → Int64)) t_ => KA D n ad cI cJ cQ (wxE ad cI cJ cQ M u_.1 u_.2 K X) t_) (cc := cL_of) (maxL := 5) (hh := [(0, 114, 115, 51)]) (by decide) rfl (Nat.le_of_ble_eq_true rfl) ?_
  intro p e s m args below meth c Q C0 htab B0 hret ls hl
  obtain ⟨hx, hb, hr, hml, hown, hts, hlocks⟩ := C0
  have hown : s.vm.findClass RL = some m.cls := hown
  obtain ⟨hsz, hX, hK, hP⟩ := B0
  subst hsz
  have hl : lv_has ls 5 [(0, .ref (ad 0)), (1, .int (nI (1))), (2, .int (p0)), (3, .int (p1))] := hl
  have hndc : ndz 27 ad := fun i j hi hj h => hnd i j (by omega) (by omega) h
  have hS0 : va_S (zA z0) s.heap s.heap [] := va_S.rf
  refine lv_iload_n hx hb dL_of_0 rfl (lv_at hl 1 rfl) ?_
  refine lv_if_ne (tgt := 13) hx hb dL_of_1 (by decide) (fun _ => ?_) (fun c_1 => False.elim (by revert c_1; decide))
  refine lv_iload_n hx hb dL_of_13 rfl (lv_at hl 1 rfl) ?_
  refine lv_iconst (v := nI 1) hx hb dL_of_14 (by decide) ?_
  refine lv_icmp_ne (tgt := 27) hx hb dL_of_15 (by decide) (fun c_2 => False.elim (by revert c_2; decide)) (fun _ => ?_)
  refine lv_aload_n hx hb dL_of_18 rfl (lv_at hl 0 rfl) ?_
  refine lv_iload_n hx hb dL_of_19 rfl (lv_at hl 2 rfl) ?_
  refine lv_iload_n hx hb dL_of_20 rfl (lv_at hl 3 rfl) ?_
  refine zx_i (vx_runV (As := [.int (p0), .int (p1)]) (rest := []) ⟨hx, hb, hml, hown, hts⟩ (p0_headroom l hfl hI p0 p1) (cwV 2 hts gL_of_X0_headroom rfl rfl rfl (by decide +kernel) (by decide)) (pv0X (s0 := s.heap) hK (wxP_c hn hP) hX.1 (fun a _ _ => rfl)) rfl rfl hl.1 rfl (lv_room (Nat.le_of_ble_eq_true rfl)) dL_of_21 (by decide)) (fun {E ce q9 H1} hp hz hk hce hcv hcl => ?_) (fun r hp => ?_)
  · have hS1 : va_S (zA z0) s.heap H1 [] := ⟨hz, fun q h1 _ => hk q h1, fun q h => by cases h⟩
    obtain ⟨rfl, hcd⟩ := hp
    refine vx_catch (own := RL) (name := eI) (E := eI) (ce := ce) hown [] ⟨0, 114, 115, 51⟩ [] (htab.trans rfl) (fun z hz => by cases hz) (by decide) (by decide) (hts (.classLink RL 51 eI) (by decide +kernel)) hX.1.ci hce hcv hcl ?_
    refine lv_astore (lv' := [(4, .ref q9), (0, .ref (ad 0)), (1, .int (nI (1))), (2, .int (p0)), (3, .int (p1))]) hx hb dL_of_115 hl (by decide) rfl (fun ls hl => ?_)
    refine lv_bipush (v := (-101)) hx hb dL_of_117 (by decide) ?_
    exact hret (u := (ts, pu)) (by decide) (by decide) ⟨(rsc_1 hcd).symm, hT⟩ hS1 (fun t ht hA => ⟨va_K.moved hA hK, by rw [ht]; exact wz_old hP hk⟩) dL_of_119
  · obtain ⟨hg, rfl⟩ := hp
    have hcd : cd1 (ixB p0 (M 0 0) && ixB p1 36) = 0 := cd1_t hg
    have hP1 := hP
    refine lv_goto (tgt := 114) hx hb dL_of_24 (by decide) ?_
    exact hret (u := (ts, pu)) (by decide) (by decide) ⟨(rsc_0 hcd).symm, hT⟩ hS0 (fun t ht hA => ⟨va_K.moved hA hK, by rw [ht]; exact hP1⟩) dL_of_114
set_option maxHeartbeats 4000000 in
set_option maxRecDepth 100000 in
/-- of: heaviest -/
theorem q_of2 (l : Launch) (hfl : l.stackTraces = false) {D : va_G} {n : Nat} {ad : Nat → Nat} {cI cJ cQ : ClassId} {M K : Mdl} {ts : Nat → Nat} {pu : Nat → Int64} {X : Nat → va_E} {sa : Nat → Nat} {sz z0 : Nat} (hI : Inv M) (hn : 37 ≤ n) (hnd : ndz n ad) (hAd : ∀ i, i < n → zA z0 (ad i)) (hz0 : z0 ≤ sz) (hT : hTs M ts) (p0 p1 : Int32) : vx_Met l yL_of wsL_of (rmX 3 2) (va_Pc [.ref (ad 0), .int (nI (2)), .int (p0), .int (p1)] (KV D n ad cI cJ cQ (wxE ad cI cJ cQ M ts pu K X) sa (zA z0) sz)) (va_Qi (fun r_ (u_ : (Nat → Nat) × (Nat → Int64)) => r_ = rsc (cd1 (ixB p0 (M 5 0) && ixB p1 36)) (hvb M (clN p0) (clN p1) (M 0 0)) ∧ hTs M u_.1) (fun (u_ : (Nat → Nat) × (Nat → Int64)) t_ => KA D n ad cI cJ cQ (wxE ad cI cJ cQ M u_.1 u_.2 K X) t_) (zA z0)) (fun _ _ _ => False) 2 12 (zA z0) := by
  refine mkL_Qi (S := (Nat → Nat) × (Nat → Int64)) (post := fun r_ (u_ : (Nat → Nat) × (Nat → Int64)) => r_ = rsc (cd1 (ixB p0 (M 5 0) && ixB p1 36)) (hvb M (clN p0) (clN p1) (M 0 0)) ∧ hTs M u_.1) (BQ := fun (u_ : (Nat → Nat) × (Nat → Int64)) t_ => KA D n ad cI cJ cQ (wxE ad cI cJ cQ M u_.1 u_.2 K X) t_) (cc := cL_of) (maxL := 5) (hh := [(0, 114, 115, 51)]) (by decide) rfl (Nat.le_of_ble_eq_true rfl) ?_
  intro p e s m args below meth c Q C0 htab B0 hret ls hl
  obtain ⟨hx, hb, hr, hml, hown, hts, hlocks⟩ := C0
  have hown : s.vm.findClass RL = some m.cls := hown
  obtain ⟨hsz, hX, hK, hP⟩ := B0
  subst hsz
  have hl : lv_has ls 5 [(0, .ref (ad 0)), (1, .int (nI (2))), (2, .int (p0)), (3, .int (p1))] := hl
  have hndc : ndz 27 ad := fun i j hi hj h => hnd i j (by omega) (by omega) h
  have hS0 : va_S (zA z0) s.heap s.heap [] := va_S.rf
  refine lv_iload_n hx hb dL_of_0 rfl (lv_at hl 1 rfl) ?_
  refine lv_if_ne (tgt := 13) hx hb dL_of_1 (by decide) (fun _ => ?_) (fun c_1 => False.elim (by revert c_1; decide))
  refine lv_iload_n hx hb dL_of_13 rfl (lv_at hl 1 rfl) ?_
  refine lv_iconst (v := nI 1) hx hb dL_of_14 (by decide) ?_
  refine lv_icmp_ne (tgt := 27) hx hb dL_of_15 (by decide) (fun _ => ?_) (fun c_2 => False.elim (by revert c_2; decide))
  refine lv_iload_n hx hb dL_of_27 rfl (lv_at hl 1 rfl) ?_
  refine lv_iconst (v := nI 2) hx hb dL_of_28 (by decide) ?_
  refine lv_icmp_ne (tgt := 41) hx hb dL_of_29 (by decide) (fun c_3 => False.elim (by revert c_3; decide)) (fun _ => ?_)
  refine lv_aload_n hx hb dL_of_32 rfl (lv_at hl 0 rfl) ?_
  refine lv_iload_n hx hb dL_of_33 rfl (lv_at hl 2 rfl) ?_
  refine lv_iload_n hx hb dL_of_34 rfl (lv_at hl 3 rfl) ?_
  refine zx_i (vx_runV (As := [.int (p0), .int (p1)]) (rest := []) ⟨hx, hb, hml, hown, hts⟩ (p0_heaviest l hfl hI p0 p1) (cwV 2 hts gL_of_X0_heaviest rfl rfl rfl (by decide +kernel) (by decide)) (pv0X (s0 := s.heap) hK (wxP_c hn hP) hX.1 (fun a _ _ => rfl)) rfl rfl hl.1 rfl (lv_room (Nat.le_of_ble_eq_true rfl)) dL_of_35 (by decide)) (fun {E ce q9 H1} hp hz hk hce hcv hcl => ?_) (fun r hp => ?_)
  · have hS1 : va_S (zA z0) s.heap H1 [] := ⟨hz, fun q h1 _ => hk q h1, fun q h => by cases h⟩
    obtain ⟨rfl, hcd⟩ := hp
    refine vx_catch (own := RL) (name := eI) (E := eI) (ce := ce) hown [] ⟨0, 114, 115, 51⟩ [] (htab.trans rfl) (fun z hz => by cases hz) (by decide) (by decide) (hts (.classLink RL 51 eI) (by decide +kernel)) hX.1.ci hce hcv hcl ?_
    refine lv_astore (lv' := [(4, .ref q9), (0, .ref (ad 0)), (1, .int (nI (2))), (2, .int (p0)), (3, .int (p1))]) hx hb dL_of_115 hl (by decide) rfl (fun ls hl => ?_)
    refine lv_bipush (v := (-101)) hx hb dL_of_117 (by decide) ?_
    exact hret (u := (ts, pu)) (by decide) (by decide) ⟨(rsc_1 hcd).symm, hT⟩ hS1 (fun t ht hA => ⟨va_K.moved hA hK, by rw [ht]; exact wz_old hP hk⟩) dL_of_119
  · obtain ⟨hg, rfl⟩ := hp
    have hcd : cd1 (ixB p0 (M 5 0) && ixB p1 36) = 0 := cd1_t hg
    have hP1 := hP
    refine lv_goto (tgt := 114) hx hb dL_of_38 (by decide) ?_
    exact hret (u := (ts, pu)) (by decide) (by decide) ⟨(rsc_0 hcd).symm, hT⟩ hS0 (fun t ht hA => ⟨va_K.moved hA hK, by rw [ht]; exact hP1⟩) dL_of_114
set_option maxHeartbeats 4000000 in
set_option maxRecDepth 100000 in
/-- of: takenLate -/
theorem q_of3 (l : Launch) (hfl : l.stackTraces = false) {D : va_G} {n : Nat} {ad : Nat → Nat} {cI cJ cQ : ClassId} {M K : Mdl} {ts : Nat → Nat} {pu : Nat → Int64} {X : Nat → va_E} {sa : Nat → Nat} {sz z0 : Nat} (hI : Inv M) (hn : 37 ≤ n) (hnd : ndz n ad) (hAd : ∀ i, i < n → zA z0 (ad i)) (hz0 : z0 ≤ sz) (hT : hTs M ts) (p0 p1 : Int32) : vx_Met l yL_of wsL_of (rmX 2 2) (va_Pc [.ref (ad 0), .int (nI (3)), .int (p0), .int (p1)] (KV D n ad cI cJ cQ (wxE ad cI cJ cQ M ts pu K X) sa (zA z0) sz)) (va_Qi (fun r_ (u_ : (Nat → Nat) × (Nat → Int64)) => r_ = rsc (cd1 (ixB p0 (M 0 0) && ixB p1 3)) (nI (tk M (clN p0) (clN p1) (clN p1 * 12))) ∧ hTs M u_.1) (fun (u_ : (Nat → Nat) × (Nat → Int64)) t_ => KA D n ad cI cJ cQ (wxE ad cI cJ cQ M u_.1 u_.2 K X) t_) (zA z0)) (fun _ _ _ => False) 2 12 (zA z0) := by
  refine mkL_Qi (S := (Nat → Nat) × (Nat → Int64)) (post := fun r_ (u_ : (Nat → Nat) × (Nat → Int64)) => r_ = rsc (cd1 (ixB p0 (M 0 0) && ixB p1 3)) (nI (tk M (clN p0) (clN p1) (clN p1 * 12))) ∧ hTs M u_.1) (BQ := fun (u_ : (Nat → Nat) × (Nat → Int64)) t_ => KA D n ad cI cJ cQ (wxE ad cI cJ cQ M u_.1 u_.2 K X) t_) (cc := cL_of) (maxL := 5) (hh := [(0, 114, 115, 51)]) (by decide) rfl (Nat.le_of_ble_eq_true rfl) ?_
  intro p e s m args below meth c Q C0 htab B0 hret ls hl
  obtain ⟨hx, hb, hr, hml, hown, hts, hlocks⟩ := C0
  have hown : s.vm.findClass RL = some m.cls := hown
  obtain ⟨hsz, hX, hK, hP⟩ := B0
  subst hsz
  have hl : lv_has ls 5 [(0, .ref (ad 0)), (1, .int (nI (3))), (2, .int (p0)), (3, .int (p1))] := hl
  have hndc : ndz 27 ad := fun i j hi hj h => hnd i j (by omega) (by omega) h
  have hS0 : va_S (zA z0) s.heap s.heap [] := va_S.rf
  refine lv_iload_n hx hb dL_of_0 rfl (lv_at hl 1 rfl) ?_
  refine lv_if_ne (tgt := 13) hx hb dL_of_1 (by decide) (fun _ => ?_) (fun c_1 => False.elim (by revert c_1; decide))
  refine lv_iload_n hx hb dL_of_13 rfl (lv_at hl 1 rfl) ?_
  refine lv_iconst (v := nI 1) hx hb dL_of_14 (by decide) ?_
  refine lv_icmp_ne (tgt := 27) hx hb dL_of_15 (by decide) (fun _ => ?_) (fun c_2 => False.elim (by revert c_2; decide))
  refine lv_iload_n hx hb dL_of_27 rfl (lv_at hl 1 rfl) ?_
  refine lv_iconst (v := nI 2) hx hb dL_of_28 (by decide) ?_
  refine lv_icmp_ne (tgt := 41) hx hb dL_of_29 (by decide) (fun _ => ?_) (fun c_3 => False.elim (by revert c_3; decide))
  refine lv_iload_n hx hb dL_of_41 rfl (lv_at hl 1 rfl) ?_
  refine lv_iconst (v := nI 3) hx hb dL_of_42 (by decide) ?_
  refine lv_icmp_ne (tgt := 55) hx hb dL_of_43 (by decide) (fun c_4 => False.elim (by revert c_4; decide)) (fun _ => ?_)
  refine lv_aload_n hx hb dL_of_46 rfl (lv_at hl 0 rfl) ?_
  refine lv_iload_n hx hb dL_of_47 rfl (lv_at hl 2 rfl) ?_
  refine lv_iload_n hx hb dL_of_48 rfl (lv_at hl 3 rfl) ?_
  refine zx_i (vx_runV (As := [.int (p0), .int (p1)]) (rest := []) ⟨hx, hb, hml, hown, hts⟩ (p0_takenLate l hfl hI p0 p1) (cwV 2 hts gL_of_X0_takenLate rfl rfl rfl (by decide +kernel) (by decide)) (pv0X (s0 := s.heap) hK (wxP_c hn hP) hX.1 (fun a _ _ => rfl)) rfl rfl hl.1 rfl (lv_room (Nat.le_of_ble_eq_true rfl)) dL_of_49 (by decide)) (fun {E ce q9 H1} hp hz hk hce hcv hcl => ?_) (fun r hp => ?_)
  · have hS1 : va_S (zA z0) s.heap H1 [] := ⟨hz, fun q h1 _ => hk q h1, fun q h => by cases h⟩
    obtain ⟨rfl, hcd⟩ := hp
    refine vx_catch (own := RL) (name := eI) (E := eI) (ce := ce) hown [] ⟨0, 114, 115, 51⟩ [] (htab.trans rfl) (fun z hz => by cases hz) (by decide) (by decide) (hts (.classLink RL 51 eI) (by decide +kernel)) hX.1.ci hce hcv hcl ?_
    refine lv_astore (lv' := [(4, .ref q9), (0, .ref (ad 0)), (1, .int (nI (3))), (2, .int (p0)), (3, .int (p1))]) hx hb dL_of_115 hl (by decide) rfl (fun ls hl => ?_)
    refine lv_bipush (v := (-101)) hx hb dL_of_117 (by decide) ?_
    exact hret (u := (ts, pu)) (by decide) (by decide) ⟨(rsc_1 hcd).symm, hT⟩ hS1 (fun t ht hA => ⟨va_K.moved hA hK, by rw [ht]; exact wz_old hP hk⟩) dL_of_119
  · obtain ⟨hg, rfl⟩ := hp
    have hcd : cd1 (ixB p0 (M 0 0) && ixB p1 3) = 0 := cd1_t hg
    have hP1 := hP
    refine lv_goto (tgt := 114) hx hb dL_of_52 (by decide) ?_
    exact hret (u := (ts, pu)) (by decide) (by decide) ⟨(rsc_0 hcd).symm, hT⟩ hS0 (fun t ht hA => ⟨va_K.moved hA hK, by rw [ht]; exact hP1⟩) dL_of_114
set_option maxHeartbeats 4000000 in
set_option maxRecDepth 100000 in
/-- of: beyond -/
theorem q_of4 (l : Launch) (hfl : l.stackTraces = false) {D : va_G} {n : Nat} {ad : Nat → Nat} {cI cJ cQ : ClassId} {M K : Mdl} {ts : Nat → Nat} {pu : Nat → Int64} {X : Nat → va_E} {sa : Nat → Nat} {sz z0 : Nat} (hI : Inv M) (hn : 37 ≤ n) (hnd : ndz n ad) (hAd : ∀ i, i < n → zA z0 (ad i)) (hz0 : z0 ≤ sz) (hT : hTs M ts) (p0 p1 : Int32) : vx_Met l yL_of wsL_of (rmX 2 1) (va_Pc [.ref (ad 0), .int (nI (4)), .int (p0), .int (p1)] (KV D n ad cI cJ cQ (wxE ad cI cJ cQ M ts pu K X) sa (zA z0) sz)) (va_Qi (fun r_ (u_ : (Nat → Nat) × (Nat → Int64)) => r_ = rsc (cd1 (ixB p0 3)) (nI (byd M (clN p0))) ∧ hTs M u_.1) (fun (u_ : (Nat → Nat) × (Nat → Int64)) t_ => KA D n ad cI cJ cQ (wxE ad cI cJ cQ M u_.1 u_.2 K X) t_) (zA z0)) (fun _ _ _ => False) 1 6 (zA z0) := by
  refine mkL_Qi (S := (Nat → Nat) × (Nat → Int64)) (post := fun r_ (u_ : (Nat → Nat) × (Nat → Int64)) => r_ = rsc (cd1 (ixB p0 3)) (nI (byd M (clN p0))) ∧ hTs M u_.1) (BQ := fun (u_ : (Nat → Nat) × (Nat → Int64)) t_ => KA D n ad cI cJ cQ (wxE ad cI cJ cQ M u_.1 u_.2 K X) t_) (cc := cL_of) (maxL := 5) (hh := [(0, 114, 115, 51)]) (by decide) rfl (Nat.le_of_ble_eq_true rfl) ?_
  intro p e s m args below meth c Q C0 htab B0 hret ls hl
  obtain ⟨hx, hb, hr, hml, hown, hts, hlocks⟩ := C0
  have hown : s.vm.findClass RL = some m.cls := hown
  obtain ⟨hsz, hX, hK, hP⟩ := B0
  subst hsz
  have hl : lv_has ls 5 [(0, .ref (ad 0)), (1, .int (nI (4))), (2, .int (p0)), (3, .int (p1))] := hl
  have hndc : ndz 27 ad := fun i j hi hj h => hnd i j (by omega) (by omega) h
  have hS0 : va_S (zA z0) s.heap s.heap [] := va_S.rf
  refine lv_iload_n hx hb dL_of_0 rfl (lv_at hl 1 rfl) ?_
  refine lv_if_ne (tgt := 13) hx hb dL_of_1 (by decide) (fun _ => ?_) (fun c_1 => False.elim (by revert c_1; decide))
  refine lv_iload_n hx hb dL_of_13 rfl (lv_at hl 1 rfl) ?_
  refine lv_iconst (v := nI 1) hx hb dL_of_14 (by decide) ?_
  refine lv_icmp_ne (tgt := 27) hx hb dL_of_15 (by decide) (fun _ => ?_) (fun c_2 => False.elim (by revert c_2; decide))
  refine lv_iload_n hx hb dL_of_27 rfl (lv_at hl 1 rfl) ?_
  refine lv_iconst (v := nI 2) hx hb dL_of_28 (by decide) ?_
  refine lv_icmp_ne (tgt := 41) hx hb dL_of_29 (by decide) (fun _ => ?_) (fun c_3 => False.elim (by revert c_3; decide))
  refine lv_iload_n hx hb dL_of_41 rfl (lv_at hl 1 rfl) ?_
  refine lv_iconst (v := nI 3) hx hb dL_of_42 (by decide) ?_
  refine lv_icmp_ne (tgt := 55) hx hb dL_of_43 (by decide) (fun _ => ?_) (fun c_4 => False.elim (by revert c_4; decide))
  refine lv_iload_n hx hb dL_of_55 rfl (lv_at hl 1 rfl) ?_
  refine lv_iconst (v := nI 4) hx hb dL_of_56 (by decide) ?_
  refine lv_icmp_ne (tgt := 68) hx hb dL_of_57 (by decide) (fun c_5 => False.elim (by revert c_5; decide)) (fun _ => ?_)
  refine lv_aload_n hx hb dL_of_60 rfl (lv_at hl 0 rfl) ?_
  refine lv_iload_n hx hb dL_of_61 rfl (lv_at hl 2 rfl) ?_
  refine zx_i (vx_runV (As := [.int (p0)]) (rest := []) ⟨hx, hb, hml, hown, hts⟩ (p0_beyond l hfl hI p0) (cwV 1 hts gL_of_X0_beyond rfl rfl rfl (by decide +kernel) (by decide)) (pv0X (s0 := s.heap) hK (wxP_c hn hP) hX.1 (fun a _ _ => rfl)) rfl rfl hl.1 rfl (lv_room (Nat.le_of_ble_eq_true rfl)) dL_of_62 (by decide)) (fun {E ce q9 H1} hp hz hk hce hcv hcl => ?_) (fun r hp => ?_)
  · have hS1 : va_S (zA z0) s.heap H1 [] := ⟨hz, fun q h1 _ => hk q h1, fun q h => by cases h⟩
    obtain ⟨rfl, hcd⟩ := hp
    refine vx_catch (own := RL) (name := eI) (E := eI) (ce := ce) hown [] ⟨0, 114, 115, 51⟩ [] (htab.trans rfl) (fun z hz => by cases hz) (by decide) (by decide) (hts (.classLink RL 51 eI) (by decide +kernel)) hX.1.ci hce hcv hcl ?_
    refine lv_astore (lv' := [(4, .ref q9), (0, .ref (ad 0)), (1, .int (nI (4))), (2, .int (p0)), (3, .int (p1))]) hx hb dL_of_115 hl (by decide) rfl (fun ls hl => ?_)
    refine lv_bipush (v := (-101)) hx hb dL_of_117 (by decide) ?_
    exact hret (u := (ts, pu)) (by decide) (by decide) ⟨(rsc_1 hcd).symm, hT⟩ hS1 (fun t ht hA => ⟨va_K.moved hA hK, by rw [ht]; exact wz_old hP hk⟩) dL_of_119
  · obtain ⟨hg, rfl⟩ := hp
    have hcd : cd1 (ixB p0 3) = 0 := cd1_t hg
    have hP1 := hP
    refine lv_goto (tgt := 114) hx hb dL_of_65 (by decide) ?_
    exact hret (u := (ts, pu)) (by decide) (by decide) ⟨(rsc_0 hcd).symm, hT⟩ hS0 (fun t ht hA => ⟨va_K.moved hA hK, by rw [ht]; exact hP1⟩) dL_of_114
set_option maxHeartbeats 4000000 in
set_option maxRecDepth 100000 in
/-- of: taken -/
theorem q_of5 (l : Launch) (hfl : l.stackTraces = false) {D : va_G} {n : Nat} {ad : Nat → Nat} {cI cJ cQ : ClassId} {M K : Mdl} {ts : Nat → Nat} {pu : Nat → Int64} {X : Nat → va_E} {sa : Nat → Nat} {sz z0 : Nat} (hI : Inv M) (hn : 37 ≤ n) (hnd : ndz n ad) (hAd : ∀ i, i < n → zA z0 (ad i)) (hz0 : z0 ≤ sz) (hT : hTs M ts) (p0 p1 : Int32) : vx_Met l yL_of wsL_of (rmX 2 1) (va_Pc [.ref (ad 0), .int (nI (5)), .int (p0), .int (p1)] (KV D n ad cI cJ cQ (wxE ad cI cJ cQ M ts pu K X) sa (zA z0) sz)) (va_Qi (fun r_ (u_ : (Nat → Nat) × (Nat → Int64)) => r_ = rsc (cd1 (ixB p0 3)) (nI (tka M (clN p0))) ∧ hTs M u_.1) (fun (u_ : (Nat → Nat) × (Nat → Int64)) t_ => KA D n ad cI cJ cQ (wxE ad cI cJ cQ M u_.1 u_.2 K X) t_) (zA z0)) (fun _ _ _ => False) 1 6 (zA z0) := by
  refine mkL_Qi (S := (Nat → Nat) × (Nat → Int64)) (post := fun r_ (u_ : (Nat → Nat) × (Nat → Int64)) => r_ = rsc (cd1 (ixB p0 3)) (nI (tka M (clN p0))) ∧ hTs M u_.1) (BQ := fun (u_ : (Nat → Nat) × (Nat → Int64)) t_ => KA D n ad cI cJ cQ (wxE ad cI cJ cQ M u_.1 u_.2 K X) t_) (cc := cL_of) (maxL := 5) (hh := [(0, 114, 115, 51)]) (by decide) rfl (Nat.le_of_ble_eq_true rfl) ?_
  intro p e s m args below meth c Q C0 htab B0 hret ls hl
  obtain ⟨hx, hb, hr, hml, hown, hts, hlocks⟩ := C0
  have hown : s.vm.findClass RL = some m.cls := hown
  obtain ⟨hsz, hX, hK, hP⟩ := B0
  subst hsz
  have hl : lv_has ls 5 [(0, .ref (ad 0)), (1, .int (nI (5))), (2, .int (p0)), (3, .int (p1))] := hl
  have hndc : ndz 27 ad := fun i j hi hj h => hnd i j (by omega) (by omega) h
  have hS0 : va_S (zA z0) s.heap s.heap [] := va_S.rf
  refine lv_iload_n hx hb dL_of_0 rfl (lv_at hl 1 rfl) ?_
  refine lv_if_ne (tgt := 13) hx hb dL_of_1 (by decide) (fun _ => ?_) (fun c_1 => False.elim (by revert c_1; decide))
  refine lv_iload_n hx hb dL_of_13 rfl (lv_at hl 1 rfl) ?_
  refine lv_iconst (v := nI 1) hx hb dL_of_14 (by decide) ?_
  refine lv_icmp_ne (tgt := 27) hx hb dL_of_15 (by decide) (fun _ => ?_) (fun c_2 => False.elim (by revert c_2; decide))
  refine lv_iload_n hx hb dL_of_27 rfl (lv_at hl 1 rfl) ?_
  refine lv_iconst (v := nI 2) hx hb dL_of_28 (by decide) ?_
  refine lv_icmp_ne (tgt := 41) hx hb dL_of_29 (by decide) (fun _ => ?_) (fun c_3 => False.elim (by revert c_3; decide))
  refine lv_iload_n hx hb dL_of_41 rfl (lv_at hl 1 rfl) ?_
  refine lv_iconst (v := nI 3) hx hb dL_of_42 (by decide) ?_
  refine lv_icmp_ne (tgt := 55) hx hb dL_of_43 (by decide) (fun _ => ?_) (fun c_4 => False.elim (by revert c_4; decide))
  refine lv_iload_n hx hb dL_of_55 rfl (lv_at hl 1 rfl) ?_
  refine lv_iconst (v := nI 4) hx hb dL_of_56 (by decide) ?_
  refine lv_icmp_ne (tgt := 68) hx hb dL_of_57 (by decide) (fun _ => ?_) (fun c_5 => False.elim (by revert c_5; decide))
  refine lv_iload_n hx hb dL_of_68 rfl (lv_at hl 1 rfl) ?_
  refine lv_iconst (v := nI 5) hx hb dL_of_69 (by decide) ?_
  refine lv_icmp_ne (tgt := 81) hx hb dL_of_70 (by decide) (fun c_6 => False.elim (by revert c_6; decide)) (fun _ => ?_)
  refine lv_aload_n hx hb dL_of_73 rfl (lv_at hl 0 rfl) ?_
  refine lv_iload_n hx hb dL_of_74 rfl (lv_at hl 2 rfl) ?_
  refine zx_i (vx_runV (As := [.int (p0)]) (rest := []) ⟨hx, hb, hml, hown, hts⟩ (p0_taken l hfl hI p0) (cwV 1 hts gL_of_X0_taken rfl rfl rfl (by decide +kernel) (by decide)) (pv0X (s0 := s.heap) hK (wxP_c hn hP) hX.1 (fun a _ _ => rfl)) rfl rfl hl.1 rfl (lv_room (Nat.le_of_ble_eq_true rfl)) dL_of_75 (by decide)) (fun {E ce q9 H1} hp hz hk hce hcv hcl => ?_) (fun r hp => ?_)
  · have hS1 : va_S (zA z0) s.heap H1 [] := ⟨hz, fun q h1 _ => hk q h1, fun q h => by cases h⟩
    obtain ⟨rfl, hcd⟩ := hp
    refine vx_catch (own := RL) (name := eI) (E := eI) (ce := ce) hown [] ⟨0, 114, 115, 51⟩ [] (htab.trans rfl) (fun z hz => by cases hz) (by decide) (by decide) (hts (.classLink RL 51 eI) (by decide +kernel)) hX.1.ci hce hcv hcl ?_
    refine lv_astore (lv' := [(4, .ref q9), (0, .ref (ad 0)), (1, .int (nI (5))), (2, .int (p0)), (3, .int (p1))]) hx hb dL_of_115 hl (by decide) rfl (fun ls hl => ?_)
    refine lv_bipush (v := (-101)) hx hb dL_of_117 (by decide) ?_
    exact hret (u := (ts, pu)) (by decide) (by decide) ⟨(rsc_1 hcd).symm, hT⟩ hS1 (fun t ht hA => ⟨va_K.moved hA hK, by rw [ht]; exact wz_old hP hk⟩) dL_of_119
  · obtain ⟨hg, rfl⟩ := hp
    have hcd : cd1 (ixB p0 3) = 0 := cd1_t hg
    have hP1 := hP
    refine lv_goto (tgt := 114) hx hb dL_of_78 (by decide) ?_
    exact hret (u := (ts, pu)) (by decide) (by decide) ⟨(rsc_0 hcd).symm, hT⟩ hS0 (fun t ht hA => ⟨va_K.moved hA hK, by rw [ht]; exact hP1⟩) dL_of_114
set_option maxHeartbeats 4000000 in
set_option maxRecDepth 100000 in
/-- of: licence -/
theorem q_of6 (l : Launch) (hfl : l.stackTraces = false) {D : va_G} {n : Nat} {ad : Nat → Nat} {cI cJ cQ : ClassId} {M K : Mdl} {ts : Nat → Nat} {pu : Nat → Int64} {X : Nat → va_E} {sa : Nat → Nat} {sz z0 : Nat} (hI : Inv M) (hn : 37 ≤ n) (hnd : ndz n ad) (hAd : ∀ i, i < n → zA z0 (ad i)) (hz0 : z0 ≤ sz) (hT : hTs M ts) (p0 p1 : Int32) : vx_Met l yL_of wsL_of (rmX 2 1) (va_Pc [.ref (ad 0), .int (nI (6)), .int (p0), .int (p1)] (KV D n ad cI cJ cQ (wxE ad cI cJ cQ M ts pu K X) sa (zA z0) sz)) (va_Qi (fun r_ (u_ : (Nat → Nat) × (Nat → Int64)) => r_ = rsc (cd1 (ixB p0 (M 0 0))) (nI (M 3 (clN p0))) ∧ hTs M u_.1) (fun (u_ : (Nat → Nat) × (Nat → Int64)) t_ => KA D n ad cI cJ cQ (wxE ad cI cJ cQ M u_.1 u_.2 K X) t_) (zA z0)) (fun _ _ _ => False) 1 6 (zA z0) := by
  refine mkL_Qi (S := (Nat → Nat) × (Nat → Int64)) (post := fun r_ (u_ : (Nat → Nat) × (Nat → Int64)) => r_ = rsc (cd1 (ixB p0 (M 0 0))) (nI (M 3 (clN p0))) ∧ hTs M u_.1) (BQ := fun (u_ : (Nat → Nat) × (Nat → Int64)) t_ => KA D n ad cI cJ cQ (wxE ad cI cJ cQ M u_.1 u_.2 K X) t_) (cc := cL_of) (maxL := 5) (hh := [(0, 114, 115, 51)]) (by decide) rfl (Nat.le_of_ble_eq_true rfl) ?_
  intro p e s m args below meth c Q C0 htab B0 hret ls hl
  obtain ⟨hx, hb, hr, hml, hown, hts, hlocks⟩ := C0
  have hown : s.vm.findClass RL = some m.cls := hown
  obtain ⟨hsz, hX, hK, hP⟩ := B0
  subst hsz
  have hl : lv_has ls 5 [(0, .ref (ad 0)), (1, .int (nI (6))), (2, .int (p0)), (3, .int (p1))] := hl
  have hndc : ndz 27 ad := fun i j hi hj h => hnd i j (by omega) (by omega) h
  have hS0 : va_S (zA z0) s.heap s.heap [] := va_S.rf
  refine lv_iload_n hx hb dL_of_0 rfl (lv_at hl 1 rfl) ?_
  refine lv_if_ne (tgt := 13) hx hb dL_of_1 (by decide) (fun _ => ?_) (fun c_1 => False.elim (by revert c_1; decide))
  refine lv_iload_n hx hb dL_of_13 rfl (lv_at hl 1 rfl) ?_
  refine lv_iconst (v := nI 1) hx hb dL_of_14 (by decide) ?_
  refine lv_icmp_ne (tgt := 27) hx hb dL_of_15 (by decide) (fun _ => ?_) (fun c_2 => False.elim (by revert c_2; decide))
  refine lv_iload_n hx hb dL_of_27 rfl (lv_at hl 1 rfl) ?_
  refine lv_iconst (v := nI 2) hx hb dL_of_28 (by decide) ?_
  refine lv_icmp_ne (tgt := 41) hx hb dL_of_29 (by decide) (fun _ => ?_) (fun c_3 => False.elim (by revert c_3; decide))
  refine lv_iload_n hx hb dL_of_41 rfl (lv_at hl 1 rfl) ?_
  refine lv_iconst (v := nI 3) hx hb dL_of_42 (by decide) ?_
  refine lv_icmp_ne (tgt := 55) hx hb dL_of_43 (by decide) (fun _ => ?_) (fun c_4 => False.elim (by revert c_4; decide))
  refine lv_iload_n hx hb dL_of_55 rfl (lv_at hl 1 rfl) ?_
  refine lv_iconst (v := nI 4) hx hb dL_of_56 (by decide) ?_
  refine lv_icmp_ne (tgt := 68) hx hb dL_of_57 (by decide) (fun _ => ?_) (fun c_5 => False.elim (by revert c_5; decide))
  refine lv_iload_n hx hb dL_of_68 rfl (lv_at hl 1 rfl) ?_
  refine lv_iconst (v := nI 5) hx hb dL_of_69 (by decide) ?_
  refine lv_icmp_ne (tgt := 81) hx hb dL_of_70 (by decide) (fun _ => ?_) (fun c_6 => False.elim (by revert c_6; decide))
  refine lv_iload_n hx hb dL_of_81 rfl (lv_at hl 1 rfl) ?_
  refine lv_bipush (v := nI 6) hx hb dL_of_82 (by decide) ?_
  refine lv_icmp_ne (tgt := 95) hx hb dL_of_84 (by decide) (fun c_7 => False.elim (by revert c_7; decide)) (fun _ => ?_)
  refine lv_aload_n hx hb dL_of_87 rfl (lv_at hl 0 rfl) ?_
  refine lv_iload_n hx hb dL_of_88 rfl (lv_at hl 2 rfl) ?_
  refine zx_i (vx_runV (As := [.int (p0)]) (rest := []) ⟨hx, hb, hml, hown, hts⟩ (p0_licence l hfl hI p0) (cwV 1 hts gL_of_X0_licence rfl rfl rfl (by decide +kernel) (by decide)) (pv0X (s0 := s.heap) hK (wxP_c hn hP) hX.1 (fun a _ _ => rfl)) rfl rfl hl.1 rfl (lv_room (Nat.le_of_ble_eq_true rfl)) dL_of_89 (by decide)) (fun {E ce q9 H1} hp hz hk hce hcv hcl => ?_) (fun r hp => ?_)
  · have hS1 : va_S (zA z0) s.heap H1 [] := ⟨hz, fun q h1 _ => hk q h1, fun q h => by cases h⟩
    obtain ⟨rfl, hcd⟩ := hp
    refine vx_catch (own := RL) (name := eI) (E := eI) (ce := ce) hown [] ⟨0, 114, 115, 51⟩ [] (htab.trans rfl) (fun z hz => by cases hz) (by decide) (by decide) (hts (.classLink RL 51 eI) (by decide +kernel)) hX.1.ci hce hcv hcl ?_
    refine lv_astore (lv' := [(4, .ref q9), (0, .ref (ad 0)), (1, .int (nI (6))), (2, .int (p0)), (3, .int (p1))]) hx hb dL_of_115 hl (by decide) rfl (fun ls hl => ?_)
    refine lv_bipush (v := (-101)) hx hb dL_of_117 (by decide) ?_
    exact hret (u := (ts, pu)) (by decide) (by decide) ⟨(rsc_1 hcd).symm, hT⟩ hS1 (fun t ht hA => ⟨va_K.moved hA hK, by rw [ht]; exact wz_old hP hk⟩) dL_of_119
  · obtain ⟨hg, rfl⟩ := hp
    have hcd : cd1 (ixB p0 (M 0 0)) = 0 := cd1_t hg
    have hP1 := hP
    refine lv_goto (tgt := 114) hx hb dL_of_92 (by decide) ?_
    exact hret (u := (ts, pu)) (by decide) (by decide) ⟨(rsc_0 hcd).symm, hT⟩ hS0 (fun t ht hA => ⟨va_K.moved hA hK, by rw [ht]; exact hP1⟩) dL_of_114
set_option maxHeartbeats 4000000 in
set_option maxRecDepth 100000 in
/-- of: worstMonth -/
theorem q_of7 (l : Launch) (hfl : l.stackTraces = false) {D : va_G} {n : Nat} {ad : Nat → Nat} {cI cJ cQ : ClassId} {M K : Mdl} {ts : Nat → Nat} {pu : Nat → Int64} {X : Nat → va_E} {sa : Nat → Nat} {sz z0 : Nat} (hI : Inv M) (hn : 37 ≤ n) (hnd : ndz n ad) (hAd : ∀ i, i < n → zA z0 (ad i)) (hz0 : z0 ≤ sz) (hT : hTs M ts) (p0 p1 : Int32) : vx_Met l yL_of wsL_of (rmX 3 1) (va_Pc [.ref (ad 0), .int (nI (7)), .int (p0), .int (p1)] (KV D n ad cI cJ cQ (wxE ad cI cJ cQ M ts pu K X) sa (zA z0) sz)) (va_Qi (fun r_ (u_ : (Nat → Nat) × (Nat → Int64)) => r_ = rsc (cd1 (ixB p0 (M 5 0))) (nI (wst M (clN p0) 35)) ∧ hTs M u_.1) (fun (u_ : (Nat → Nat) × (Nat → Int64)) t_ => KA D n ad cI cJ cQ (wxE ad cI cJ cQ M u_.1 u_.2 K X) t_) (zA z0)) (fun _ _ _ => False) 1 6 (zA z0) := by
  refine mkL_Qi (S := (Nat → Nat) × (Nat → Int64)) (post := fun r_ (u_ : (Nat → Nat) × (Nat → Int64)) => r_ = rsc (cd1 (ixB p0 (M 5 0))) (nI (wst M (clN p0) 35)) ∧ hTs M u_.1) (BQ := fun (u_ : (Nat → Nat) × (Nat → Int64)) t_ => KA D n ad cI cJ cQ (wxE ad cI cJ cQ M u_.1 u_.2 K X) t_) (cc := cL_of) (maxL := 5) (hh := [(0, 114, 115, 51)]) (by decide) rfl (Nat.le_of_ble_eq_true rfl) ?_
  intro p e s m args below meth c Q C0 htab B0 hret ls hl
  obtain ⟨hx, hb, hr, hml, hown, hts, hlocks⟩ := C0
  have hown : s.vm.findClass RL = some m.cls := hown
  obtain ⟨hsz, hX, hK, hP⟩ := B0
  subst hsz
  have hl : lv_has ls 5 [(0, .ref (ad 0)), (1, .int (nI (7))), (2, .int (p0)), (3, .int (p1))] := hl
  have hndc : ndz 27 ad := fun i j hi hj h => hnd i j (by omega) (by omega) h
  have hS0 : va_S (zA z0) s.heap s.heap [] := va_S.rf
  refine lv_iload_n hx hb dL_of_0 rfl (lv_at hl 1 rfl) ?_
  refine lv_if_ne (tgt := 13) hx hb dL_of_1 (by decide) (fun _ => ?_) (fun c_1 => False.elim (by revert c_1; decide))
  refine lv_iload_n hx hb dL_of_13 rfl (lv_at hl 1 rfl) ?_
  refine lv_iconst (v := nI 1) hx hb dL_of_14 (by decide) ?_
  refine lv_icmp_ne (tgt := 27) hx hb dL_of_15 (by decide) (fun _ => ?_) (fun c_2 => False.elim (by revert c_2; decide))
  refine lv_iload_n hx hb dL_of_27 rfl (lv_at hl 1 rfl) ?_
  refine lv_iconst (v := nI 2) hx hb dL_of_28 (by decide) ?_
  refine lv_icmp_ne (tgt := 41) hx hb dL_of_29 (by decide) (fun _ => ?_) (fun c_3 => False.elim (by revert c_3; decide))
  refine lv_iload_n hx hb dL_of_41 rfl (lv_at hl 1 rfl) ?_
  refine lv_iconst (v := nI 3) hx hb dL_of_42 (by decide) ?_
  refine lv_icmp_ne (tgt := 55) hx hb dL_of_43 (by decide) (fun _ => ?_) (fun c_4 => False.elim (by revert c_4; decide))
  refine lv_iload_n hx hb dL_of_55 rfl (lv_at hl 1 rfl) ?_
  refine lv_iconst (v := nI 4) hx hb dL_of_56 (by decide) ?_
  refine lv_icmp_ne (tgt := 68) hx hb dL_of_57 (by decide) (fun _ => ?_) (fun c_5 => False.elim (by revert c_5; decide))
  refine lv_iload_n hx hb dL_of_68 rfl (lv_at hl 1 rfl) ?_
  refine lv_iconst (v := nI 5) hx hb dL_of_69 (by decide) ?_
  refine lv_icmp_ne (tgt := 81) hx hb dL_of_70 (by decide) (fun _ => ?_) (fun c_6 => False.elim (by revert c_6; decide))
  refine lv_iload_n hx hb dL_of_81 rfl (lv_at hl 1 rfl) ?_
  refine lv_bipush (v := nI 6) hx hb dL_of_82 (by decide) ?_
  refine lv_icmp_ne (tgt := 95) hx hb dL_of_84 (by decide) (fun _ => ?_) (fun c_7 => False.elim (by revert c_7; decide))
  refine lv_iload_n hx hb dL_of_95 rfl (lv_at hl 1 rfl) ?_
  refine lv_bipush (v := nI 7) hx hb dL_of_96 (by decide) ?_
  refine lv_icmp_ne (tgt := 109) hx hb dL_of_98 (by decide) (fun c_8 => False.elim (by revert c_8; decide)) (fun _ => ?_)
  refine lv_aload_n hx hb dL_of_101 rfl (lv_at hl 0 rfl) ?_
  refine lv_iload_n hx hb dL_of_102 rfl (lv_at hl 2 rfl) ?_
  refine zx_i (vx_runV (As := [.int (p0)]) (rest := []) ⟨hx, hb, hml, hown, hts⟩ (p0_worstMonth l hfl hI p0) (cwV 1 hts gL_of_X0_worstMonth rfl rfl rfl (by decide +kernel) (by decide)) (pv0X (s0 := s.heap) hK (wxP_c hn hP) hX.1 (fun a _ _ => rfl)) rfl rfl hl.1 rfl (lv_room (Nat.le_of_ble_eq_true rfl)) dL_of_103 (by decide)) (fun {E ce q9 H1} hp hz hk hce hcv hcl => ?_) (fun r hp => ?_)
  · have hS1 : va_S (zA z0) s.heap H1 [] := ⟨hz, fun q h1 _ => hk q h1, fun q h => by cases h⟩
    obtain ⟨rfl, hcd⟩ := hp
    refine vx_catch (own := RL) (name := eI) (E := eI) (ce := ce) hown [] ⟨0, 114, 115, 51⟩ [] (htab.trans rfl) (fun z hz => by cases hz) (by decide) (by decide) (hts (.classLink RL 51 eI) (by decide +kernel)) hX.1.ci hce hcv hcl ?_
    refine lv_astore (lv' := [(4, .ref q9), (0, .ref (ad 0)), (1, .int (nI (7))), (2, .int (p0)), (3, .int (p1))]) hx hb dL_of_115 hl (by decide) rfl (fun ls hl => ?_)
    refine lv_bipush (v := (-101)) hx hb dL_of_117 (by decide) ?_
    exact hret (u := (ts, pu)) (by decide) (by decide) ⟨(rsc_1 hcd).symm, hT⟩ hS1 (fun t ht hA => ⟨va_K.moved hA hK, by rw [ht]; exact wz_old hP hk⟩) dL_of_119
  · obtain ⟨hg, rfl⟩ := hp
    have hcd : cd1 (ixB p0 (M 5 0)) = 0 := cd1_t hg
    have hP1 := hP
    refine lv_goto (tgt := 114) hx hb dL_of_106 (by decide) ?_
    exact hret (u := (ts, pu)) (by decide) (by decide) ⟨(rsc_0 hcd).symm, hT⟩ hS0 (fun t ht hA => ⟨va_K.moved hA hK, by rw [ht]; exact hP1⟩) dL_of_114
set_option maxHeartbeats 4000000 in
set_option maxRecDepth 100000 in
/-- of: over -/
theorem q_of8 (l : Launch) (hfl : l.stackTraces = false) {D : va_G} {n : Nat} {ad : Nat → Nat} {cI cJ cQ : ClassId} {M K : Mdl} {ts : Nat → Nat} {pu : Nat → Int64} {X : Nat → va_E} {sa : Nat → Nat} {sz z0 : Nat} (hI : Inv M) (hn : 37 ≤ n) (hnd : ndz n ad) (hAd : ∀ i, i < n → zA z0 (ad i)) (hz0 : z0 ≤ sz) (hT : hTs M ts) (p0 p1 : Int32) : vx_Met l yL_of wsL_of (rmX 3 1) (va_Pc [.ref (ad 0), .int (nI (8)), .int (p0), .int (p1)] (KV D n ad cI cJ cQ (wxE ad cI cJ cQ M ts pu K X) sa (zA z0) sz)) (va_Qi (fun r_ (u_ : (Nat → Nat) × (Nat → Int64)) => r_ = rsc (cd1 (ixB p0 (M 5 0))) (nI (ovr M (clN p0))) ∧ hTs M u_.1) (fun (u_ : (Nat → Nat) × (Nat → Int64)) t_ => KA D n ad cI cJ cQ (wxE ad cI cJ cQ M u_.1 u_.2 K X) t_) (zA z0)) (fun _ _ _ => False) 1 6 (zA z0) := by
  refine mkL_Qi (S := (Nat → Nat) × (Nat → Int64)) (post := fun r_ (u_ : (Nat → Nat) × (Nat → Int64)) => r_ = rsc (cd1 (ixB p0 (M 5 0))) (nI (ovr M (clN p0))) ∧ hTs M u_.1) (BQ := fun (u_ : (Nat → Nat) × (Nat → Int64)) t_ => KA D n ad cI cJ cQ (wxE ad cI cJ cQ M u_.1 u_.2 K X) t_) (cc := cL_of) (maxL := 5) (hh := [(0, 114, 115, 51)]) (by decide) rfl (Nat.le_of_ble_eq_true rfl) ?_
  intro p e s m args below meth c Q C0 htab B0 hret ls hl
  obtain ⟨hx, hb, hr, hml, hown, hts, hlocks⟩ := C0
  have hown : s.vm.findClass RL = some m.cls := hown
  obtain ⟨hsz, hX, hK, hP⟩ := B0
  subst hsz
  have hl : lv_has ls 5 [(0, .ref (ad 0)), (1, .int (nI (8))), (2, .int (p0)), (3, .int (p1))] := hl
  have hndc : ndz 27 ad := fun i j hi hj h => hnd i j (by omega) (by omega) h
  have hS0 : va_S (zA z0) s.heap s.heap [] := va_S.rf
  refine lv_iload_n hx hb dL_of_0 rfl (lv_at hl 1 rfl) ?_
  refine lv_if_ne (tgt := 13) hx hb dL_of_1 (by decide) (fun _ => ?_) (fun c_1 => False.elim (by revert c_1; decide))
  refine lv_iload_n hx hb dL_of_13 rfl (lv_at hl 1 rfl) ?_
  refine lv_iconst (v := nI 1) hx hb dL_of_14 (by decide) ?_
  refine lv_icmp_ne (tgt := 27) hx hb dL_of_15 (by decide) (fun _ => ?_) (fun c_2 => False.elim (by revert c_2; decide))
  refine lv_iload_n hx hb dL_of_27 rfl (lv_at hl 1 rfl) ?_
  refine lv_iconst (v := nI 2) hx hb dL_of_28 (by decide) ?_
  refine lv_icmp_ne (tgt := 41) hx hb dL_of_29 (by decide) (fun _ => ?_) (fun c_3 => False.elim (by revert c_3; decide))
  refine lv_iload_n hx hb dL_of_41 rfl (lv_at hl 1 rfl) ?_
  refine lv_iconst (v := nI 3) hx hb dL_of_42 (by decide) ?_
  refine lv_icmp_ne (tgt := 55) hx hb dL_of_43 (by decide) (fun _ => ?_) (fun c_4 => False.elim (by revert c_4; decide))
  refine lv_iload_n hx hb dL_of_55 rfl (lv_at hl 1 rfl) ?_
  refine lv_iconst (v := nI 4) hx hb dL_of_56 (by decide) ?_
  refine lv_icmp_ne (tgt := 68) hx hb dL_of_57 (by decide) (fun _ => ?_) (fun c_5 => False.elim (by revert c_5; decide))
  refine lv_iload_n hx hb dL_of_68 rfl (lv_at hl 1 rfl) ?_
  refine lv_iconst (v := nI 5) hx hb dL_of_69 (by decide) ?_
  refine lv_icmp_ne (tgt := 81) hx hb dL_of_70 (by decide) (fun _ => ?_) (fun c_6 => False.elim (by revert c_6; decide))
  refine lv_iload_n hx hb dL_of_81 rfl (lv_at hl 1 rfl) ?_
  refine lv_bipush (v := nI 6) hx hb dL_of_82 (by decide) ?_
  refine lv_icmp_ne (tgt := 95) hx hb dL_of_84 (by decide) (fun _ => ?_) (fun c_7 => False.elim (by revert c_7; decide))
  refine lv_iload_n hx hb dL_of_95 rfl (lv_at hl 1 rfl) ?_
  refine lv_bipush (v := nI 7) hx hb dL_of_96 (by decide) ?_
  refine lv_icmp_ne (tgt := 109) hx hb dL_of_98 (by decide) (fun _ => ?_) (fun c_8 => False.elim (by revert c_8; decide))
  refine lv_aload_n hx hb dL_of_109 rfl (lv_at hl 0 rfl) ?_
  refine lv_iload_n hx hb dL_of_110 rfl (lv_at hl 2 rfl) ?_
  refine zx_i (vx_runV (As := [.int (p0)]) (rest := []) ⟨hx, hb, hml, hown, hts⟩ (p0_over l hfl hI p0) (cwV 1 hts gL_of_X0_over rfl rfl rfl (by decide +kernel) (by decide)) (pv0X (s0 := s.heap) hK (wxP_c hn hP) hX.1 (fun a _ _ => rfl)) rfl rfl hl.1 rfl (lv_room (Nat.le_of_ble_eq_true rfl)) dL_of_111 (by decide)) (fun {E ce q9 H1} hp hz hk hce hcv hcl => ?_) (fun r hp => ?_)
  · have hS1 : va_S (zA z0) s.heap H1 [] := ⟨hz, fun q h1 _ => hk q h1, fun q h => by cases h⟩
    obtain ⟨rfl, hcd⟩ := hp
    refine vx_catch (own := RL) (name := eI) (E := eI) (ce := ce) hown [] ⟨0, 114, 115, 51⟩ [] (htab.trans rfl) (fun z hz => by cases hz) (by decide) (by decide) (hts (.classLink RL 51 eI) (by decide +kernel)) hX.1.ci hce hcv hcl ?_
    refine lv_astore (lv' := [(4, .ref q9), (0, .ref (ad 0)), (1, .int (nI (8))), (2, .int (p0)), (3, .int (p1))]) hx hb dL_of_115 hl (by decide) rfl (fun ls hl => ?_)
    refine lv_bipush (v := (-101)) hx hb dL_of_117 (by decide) ?_
    exact hret (u := (ts, pu)) (by decide) (by decide) ⟨(rsc_1 hcd).symm, hT⟩ hS1 (fun t ht hA => ⟨va_K.moved hA hK, by rw [ht]; exact wz_old hP hk⟩) dL_of_119
  · obtain ⟨hg, rfl⟩ := hp
    have hcd : cd1 (ixB p0 (M 5 0)) = 0 := cd1_t hg
    have hP1 := hP
    exact hret (u := (ts, pu)) (by decide) (by decide) ⟨(rsc_0 hcd).symm, hT⟩ hS0 (fun t ht hA => ⟨va_K.moved hA hK, by rw [ht]; exact hP1⟩) dL_of_114
set_option maxHeartbeats 4000000 in
set_option maxRecDepth 100000 in
/-- down: drawdown -/
theorem q_down0 (l : Launch) (hfl : l.stackTraces = false) {D : va_G} {n : Nat} {ad : Nat → Nat} {cI cJ cQ : ClassId} {M K : Mdl} {ts : Nat → Nat} {pu : Nat → Int64} {X : Nat → va_E} {sa : Nat → Nat} {sz z0 : Nat} (hI : Inv M) (hn : 37 ≤ n) (hnd : ndz n ad) (hAd : ∀ i, i < n → zA z0 (ad i)) (hz0 : z0 ≤ sz) (hT : hTs M ts) (p0 p1 : Int32) : vx_Met l yL_down wsL_down (rmX 3 2) (va_Pc [.ref (ad 0), .int (nI (0)), .int (p0), .int (p1)] (KV D n ad cI cJ cQ (wxE ad cI cJ cQ M ts pu K X) sa (zA z0) sz)) (va_Ql (fun r_ (u_ : (Nat → Nat) × (Nat → Int64)) => r_ = rsl (cd1 (ixB p0 (M 5 0) && ixB p1 36)) (lN (dd M (clN p0) (clN p1))) ∧ hTs M u_.1) (fun (u_ : (Nat → Nat) × (Nat → Int64)) t_ => KA D n ad cI cJ cQ (wxE ad cI cJ cQ M u_.1 u_.2 K X) t_) (zA z0)) (fun _ _ _ => False) 2 12 (zA z0) := by
  refine mkL_Ql (S := (Nat → Nat) × (Nat → Int64)) (post := fun r_ (u_ : (Nat → Nat) × (Nat → Int64)) => r_ = rsl (cd1 (ixB p0 (M 5 0) && ixB p1 36)) (lN (dd M (clN p0) (clN p1))) ∧ hTs M u_.1) (BQ := fun (u_ : (Nat → Nat) × (Nat → Int64)) t_ => KA D n ad cI cJ cQ (wxE ad cI cJ cQ M u_.1 u_.2 K X) t_) (cc := cL_down) (maxL := 5) (hh := [(0, 32, 33, 51)]) (by decide) rfl (Nat.le_of_ble_eq_true rfl) ?_
  intro p e s m args below meth c Q C0 htab B0 hret ls hl
  obtain ⟨hx, hb, hr, hml, hown, hts, hlocks⟩ := C0
  have hown : s.vm.findClass RL = some m.cls := hown
  obtain ⟨hsz, hX, hK, hP⟩ := B0
  subst hsz
  have hl : lv_has ls 5 [(0, .ref (ad 0)), (1, .int (nI (0))), (2, .int (p0)), (3, .int (p1))] := hl
  have hndc : ndz 27 ad := fun i j hi hj h => hnd i j (by omega) (by omega) h
  have hS0 : va_S (zA z0) s.heap s.heap [] := va_S.rf
  refine lv_iload_n hx hb dL_down_0 rfl (lv_at hl 1 rfl) ?_
  refine lv_if_ne (tgt := 13) hx hb dL_down_1 (by decide) (fun c_1 => False.elim (by revert c_1; decide)) (fun _ => ?_)
  refine lv_aload_n hx hb dL_down_4 rfl (lv_at hl 0 rfl) ?_
  refine lv_iload_n hx hb dL_down_5 rfl (lv_at hl 2 rfl) ?_
  refine lv_iload_n hx hb dL_down_6 rfl (lv_at hl 3 rfl) ?_
  refine zx_l (vx_runV (As := [.int (p0), .int (p1)]) (rest := []) ⟨hx, hb, hml, hown, hts⟩ (p0_drawdown l hfl hI p0 p1) (cwV 2 hts gL_down_X0_drawdown rfl rfl rfl (by decide +kernel) (by decide)) (pv0X (s0 := s.heap) hK (wxP_c hn hP) hX.1 (fun a _ _ => rfl)) rfl rfl hl.1 rfl (lv_room (Nat.le_of_ble_eq_true rfl)) dL_down_7 (by decide)) (fun {E ce q9 H1} hp hz hk hce hcv hcl => ?_) (fun r hp => ?_)
  · have hS1 : va_S (zA z0) s.heap H1 [] := ⟨hz, fun q h1 _ => hk q h1, fun q h => by cases h⟩
    obtain ⟨rfl, hcd⟩ := hp
    refine vx_catch (own := RL) (name := eI) (E := eI) (ce := ce) hown [] ⟨0, 32, 33, 51⟩ [] (htab.trans rfl) (fun z hz => by cases hz) (by decide) (by decide) (hts (.classLink RL 51 eI) (by decide +kernel)) hX.1.ci hce hcv hcl ?_
    refine lv_astore (lv' := [(4, .ref q9), (0, .ref (ad 0)), (1, .int (nI (0))), (2, .int (p0)), (3, .int (p1))]) hx hb dL_down_33 hl (by decide) rfl (fun ls hl => ?_)
    refine lv_ldc2 (own := RL) (v := (-101)) hx hb hown (hts (.constantLong RL 91 (-101)) (by decide +kernel)) dL_down_35 ?_
    exact hret (u := (ts, pu)) (by decide) (by decide) ⟨(rsl_1 hcd).symm, hT⟩ hS1 (fun t ht hA => ⟨va_K.moved hA hK, by rw [ht]; exact wz_old hP hk⟩) dL_down_38
  · obtain ⟨hg, rfl⟩ := hp
    have hcd : cd1 (ixB p0 (M 5 0) && ixB p1 36) = 0 := cd1_t hg
    have hP1 := hP
    refine lv_goto (tgt := 32) hx hb dL_down_10 (by decide) ?_
    exact hret (u := (ts, pu)) (by decide) (by decide) ⟨(rsl_0 hcd).symm, hT⟩ hS0 (fun t ht hA => ⟨va_K.moved hA hK, by rw [ht]; exact hP1⟩) dL_down_32
set_option maxHeartbeats 4000000 in
set_option maxRecDepth 100000 in
/-- down: drawdownByPulses -/
theorem q_down1 (l : Launch) (hfl : l.stackTraces = false) {D : va_G} {n : Nat} {ad : Nat → Nat} {cI cJ cQ : ClassId} {M K : Mdl} {ts : Nat → Nat} {pu : Nat → Int64} {X : Nat → va_E} {sa : Nat → Nat} {sz z0 : Nat} (hI : Inv M) (hn : 37 ≤ n) (hnd : ndz n ad) (hAd : ∀ i, i < n → zA z0 (ad i)) (hz0 : z0 ≤ sz) (hT : hTs M ts) (p0 p1 : Int32) : vx_Met l yL_down wsL_down (rmX 3 2) (va_Pc [.ref (ad 0), .int (nI (1)), .int (p0), .int (p1)] (KV D n ad cI cJ cQ (wxE ad cI cJ cQ M ts pu K X) sa (zA z0) sz)) (va_Ql (fun r_ (u_ : (Nat → Nat) × (Nat → Int64)) => r_ = rsl (cd1 (ixB p0 (M 5 0) && ixB p1 36)) (lN (dd M (clN p0) (clN p1))) ∧ hTs M u_.1) (fun (u_ : (Nat → Nat) × (Nat → Int64)) t_ => KA D n ad cI cJ cQ (wxE ad cI cJ cQ M u_.1 u_.2 K X) t_) (zA z0)) (fun _ _ _ => False) 2 12 (zA z0) := by
  refine mkL_Ql (S := (Nat → Nat) × (Nat → Int64)) (post := fun r_ (u_ : (Nat → Nat) × (Nat → Int64)) => r_ = rsl (cd1 (ixB p0 (M 5 0) && ixB p1 36)) (lN (dd M (clN p0) (clN p1))) ∧ hTs M u_.1) (BQ := fun (u_ : (Nat → Nat) × (Nat → Int64)) t_ => KA D n ad cI cJ cQ (wxE ad cI cJ cQ M u_.1 u_.2 K X) t_) (cc := cL_down) (maxL := 5) (hh := [(0, 32, 33, 51)]) (by decide) rfl (Nat.le_of_ble_eq_true rfl) ?_
  intro p e s m args below meth c Q C0 htab B0 hret ls hl
  obtain ⟨hx, hb, hr, hml, hown, hts, hlocks⟩ := C0
  have hown : s.vm.findClass RL = some m.cls := hown
  obtain ⟨hsz, hX, hK, hP⟩ := B0
  subst hsz
  have hl : lv_has ls 5 [(0, .ref (ad 0)), (1, .int (nI (1))), (2, .int (p0)), (3, .int (p1))] := hl
  have hndc : ndz 27 ad := fun i j hi hj h => hnd i j (by omega) (by omega) h
  have hS0 : va_S (zA z0) s.heap s.heap [] := va_S.rf
  refine lv_iload_n hx hb dL_down_0 rfl (lv_at hl 1 rfl) ?_
  refine lv_if_ne (tgt := 13) hx hb dL_down_1 (by decide) (fun _ => ?_) (fun c_1 => False.elim (by revert c_1; decide))
  refine lv_iload_n hx hb dL_down_13 rfl (lv_at hl 1 rfl) ?_
  refine lv_iconst (v := nI 1) hx hb dL_down_14 (by decide) ?_
  refine lv_icmp_ne (tgt := 27) hx hb dL_down_15 (by decide) (fun c_2 => False.elim (by revert c_2; decide)) (fun _ => ?_)
  refine lv_aload_n hx hb dL_down_18 rfl (lv_at hl 0 rfl) ?_
  refine lv_iload_n hx hb dL_down_19 rfl (lv_at hl 2 rfl) ?_
  refine lv_iload_n hx hb dL_down_20 rfl (lv_at hl 3 rfl) ?_
  refine zx_wl (A0 := zA z0) (H0 := s.heap) (vx_runV (As := [.int (p0), .int (p1)]) (rest := []) ⟨hx, hb, hml, hown, hts⟩ (p0_drawdownByPulses l hfl hI hndc p0 p1) (cwV 2 hts gL_down_X0_drawdownByPulses rfl rfl rfl (by decide +kernel) (by decide)) (pv0X (s0 := s.heap) hK (wxP_c hn hP) hX.1 (fun a _ _ => rfl)) rfl rfl hl.1 rfl (lv_room (Nat.le_of_ble_eq_true rfl)) dL_down_21 (by decide)) hS0 (fun q _ h => azs_z hn hAd hz0 h) (fun q h => azs_z hn hAd hz0 h) (fun {E ce q9 H1 locs1} hp hz hk hS1 hce hcv hcl => ?_) (fun r u t H1 locs1 ht9 hv hp hB hz hk hS1 => ?_)
  · have hz9 := hz
    obtain ⟨rfl, hcd⟩ := hp
    refine vx_catch (own := RL) (name := eI) (E := eI) (ce := ce) hown [] ⟨0, 32, 33, 51⟩ [] (htab.trans rfl) (fun z hz => by cases hz) (by decide) (by decide) (hts (.classLink RL 51 eI) (by decide +kernel)) hX.1.ci hce hcv hcl ?_
    refine lv_astore (lv' := [(4, .ref q9), (0, .ref (ad 0)), (1, .int (nI (1))), (2, .int (p0)), (3, .int (p1))]) hx hb dL_down_33 hl (by decide) rfl (fun ls hl => ?_)
    refine lv_ldc2 (own := RL) (v := (-101)) hx hb hown (hts (.constantLong RL 91 (-101)) (by decide +kernel)) dL_down_35 ?_
    exact hret (u := (ts, pu)) (by decide) (by decide) ⟨(rsl_1 hcd).symm, hT⟩ hS1 (fun t ht hA => ⟨va_K.moved hA hK, by rw [ht]; exact wz_old hP hk⟩) dL_down_38
  · obtain ⟨hg, rfl⟩ := hp
    have hcd : cd1 (ixB p0 (M 5 0) && ixB p1 36) = 0 := cd1_t hg
    have hP1 := wxP_next hn hP hnd hk (by rw [← ht9]; exact hB.2)
    refine lv_goto (tgt := 32) hx hb dL_down_24 (by decide) ?_
    exact hret (u := (ts, u)) (by decide) (by decide) ⟨(rsl_0 hcd).symm, hT⟩ hS1 (fun t ht hA => ⟨va_K.moved hA hK, by rw [ht]; exact hP1⟩) dL_down_32
set_option maxHeartbeats 4000000 in
set_option maxRecDepth 100000 in
/-- down: burden -/
theorem q_down2 (l : Launch) (hfl : l.stackTraces = false) {D : va_G} {n : Nat} {ad : Nat → Nat} {cI cJ cQ : ClassId} {M K : Mdl} {ts : Nat → Nat} {pu : Nat → Int64} {X : Nat → va_E} {sa : Nat → Nat} {sz z0 : Nat} (hI : Inv M) (hn : 37 ≤ n) (hnd : ndz n ad) (hAd : ∀ i, i < n → zA z0 (ad i)) (hz0 : z0 ≤ sz) (hT : hTs M ts) (p0 p1 : Int32) : vx_Met l yL_down wsL_down (rmX 3 1) (va_Pc [.ref (ad 0), .int (nI (2)), .int (p0), .int (p1)] (KV D n ad cI cJ cQ (wxE ad cI cJ cQ M ts pu K X) sa (zA z0) sz)) (va_Ql (fun r_ (u_ : (Nat → Nat) × (Nat → Int64)) => r_ = rsl (cd1 (ixB p0 (M 5 0))) (lN (bud M (clN p0))) ∧ hTs M u_.1) (fun (u_ : (Nat → Nat) × (Nat → Int64)) t_ => KA D n ad cI cJ cQ (wxE ad cI cJ cQ M u_.1 u_.2 K X) t_) (zA z0)) (fun _ _ _ => False) 1 6 (zA z0) := by
  refine mkL_Ql (S := (Nat → Nat) × (Nat → Int64)) (post := fun r_ (u_ : (Nat → Nat) × (Nat → Int64)) => r_ = rsl (cd1 (ixB p0 (M 5 0))) (lN (bud M (clN p0))) ∧ hTs M u_.1) (BQ := fun (u_ : (Nat → Nat) × (Nat → Int64)) t_ => KA D n ad cI cJ cQ (wxE ad cI cJ cQ M u_.1 u_.2 K X) t_) (cc := cL_down) (maxL := 5) (hh := [(0, 32, 33, 51)]) (by decide) rfl (Nat.le_of_ble_eq_true rfl) ?_
  intro p e s m args below meth c Q C0 htab B0 hret ls hl
  obtain ⟨hx, hb, hr, hml, hown, hts, hlocks⟩ := C0
  have hown : s.vm.findClass RL = some m.cls := hown
  obtain ⟨hsz, hX, hK, hP⟩ := B0
  subst hsz
  have hl : lv_has ls 5 [(0, .ref (ad 0)), (1, .int (nI (2))), (2, .int (p0)), (3, .int (p1))] := hl
  have hndc : ndz 27 ad := fun i j hi hj h => hnd i j (by omega) (by omega) h
  have hS0 : va_S (zA z0) s.heap s.heap [] := va_S.rf
  refine lv_iload_n hx hb dL_down_0 rfl (lv_at hl 1 rfl) ?_
  refine lv_if_ne (tgt := 13) hx hb dL_down_1 (by decide) (fun _ => ?_) (fun c_1 => False.elim (by revert c_1; decide))
  refine lv_iload_n hx hb dL_down_13 rfl (lv_at hl 1 rfl) ?_
  refine lv_iconst (v := nI 1) hx hb dL_down_14 (by decide) ?_
  refine lv_icmp_ne (tgt := 27) hx hb dL_down_15 (by decide) (fun _ => ?_) (fun c_2 => False.elim (by revert c_2; decide))
  refine lv_aload_n hx hb dL_down_27 rfl (lv_at hl 0 rfl) ?_
  refine lv_iload_n hx hb dL_down_28 rfl (lv_at hl 2 rfl) ?_
  refine zx_l (vx_runV (As := [.int (p0)]) (rest := []) ⟨hx, hb, hml, hown, hts⟩ (p0_burden l hfl hI hT p0) (cwV 1 hts gL_down_X0_burden rfl rfl rfl (by decide +kernel) (by decide)) (pv0X (s0 := s.heap) hK (wxP_c hn hP) hX.1 (fun a _ _ => rfl)) rfl rfl hl.1 rfl (lv_room (Nat.le_of_ble_eq_true rfl)) dL_down_29 (by decide)) (fun {E ce q9 H1} hp hz hk hce hcv hcl => ?_) (fun r hp => ?_)
  · have hS1 : va_S (zA z0) s.heap H1 [] := ⟨hz, fun q h1 _ => hk q h1, fun q h => by cases h⟩
    obtain ⟨rfl, hcd⟩ := hp
    refine vx_catch (own := RL) (name := eI) (E := eI) (ce := ce) hown [] ⟨0, 32, 33, 51⟩ [] (htab.trans rfl) (fun z hz => by cases hz) (by decide) (by decide) (hts (.classLink RL 51 eI) (by decide +kernel)) hX.1.ci hce hcv hcl ?_
    refine lv_astore (lv' := [(4, .ref q9), (0, .ref (ad 0)), (1, .int (nI (2))), (2, .int (p0)), (3, .int (p1))]) hx hb dL_down_33 hl (by decide) rfl (fun ls hl => ?_)
    refine lv_ldc2 (own := RL) (v := (-101)) hx hb hown (hts (.constantLong RL 91 (-101)) (by decide +kernel)) dL_down_35 ?_
    exact hret (u := (ts, pu)) (by decide) (by decide) ⟨(rsl_1 hcd).symm, hT⟩ hS1 (fun t ht hA => ⟨va_K.moved hA hK, by rw [ht]; exact wz_old hP hk⟩) dL_down_38
  · obtain ⟨hg, rfl⟩ := hp
    have hcd : cd1 (ixB p0 (M 5 0)) = 0 := cd1_t hg
    have hP1 := hP
    exact hret (u := (ts, pu)) (by decide) (by decide) ⟨(rsl_0 hcd).symm, hT⟩ hS0 (fun t ht hA => ⟨va_K.moved hA hK, by rw [ht]; exact hP1⟩) dL_down_32
set_option maxHeartbeats 4000000 in
set_option maxRecDepth 100000 in
/-- traded: trade -/
theorem q_traded (l : Launch) (hfl : l.stackTraces = false) {D : va_G} {n : Nat} {ad : Nat → Nat} {cI cJ cQ : ClassId} {M K : Mdl} {ts : Nat → Nat} {pu : Nat → Int64} {X : Nat → va_E} {sa : Nat → Nat} {sz z0 : Nat} (hI : Inv M) (hn : 37 ≤ n) (hnd : ndz n ad) (hAd : ∀ i, i < n → zA z0 (ad i)) (hz0 : z0 ≤ sz) (hT : hTs M ts) (p0 p1 p2 : Int32) : vx_Met l yL_traded wsL_traded (rmX 3 5) (va_Pc [.ref (ad 0), .int (p0), .int (p1), .int (p2)] (KV D n ad cI cJ cQ (wxE ad cI cJ cQ M ts pu K X) sa (zA z0) sz)) (va_Qi (fun r_ (u_ : (Nat → Nat) × (Nat → Int64)) => r_ = rsc (cd3 (ixB p0 (M 0 0) && ixB p1 (M 0 0)) (decide (p0 ≠ p1) && rgB p2 (nI 1) (nI 5000)) (cn M (clN p0) (clN p1) (clN p2))) (nI (gt M (clN p0) (clN p1) (clN p2))) ∧ hTs (moC (cd3 (ixB p0 (M 0 0) && ixB p1 (M 0 0)) (decide (p0 ≠ p1) && rgB p2 (nI 1) (nI 5000)) (cn M (clN p0) (clN p1) (clN p2))) (nx_trade M (clN p0) (clN p1) (clN p2)) M) u_.1) (fun (u_ : (Nat → Nat) × (Nat → Int64)) t_ => KA D n ad cI cJ cQ (wxE ad cI cJ cQ (moC (cd3 (ixB p0 (M 0 0) && ixB p1 (M 0 0)) (decide (p0 ≠ p1) && rgB p2 (nI 1) (nI 5000)) (cn M (clN p0) (clN p1) (clN p2))) (nx_trade M (clN p0) (clN p1) (clN p2)) M) u_.1 u_.2 K X) t_) (zA z0)) (fun _ _ _ => False) 5 30 (zA z0) := by
  refine mkL_Qi (S := (Nat → Nat) × (Nat → Int64)) (post := fun r_ (u_ : (Nat → Nat) × (Nat → Int64)) => r_ = rsc (cd3 (ixB p0 (M 0 0) && ixB p1 (M 0 0)) (decide (p0 ≠ p1) && rgB p2 (nI 1) (nI 5000)) (cn M (clN p0) (clN p1) (clN p2))) (nI (gt M (clN p0) (clN p1) (clN p2))) ∧ hTs (moC (cd3 (ixB p0 (M 0 0) && ixB p1 (M 0 0)) (decide (p0 ≠ p1) && rgB p2 (nI 1) (nI 5000)) (cn M (clN p0) (clN p1) (clN p2))) (nx_trade M (clN p0) (clN p1) (clN p2)) M) u_.1) (BQ := fun (u_ : (Nat → Nat) × (Nat → Int64)) t_ => KA D n ad cI cJ cQ (wxE ad cI cJ cQ (moC (cd3 (ixB p0 (M 0 0) && ixB p1 (M 0 0)) (decide (p0 ≠ p1) && rgB p2 (nI 1) (nI 5000)) (cn M (clN p0) (clN p1) (clN p2))) (nx_trade M (clN p0) (clN p1) (clN p2)) M) u_.1 u_.2 K X) t_) (cc := cL_traded) (maxL := 5) (hh := [(0, 7, 8, 51), (0, 7, 13, 33), (0, 7, 18, 96)]) (by decide) rfl (Nat.le_of_ble_eq_true rfl) ?_
  intro p e s m args below meth c Q C0 htab B0 hret ls hl
  obtain ⟨hx, hb, hr, hml, hown, hts, hlocks⟩ := C0
  have hown : s.vm.findClass RL = some m.cls := hown
  obtain ⟨hsz, hX, hK, hP⟩ := B0
  subst hsz
  have hl : lv_has ls 5 [(0, .ref (ad 0)), (1, .int (p0)), (2, .int (p1)), (3, .int (p2))] := hl
  have hndc : ndz 27 ad := fun i j hi hj h => hnd i j (by omega) (by omega) h
  have hS0 : va_S (zA z0) s.heap s.heap [] := va_S.rf
  refine lv_aload_n hx hb dL_traded_0 rfl (lv_at hl 0 rfl) ?_
  refine lv_iload_n hx hb dL_traded_1 rfl (lv_at hl 1 rfl) ?_
  refine lv_iload_n hx hb dL_traded_2 rfl (lv_at hl 2 rfl) ?_
  refine lv_iload_n hx hb dL_traded_3 rfl (lv_at hl 3 rfl) ?_
  refine zx_wi (A0 := zA z0) (H0 := s.heap) (vx_runV (As := [.int (p0), .int (p1), .int (p2)]) (rest := []) ⟨hx, hb, hml, hown, hts⟩ (p0_trade l hfl hI hndc hT p0 p1 p2) (cwV 3 hts gL_traded_X0_trade rfl rfl rfl (by decide +kernel) (by decide)) (pv0X (s0 := s.heap) hK (wxP_c hn hP) hX.1 (fun a _ _ => rfl)) rfl rfl hl.1 rfl (lv_room (Nat.le_of_ble_eq_true rfl)) dL_traded_4 (by decide)) hS0 (fun q _ h => azs_z hn hAd hz0 h) (fun q h => azs_z hn hAd hz0 h) (fun {E ce q9 H1 locs1} hp hz hk hS1 hce hcv hcl => ?_) (fun r u t H1 locs1 ht9 hv hp hB hz hk hS1 => ?_)
  · have hz9 := hz
    rcases hp with ⟨rfl, hcd⟩ | ⟨rfl, hcd⟩ | ⟨rfl, hcd⟩
    · refine vx_catch (own := RL) (name := eI) (E := eI) (ce := ce) hown [] ⟨0, 7, 8, 51⟩ [⟨0, 7, 13, 33⟩, ⟨0, 7, 18, 96⟩] (htab.trans rfl) (fun z hz => by cases hz) (by decide) (by decide) (hts (.classLink RL 51 eI) (by decide +kernel)) hX.1.ci hce hcv hcl ?_
      refine lv_astore (lv' := [(4, .ref q9), (0, .ref (ad 0)), (1, .int (p0)), (2, .int (p1)), (3, .int (p2))]) hx hb dL_traded_8 hl (by decide) rfl (fun ls hl => ?_)
      refine lv_bipush (v := (-101)) hx hb dL_traded_10 (by decide) ?_
      have eM : (moC (cd3 (ixB p0 (M 0 0) && ixB p1 (M 0 0)) (decide (p0 ≠ p1) && rgB p2 (nI 1) (nI 5000)) (cn M (clN p0) (clN p1) (clN p2))) (nx_trade M (clN p0) (clN p1) (clN p2)) M) = M := moC_n (by rw [hcd]; decide)
      exact hret (u := (ts, pu)) (by decide) (by decide) ⟨(rsc_1 hcd).symm, by rw [eM]; exact hT⟩ hS1 (fun t ht hA => by rw [eM]; exact ⟨va_K.moved hA hK, by rw [ht]; exact wz_old hP hk⟩) dL_traded_12
    · refine vx_catch (own := RL) (name := eA) (E := eA) (ce := ce) hown [⟨0, 7, 8, 51⟩] ⟨0, 7, 13, 33⟩ [⟨0, 7, 18, 96⟩] (htab.trans rfl) (fun z hz => by cases List.mem_singleton.mp hz; exact Or.inr ⟨by decide, _, hts (.classLink RL 51 eI) (by decide +kernel), hX.2.2.1⟩) (by decide) (by decide) (hts (.classLink RL 33 eA) (by decide +kernel)) hX.1.ca hce hcv hcl ?_
      refine lv_astore (lv' := [(4, .ref q9), (0, .ref (ad 0)), (1, .int (p0)), (2, .int (p1)), (3, .int (p2))]) hx hb dL_traded_13 hl (by decide) rfl (fun ls hl => ?_)
      refine lv_bipush (v := (-102)) hx hb dL_traded_15 (by decide) ?_
      have eM : (moC (cd3 (ixB p0 (M 0 0) && ixB p1 (M 0 0)) (decide (p0 ≠ p1) && rgB p2 (nI 1) (nI 5000)) (cn M (clN p0) (clN p1) (clN p2))) (nx_trade M (clN p0) (clN p1) (clN p2)) M) = M := moC_n (by rw [hcd]; decide)
      exact hret (u := (ts, pu)) (by decide) (by decide) ⟨(rsc_2 hcd).symm, by rw [eM]; exact hT⟩ hS1 (fun t ht hA => by rw [eM]; exact ⟨va_K.moved hA hK, by rw [ht]; exact wz_old hP hk⟩) dL_traded_17
    · refine vx_catch (own := RL) (name := eS) (E := eS) (ce := ce) hown [⟨0, 7, 8, 51⟩, ⟨0, 7, 13, 33⟩] ⟨0, 7, 18, 96⟩ [] (htab.trans rfl) (fun z hz => (List.mem_cons.mp hz).elim (fun h9 => by cases h9; exact Or.inr ⟨by decide, _, hts (.classLink RL 51 eI) (by decide +kernel), hX.2.2.2⟩) (fun h9 => by cases List.mem_singleton.mp h9; exact Or.inr ⟨by decide, _, hts (.classLink RL 33 eA) (by decide +kernel), hX.2.1⟩)) (by decide) (by decide) (hts (.classLink RL 96 eS) (by decide +kernel)) hX.1.cs hce hcv hcl ?_
      refine lv_astore (lv' := [(4, .ref q9), (0, .ref (ad 0)), (1, .int (p0)), (2, .int (p1)), (3, .int (p2))]) hx hb dL_traded_18 hl (by decide) rfl (fun ls hl => ?_)
      refine lv_bipush (v := (-103)) hx hb dL_traded_20 (by decide) ?_
      have eM : (moC (cd3 (ixB p0 (M 0 0) && ixB p1 (M 0 0)) (decide (p0 ≠ p1) && rgB p2 (nI 1) (nI 5000)) (cn M (clN p0) (clN p1) (clN p2))) (nx_trade M (clN p0) (clN p1) (clN p2)) M) = M := moC_n (by rw [hcd]; decide)
      exact hret (u := (ts, pu)) (by decide) (by decide) ⟨(rsc_3 hcd).symm, by rw [eM]; exact hT⟩ hS1 (fun t ht hA => by rw [eM]; exact ⟨va_K.moved hA hK, by rw [ht]; exact wz_old hP hk⟩) dL_traded_22
  · obtain ⟨hg, rfl⟩ := hp
    have hcd : cd3 (ixB p0 (M 0 0) && ixB p1 (M 0 0)) (decide (p0 ≠ p1) && rgB p2 (nI 1) (nI 5000)) (cn M (clN p0) (clN p1) (clN p2)) = 0 := cd3_t hg
    have hP1 := wxP_next hn hP hnd hk (by rw [← ht9]; exact hB.2)
    have eM : (moC (cd3 (ixB p0 (M 0 0) && ixB p1 (M 0 0)) (decide (p0 ≠ p1) && rgB p2 (nI 1) (nI 5000)) (cn M (clN p0) (clN p1) (clN p2))) (nx_trade M (clN p0) (clN p1) (clN p2)) M) = nx_trade M (clN p0) (clN p1) (clN p2) := moC_z hcd
    have hTn : hTs (moC (cd3 (ixB p0 (M 0 0) && ixB p1 (M 0 0)) (decide (p0 ≠ p1) && rgB p2 (nI 1) (nI 5000)) (cn M (clN p0) (clN p1) (clN p2))) (nx_trade M (clN p0) (clN p1) (clN p2)) M) (ts) := by
      rw [eM]
      exact (hTs_k (hTs_k hT (fun r hr => by omega)) (fun r hr => by omega))
    exact hret (u := (ts, pu)) (by decide) (by decide) ⟨(rsc_0 hcd).symm, hTn⟩ hS1 (fun t ht hA => by rw [eM]; exact ⟨va_K.moved hA hK, by rw [ht]; exact hP1⟩) dL_traded_7
set_option maxHeartbeats 4000000 in
set_option maxRecDepth 100000 in
/-- most: mostTraded -/
theorem q_most (l : Launch) (hfl : l.stackTraces = false) {D : va_G} {n : Nat} {ad : Nat → Nat} {cI cJ cQ : ClassId} {M K : Mdl} {ts : Nat → Nat} {pu : Nat → Int64} {X : Nat → va_E} {sa : Nat → Nat} {sz z0 : Nat} (hI : Inv M) (hn : 37 ≤ n) (hnd : ndz n ad) (hAd : ∀ i, i < n → zA z0 (ad i)) (hz0 : z0 ≤ sz) (hT : hTs M ts) (p0 p1 : Int32) : vx_Met l yL_most wsL_most (rmX 3 3) (va_Pc [.ref (ad 0), .int (p0), .int (p1)] (KV D n ad cI cJ cQ (wxE ad cI cJ cQ M ts pu K X) sa (zA z0) sz)) (va_Qi (fun r_ (u_ : (Nat → Nat) × (Nat → Int64)) => r_ = rsc (cd2 (ixB p0 (M 0 0) && ixB p1 (M 0 0)) (decide (p0 ≠ p1))) (nI (mtr M (clN p0) (clN p1) 5000)) ∧ hTs M u_.1) (fun (u_ : (Nat → Nat) × (Nat → Int64)) t_ => KA D n ad cI cJ cQ (wxE ad cI cJ cQ M u_.1 u_.2 K X) t_) (zA z0)) (fun _ _ _ => False) 3 18 (zA z0) := by
  refine mkL_Qi (S := (Nat → Nat) × (Nat → Int64)) (post := fun r_ (u_ : (Nat → Nat) × (Nat → Int64)) => r_ = rsc (cd2 (ixB p0 (M 0 0) && ixB p1 (M 0 0)) (decide (p0 ≠ p1))) (nI (mtr M (clN p0) (clN p1) 5000)) ∧ hTs M u_.1) (BQ := fun (u_ : (Nat → Nat) × (Nat → Int64)) t_ => KA D n ad cI cJ cQ (wxE ad cI cJ cQ M u_.1 u_.2 K X) t_) (cc := cL_most) (maxL := 4) (hh := [(0, 6, 7, 51), (0, 6, 11, 33)]) (by decide) rfl (Nat.le_of_ble_eq_true rfl) ?_
  intro p e s m args below meth c Q C0 htab B0 hret ls hl
  obtain ⟨hx, hb, hr, hml, hown, hts, hlocks⟩ := C0
  have hown : s.vm.findClass RL = some m.cls := hown
  obtain ⟨hsz, hX, hK, hP⟩ := B0
  subst hsz
  have hl : lv_has ls 4 [(0, .ref (ad 0)), (1, .int (p0)), (2, .int (p1))] := hl
  have hndc : ndz 27 ad := fun i j hi hj h => hnd i j (by omega) (by omega) h
  have hS0 : va_S (zA z0) s.heap s.heap [] := va_S.rf
  refine lv_aload_n hx hb dL_most_0 rfl (lv_at hl 0 rfl) ?_
  refine lv_iload_n hx hb dL_most_1 rfl (lv_at hl 1 rfl) ?_
  refine lv_iload_n hx hb dL_most_2 rfl (lv_at hl 2 rfl) ?_
  refine zx_i (vx_runV (As := [.int (p0), .int (p1)]) (rest := []) ⟨hx, hb, hml, hown, hts⟩ (p0_mostTraded l hfl hI hT p0 p1) (cwV 2 hts gL_most_X0_mostTraded rfl rfl rfl (by decide +kernel) (by decide)) (pv0X (s0 := s.heap) hK (wxP_c hn hP) hX.1 (fun a _ _ => rfl)) rfl rfl hl.1 rfl (lv_room (Nat.le_of_ble_eq_true rfl)) dL_most_3 (by decide)) (fun {E ce q9 H1} hp hz hk hce hcv hcl => ?_) (fun r hp => ?_)
  · have hS1 : va_S (zA z0) s.heap H1 [] := ⟨hz, fun q h1 _ => hk q h1, fun q h => by cases h⟩
    rcases hp with ⟨rfl, hcd⟩ | ⟨rfl, hcd⟩
    · refine vx_catch (own := RL) (name := eI) (E := eI) (ce := ce) hown [] ⟨0, 6, 7, 51⟩ [⟨0, 6, 11, 33⟩] (htab.trans rfl) (fun z hz => by cases hz) (by decide) (by decide) (hts (.classLink RL 51 eI) (by decide +kernel)) hX.1.ci hce hcv hcl ?_
      refine lv_astore_n (lv' := [(3, .ref q9), (0, .ref (ad 0)), (1, .int (p0)), (2, .int (p1))]) hx hb dL_most_7 rfl hl (by decide) rfl (fun ls hl => ?_)
      refine lv_bipush (v := (-101)) hx hb dL_most_8 (by decide) ?_
      exact hret (u := (ts, pu)) (by decide) (by decide) ⟨(rsc_1 hcd).symm, hT⟩ hS1 (fun t ht hA => ⟨va_K.moved hA hK, by rw [ht]; exact wz_old hP hk⟩) dL_most_10
    · refine vx_catch (own := RL) (name := eA) (E := eA) (ce := ce) hown [⟨0, 6, 7, 51⟩] ⟨0, 6, 11, 33⟩ [] (htab.trans rfl) (fun z hz => by cases List.mem_singleton.mp hz; exact Or.inr ⟨by decide, _, hts (.classLink RL 51 eI) (by decide +kernel), hX.2.2.1⟩) (by decide) (by decide) (hts (.classLink RL 33 eA) (by decide +kernel)) hX.1.ca hce hcv hcl ?_
      refine lv_astore_n (lv' := [(3, .ref q9), (0, .ref (ad 0)), (1, .int (p0)), (2, .int (p1))]) hx hb dL_most_11 rfl hl (by decide) rfl (fun ls hl => ?_)
      refine lv_bipush (v := (-102)) hx hb dL_most_12 (by decide) ?_
      exact hret (u := (ts, pu)) (by decide) (by decide) ⟨(rsc_2 hcd).symm, hT⟩ hS1 (fun t ht hA => ⟨va_K.moved hA hK, by rw [ht]; exact wz_old hP hk⟩) dL_most_14
  · obtain ⟨hg, rfl⟩ := hp
    have hcd : cd2 (ixB p0 (M 0 0) && ixB p1 (M 0 0)) (decide (p0 ≠ p1)) = 0 := cd2_t hg
    have hP1 := hP
    exact hret (u := (ts, pu)) (by decide) (by decide) ⟨(rsc_0 hcd).symm, hT⟩ hS0 (fun t ht hA => ⟨va_K.moved hA hK, by rw [ht]; exact hP1⟩) dL_most_6
