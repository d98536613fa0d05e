set_option maxHeartbeats 4000000 in
set_option maxRecDepth 100000 in
/-- well -/
theorem p0_well (l : Launch) (hfl : l.stackTraces = false) {D : va_G} {ad : Nat → Nat} {cI cJ cQ : ClassId} {M : Mdl} {ts : Nat → Nat} {pu : Nat → Int64} {sa : Nat → Nat} {Z : Nat → Prop} {sz : Nat} (hI : Inv M) (hnd : ndz 27 ad)  (p0 p1 p2 : Int32) : vx_Met l yX0_well wsX0_well (rmX 1 4) (va_Pc [.ref (ad 0), .int (p0), .int (p1), .int (p2)] (KP0X D ad cI cJ cQ M ts pu sa Z sz)) (va_Qi (fun r_ (u_ : Unit) => ((rgB p0 (nI 0) (nI 99) && rgB p1 (nI 0) (nI 2) && rgB p2 (nI 0) (nI 5000)) && decide (M 0 0 < 8)) = true ∧ r_ = nI (M 0 0)) (fun (u_ : Unit) t_ => KP0 D ad cI cJ cQ (nx_well M (clN p0) (clN p1) (clN p2)) (ts) (pu) t_) (azs 27 ad sz)) (XCE (fun E => (E = eA ∧ cd2 (rgB p0 (nI 0) (nI 99) && rgB p1 (nI 0) (nI 2) && rgB p2 (nI 0) (nI 5000)) (decide (M 0 0 < 8)) = 1) ∨ (E = eS ∧ cd2 (rgB p0 (nI 0) (nI 99) && rgB p1 (nI 0) (nI 2) && rgB p2 (nI 0) (nI 5000)) (decide (M 0 0 < 8)) = 2))) 4 24 (azs 27 ad sz) := by
  refine mkX_Qi (S := Unit) (post := fun r_ u_ => ((rgB p0 (nI 0) (nI 99) && rgB p1 (nI 0) (nI 2) && rgB p2 (nI 0) (nI 5000)) && decide (M 0 0 < 8)) = true ∧ r_ = nI (M 0 0)) (BQ := fun u_ t_ => KP0 D ad cI cJ cQ (nx_well M (clN p0) (clN p1) (clN p2)) (ts) (pu) t_) (cc := cX0_well) (maxL := 5) (by decide) rfl (Nat.le_of_ble_eq_true rfl) ?_
  intro p e s m args below meth c Q C0 B0 hX hret ls hl
  obtain ⟨hx, hb, hr, hml, hown, hts, hlocks⟩ := C0
  have hown : s.vm.findClass RX0 = some m.cls := hown
  obtain ⟨hsz, hKX, hK, hP⟩ := B0
  have hw0 : ∀ w ∈ wsX00, w.before args s = true := fun w h => hts w ((by decide +kernel : ∀ w ∈ wsX00, w ∈ wsX0_well) w h)
  have b_nw := hI.nw
  have b_nv := hI.nv
  subst hsz
  have hAd : ∀ i, i < 27 → azs 27 ad s.heap.size (ad i) := fun i h => azs_i h
  have hS : va_S (azs 27 ad s.heap.size) s.heap s.heap [] := va_S.rf
  have hl : lv_has ls 5 [(0, .ref (ad 0)), (1, .int (p0)), (2, .int (p1)), (3, .int (p2))] := hl
  refine lv_iload_n hx hb dX0_well_0 rfl (lv_at hl 1 rfl) ?_
  refine lv_iconst (v := nI 0) hx hb dX0_well_1 (by decide) ?_
  refine lv_bipush (v := nI 99) hx hb dX0_well_2 (by decide) ?_
  refine zx_v (vx_runS (As := [.int (p0), .int (nI (0)), .int (nI (99))]) (rest := []) ⟨hx, hb, hml, hown, hts⟩ (x0_needRange l hfl (p0) (nI (0)) (nI (99))) (va_cwS 3 hts gX0_well_X0_needRange rfl rfl rfl (by decide +kernel) (by decide)) (psX hKX) rfl rfl hl.1 rfl (lv_room (Nat.le_of_ble_eq_true rfl)) dX0_well_4 (by decide)) (fun hp hz hk q1 q2 q3 => hX (by decide) (by decide) (by obtain ⟨rfl, h⟩ := hp; simp [cd1, cd2, cd3, h]) hz hk q1 q2 q3) (fun b_1 => ?_)
  refine lv_iload_n hx hb dX0_well_7 rfl (lv_at hl 2 rfl) ?_
  refine lv_iconst (v := nI 0) hx hb dX0_well_8 (by decide) ?_
  refine lv_iconst (v := nI 2) hx hb dX0_well_9 (by decide) ?_
  refine zx_v (vx_runS (As := [.int (p1), .int (nI (0)), .int (nI (2))]) (rest := []) ⟨hx, hb, hml, hown, hts⟩ (x0_needRange l hfl (p1) (nI (0)) (nI (2))) (va_cwS 3 hts gX0_well_X0_needRange rfl rfl rfl (by decide +kernel) (by decide)) (psX hKX) rfl rfl hl.1 rfl (lv_room (Nat.le_of_ble_eq_true rfl)) dX0_well_10 (by decide)) (fun hp hz hk q1 q2 q3 => hX (by decide) (by decide) (by obtain ⟨rfl, h⟩ := hp; simp [cd1, cd2, cd3, h, b_1]) hz hk q1 q2 q3) (fun b_2 => ?_)
  refine lv_iload_n hx hb dX0_well_13 rfl (lv_at hl 3 rfl) ?_
  refine lv_iconst (v := nI 0) hx hb dX0_well_14 (by decide) ?_
  refine lv_sipush (v := nI 5000) hx hb dX0_well_15 (by decide) ?_
  refine zx_v (vx_runS (As := [.int (p2), .int (nI (0)), .int (nI (5000))]) (rest := []) ⟨hx, hb, hml, hown, hts⟩ (x0_needRange l hfl (p2) (nI (0)) (nI (5000))) (va_cwS 3 hts gX0_well_X0_needRange rfl rfl rfl (by decide +kernel) (by decide)) (psX hKX) rfl rfl hl.1 rfl (lv_room (Nat.le_of_ble_eq_true rfl)) dX0_well_18 (by decide)) (fun hp hz hk q1 q2 q3 => hX (by decide) (by decide) (by obtain ⟨rfl, h⟩ := hp; simp [cd1, cd2, cd3, h, b_1, b_2]) hz hk q1 q2 q3) (fun b_3 => ?_)
  refine lv_aload_n hx hb dX0_well_21 rfl (lv_at hl 0 rfl) ?_
  refine zg0 hx hb hw0 hown hK hP (by decide) rfl 10 (by decide) (hts (.fieldLink RX0 47 "WellField" "wellCount" "I") (by decide +kernel)) rfl rfl dX0_well_22 ?_
  refine lv_bipush (v := nI 8) hx hb dX0_well_25 (by decide) ?_
  refine zb_ge (tgt := 34) hx hb (by omega) (by omega) dX0_well_27 (by decide) (fun c_4 => ?_) (fun c_4 => ?_)
  · skip
    refine lv_iconst (v := nI 0) hx hb dX0_well_34 (by decide) ?_
    refine zt_i (y := bB (decide (M 0 0 < 8))) (by rw [decide_eq_false (by omega)]; rfl) ?_
    refine zx_v (vx_runS (As := [.int (bB (decide (M 0 0 < 8)))]) (rest := []) ⟨hx, hb, hml, hown, hts⟩ (x0_needAllowed l hfl (decide (M 0 0 < 8))) (va_cwS 1 hts gX0_well_X0_needAllowed rfl rfl rfl (by decide +kernel) (by decide)) (psX hKX) rfl rfl hl.1 rfl (lv_room (Nat.le_of_ble_eq_true rfl)) dX0_well_35 (by decide)) (fun hp hz hk q1 q2 q3 => hX (by decide) (by decide) (by obtain ⟨rfl, h⟩ := hp; simp [cd1, cd2, cd3, h, b_1, b_2, b_3]) hz hk q1 q2 q3) (fun b_5 => ?_)
    exact absurd (of_decide_eq_true b_5) (by omega)
  · skip
    refine lv_iconst (v := nI 1) hx hb dX0_well_30 (by decide) ?_
    refine lv_goto (tgt := 35) hx hb dX0_well_31 (by decide) ?_
    refine zt_i (y := bB (decide (M 0 0 < 8))) (by rw [decide_eq_true (by omega)]; rfl) ?_
    refine zx_v (vx_runS (As := [.int (bB (decide (M 0 0 < 8)))]) (rest := []) ⟨hx, hb, hml, hown, hts⟩ (x0_needAllowed l hfl (decide (M 0 0 < 8))) (va_cwS 1 hts gX0_well_X0_needAllowed rfl rfl rfl (by decide +kernel) (by decide)) (psX hKX) rfl rfl hl.1 rfl (lv_room (Nat.le_of_ble_eq_true rfl)) dX0_well_35 (by decide)) (fun hp hz hk q1 q2 q3 => hX (by decide) (by decide) (by obtain ⟨rfl, h⟩ := hp; simp [cd1, cd2, cd3, h, b_1, b_2, b_3]) hz hk q1 q2 q3) (fun b_6 => ?_)
    obtain ⟨a0, ga0, h_a0, rfl⟩ := rgB_of (by decide) b_1 (by decide)
    have cl_a0 : clN (nI a0) = a0 := clN_nI (by omega)
    obtain ⟨a1, ga1, h_a1, rfl⟩ := rgB_of (by decide) b_2 (by decide)
    have cl_a1 : clN (nI a1) = a1 := clN_nI (by omega)
    obtain ⟨a2, ga2, h_a2, rfl⟩ := rgB_of (by decide) b_3 (by decide)
    have cl_a2 : clN (nI a2) = a2 := clN_nI (by omega)
    refine lv_aload_n hx hb dX0_well_38 rfl (lv_at hl 0 rfl) ?_
    refine zg0 hx hb hw0 hown hK hP (by decide) rfl 10 (by decide) (hts (.fieldLink RX0 47 "WellField" "wellCount" "I") (by decide +kernel)) rfl rfl dX0_well_39 ?_
    refine lv_istore (lv' := [(4, .int (nI (M 0 0))), (0, .ref (ad 0)), (1, .int (nI (a0))), (2, .int (nI (a1))), (3, .int (nI (a2)))]) hx hb dX0_well_42 hl (by decide) rfl (fun ls hl => ?_)
    refine lv_aload_n hx hb dX0_well_44 rfl (lv_at hl 1 rfl) ?_
    refine zg0 hx hb hw0 hown hK hP (by decide) rfl 0 (by decide) (hts (.fieldLink RX0 9 "WellField" "wellPlaces" "[I") (by decide +kernel)) rfl rfl dX0_well_45 ?_
    refine lv_iload hx hb dX0_well_48 (lv_at hl 0 rfl) ?_
    refine lv_iload_n hx hb dX0_well_50 rfl (lv_at hl 2 rfl) ?_
    refine zi_st hx hb hK hP hnd hAd hS 1 (by decide) 0 rfl rfl (by decide) (i := M 0 0) (by omega) (wcE ad cI cJ cQ (mup (M) 1 (M 0 0) (a0)) (ts) (pu)) wcS_pl dX0_well_51 (fun H locs hP hS => ?_)
    refine lv_aload_n hx hb dX0_well_52 rfl (lv_at hl 1 rfl) ?_
    refine zg0 hx hb hw0 hown hK hP (by decide) rfl 1 (by decide) (hts (.fieldLink RX0 13 "WellField" "wellZones" "[I") (by decide +kernel)) rfl rfl dX0_well_53 ?_
    refine lv_iload hx hb dX0_well_56 (lv_at hl 0 rfl) ?_
    refine lv_iload_n hx hb dX0_well_58 rfl (lv_at hl 3 rfl) ?_
    refine zi_st hx hb hK hP hnd hAd hS 2 (by decide) 0 rfl rfl (by decide) (i := M 0 0) (by omega) (wcE ad cI cJ cQ (mup (mup (M) 1 (M 0 0) (a0)) 2 (M 0 0) (a1)) (ts) (pu)) wcS_zo dX0_well_59 (fun H locs hP hS => ?_)
    refine lv_aload_n hx hb dX0_well_60 rfl (lv_at hl 1 rfl) ?_
    refine zg0 hx hb hw0 hown hK hP (by decide) rfl 2 (by decide) (hts (.fieldLink RX0 16 "WellField" "licences" "[I") (by decide +kernel)) rfl rfl dX0_well_61 ?_
    refine lv_iload hx hb dX0_well_64 (lv_at hl 0 rfl) ?_
    refine lv_iload_n hx hb dX0_well_66 rfl (lv_at hl 4 rfl) ?_
    refine zi_st hx hb hK hP hnd hAd hS 3 (by decide) 0 rfl rfl (by decide) (i := M 0 0) (by omega) (wcE ad cI cJ cQ (mup (mup (mup (M) 1 (M 0 0) (a0)) 2 (M 0 0) (a1)) 3 (M 0 0) (a2)) (ts) (pu)) wcS_li dX0_well_67 (fun H locs hP hS => ?_)
    refine lv_aload_n hx hb dX0_well_68 rfl (lv_at hl 1 rfl) ?_
    refine lv_iload hx hb dX0_well_69 (lv_at hl 0 rfl) ?_
    refine lv_iconst (v := nI 1) hx hb dX0_well_71 (by decide) ?_
    refine zr_iadd hx hb dX0_well_72 ?_
    refine zp0 hx hb hw0 hown hK hP hnd hAd hS (by decide) rfl 10 (by decide) (hts (.fieldLink RX0 47 "WellField" "wellCount" "I") (by decide +kernel)) rfl rfl (by decide +kernel) (Nat.le_of_ble_eq_true rfl) (wcE ad cI cJ cQ (mup (mup (mup (mup (M) 1 (M 0 0) (a0)) 2 (M 0 0) (a1)) 3 (M 0 0) (a2)) 0 0 ((M 0 0) + (1))) (ts) (pu)) wcS_nw dX0_well_73 (fun H locs hP hS => ?_)
    refine lv_iload hx hb dX0_well_76 (lv_at hl 0 rfl) ?_
    have hP9 : va_P D vwCl (wz 27 ad (wcE ad cI cJ cQ (nx_well M (clN (nI a0)) (clN (nI a1)) (clN (nI a2))) (ts) (pu))) H := by rw [cl_a0, cl_a1, cl_a2]; exact hP
    exact hret (u := ()) (by decide) (by decide) (And.intro (by simp [b_1, b_2, b_3, b_6]) (by rfl)) hS (fun t ht hA => ⟨va_K.moved hA hK, by rw [ht]; exact hP9⟩) dX0_well_78
set_option maxHeartbeats 4000000 in
set_option maxRecDepth 100000 in
/-- watch -/
theorem p0_watch (l : Launch) (hfl : l.stackTraces = false) {D : va_G} {ad : Nat → Nat} {cI cJ cQ : ClassId} {M : Mdl} {ts : Nat → Nat} {pu : Nat → Int64} {sa : Nat → Nat} {Z : Nat → Prop} {sz : Nat} (hI : Inv M) (hnd : ndz 27 ad)  (p0 p1 : Int32) : vx_Met l yX0_watch wsX0_watch (rmX 1 3) (va_Pc [.ref (ad 0), .int (p0), .int (p1)] (KP0X D ad cI cJ cQ M ts pu sa Z sz)) (va_Qi (fun r_ (u_ : Unit) => ((rgB p0 (nI 0) (nI 99) && rgB p1 (nI 0) (nI 10000)) && decide (M 5 0 < 4)) = true ∧ r_ = nI (M 5 0)) (fun (u_ : Unit) t_ => KP0 D ad cI cJ cQ (nx_watch M (clN p0) (clN p1)) (ts) (pu) t_) (azs 27 ad sz)) (XCE (fun E => (E = eA ∧ cd2 (rgB p0 (nI 0) (nI 99) && rgB p1 (nI 0) (nI 10000)) (decide (M 5 0 < 4)) = 1) ∨ (E = eS ∧ cd2 (rgB p0 (nI 0) (nI 99) && rgB p1 (nI 0) (nI 10000)) (decide (M 5 0 < 4)) = 2))) 3 18 (azs 27 ad sz) := by
  refine mkX_Qi (S := Unit) (post := fun r_ u_ => ((rgB p0 (nI 0) (nI 99) && rgB p1 (nI 0) (nI 10000)) && decide (M 5 0 < 4)) = true ∧ r_ = nI (M 5 0)) (BQ := fun u_ t_ => KP0 D ad cI cJ cQ (nx_watch M (clN p0) (clN p1)) (ts) (pu) t_) (cc := cX0_watch) (maxL := 4) (by decide) rfl (Nat.le_of_ble_eq_true rfl) ?_
  intro p e s m args below meth c Q C0 B0 hX hret ls hl
  obtain ⟨hx, hb, hr, hml, hown, hts, hlocks⟩ := C0
  have hown : s.vm.findClass RX0 = some m.cls := hown
  obtain ⟨hsz, hKX, hK, hP⟩ := B0
  have hw0 : ∀ w ∈ wsX00, w.before args s = true := fun w h => hts w ((by decide +kernel : ∀ w ∈ wsX00, w ∈ wsX0_watch) w h)
  have b_nw := hI.nw
  have b_nv := hI.nv
  subst hsz
  have hAd : ∀ i, i < 27 → azs 27 ad s.heap.size (ad i) := fun i h => azs_i h
  have hS : va_S (azs 27 ad s.heap.size) s.heap s.heap [] := va_S.rf
  have hl : lv_has ls 4 [(0, .ref (ad 0)), (1, .int (p0)), (2, .int (p1))] := hl
  refine lv_iload_n hx hb dX0_watch_0 rfl (lv_at hl 1 rfl) ?_
  refine lv_iconst (v := nI 0) hx hb dX0_watch_1 (by decide) ?_
  refine lv_bipush (v := nI 99) hx hb dX0_watch_2 (by decide) ?_
  refine zx_v (vx_runS (As := [.int (p0), .int (nI (0)), .int (nI (99))]) (rest := []) ⟨hx, hb, hml, hown, hts⟩ (x0_needRange l hfl (p0) (nI (0)) (nI (99))) (va_cwS 3 hts gX0_watch_X0_needRange rfl rfl rfl (by decide +kernel) (by decide)) (psX hKX) rfl rfl hl.1 rfl (lv_room (Nat.le_of_ble_eq_true rfl)) dX0_watch_4 (by decide)) (fun hp hz hk q1 q2 q3 => hX (by decide) (by decide) (by obtain ⟨rfl, h⟩ := hp; simp [cd1, cd2, cd3, h]) hz hk q1 q2 q3) (fun b_1 => ?_)
  refine lv_iload_n hx hb dX0_watch_7 rfl (lv_at hl 2 rfl) ?_
  refine lv_iconst (v := nI 0) hx hb dX0_watch_8 (by decide) ?_
  refine lv_sipush (v := nI 10000) hx hb dX0_watch_9 (by decide) ?_
  refine zx_v (vx_runS (As := [.int (p1), .int (nI (0)), .int (nI (10000))]) (rest := []) ⟨hx, hb, hml, hown, hts⟩ (x0_needRange l hfl (p1) (nI (0)) (nI (10000))) (va_cwS 3 hts gX0_watch_X0_needRange rfl rfl rfl (by decide +kernel) (by decide)) (psX hKX) rfl rfl hl.1 rfl (lv_room (Nat.le_of_ble_eq_true rfl)) dX0_watch_12 (by decide)) (fun hp hz hk q1 q2 q3 => hX (by decide) (by decide) (by obtain ⟨rfl, h⟩ := hp; simp [cd1, cd2, cd3, h, b_1]) hz hk q1 q2 q3) (fun b_2 => ?_)
  refine lv_aload_n hx hb dX0_watch_15 rfl (lv_at hl 0 rfl) ?_
  refine zg0 hx hb hw0 hown hK hP (by decide) rfl 11 (by decide) (hts (.fieldLink RX0 55 "WellField" "watchCount" "I") (by decide +kernel)) rfl rfl dX0_watch_16 ?_
  refine lv_iconst (v := nI 4) hx hb dX0_watch_19 (by decide) ?_
  refine zb_ge (tgt := 27) hx hb (by omega) (by omega) dX0_watch_20 (by decide) (fun c_3 => ?_) (fun c_3 => ?_)
  · skip
    refine lv_iconst (v := nI 0) hx hb dX0_watch_27 (by decide) ?_
    refine zt_i (y := bB (decide (M 5 0 < 4))) (by rw [decide_eq_false (by omega)]; rfl) ?_
    refine zx_v (vx_runS (As := [.int (bB (decide (M 5 0 < 4)))]) (rest := []) ⟨hx, hb, hml, hown, hts⟩ (x0_needAllowed l hfl (decide (M 5 0 < 4))) (va_cwS 1 hts gX0_watch_X0_needAllowed rfl rfl rfl (by decide +kernel) (by decide)) (psX hKX) rfl rfl hl.1 rfl (lv_room (Nat.le_of_ble_eq_true rfl)) dX0_watch_28 (by decide)) (fun hp hz hk q1 q2 q3 => hX (by decide) (by decide) (by obtain ⟨rfl, h⟩ := hp; simp [cd1, cd2, cd3, h, b_1, b_2]) hz hk q1 q2 q3) (fun b_4 => ?_)
    exact absurd (of_decide_eq_true b_4) (by omega)
  · skip
    refine lv_iconst (v := nI 1) hx hb dX0_watch_23 (by decide) ?_
    refine lv_goto (tgt := 28) hx hb dX0_watch_24 (by decide) ?_
    refine zt_i (y := bB (decide (M 5 0 < 4))) (by rw [decide_eq_true (by omega)]; rfl) ?_
    refine zx_v (vx_runS (As := [.int (bB (decide (M 5 0 < 4)))]) (rest := []) ⟨hx, hb, hml, hown, hts⟩ (x0_needAllowed l hfl (decide (M 5 0 < 4))) (va_cwS 1 hts gX0_watch_X0_needAllowed rfl rfl rfl (by decide +kernel) (by decide)) (psX hKX) rfl rfl hl.1 rfl (lv_room (Nat.le_of_ble_eq_true rfl)) dX0_watch_28 (by decide)) (fun hp hz hk q1 q2 q3 => hX (by decide) (by decide) (by obtain ⟨rfl, h⟩ := hp; simp [cd1, cd2, cd3, h, b_1, b_2]) hz hk q1 q2 q3) (fun b_5 => ?_)
    obtain ⟨a0, ga0, h_a0, rfl⟩ := rgB_of (by decide) b_1 (by decide)
    have cl_a0 : clN (nI a0) = a0 := clN_nI (by omega)
    obtain ⟨a1, ga1, h_a1, rfl⟩ := rgB_of (by decide) b_2 (by decide)
    have cl_a1 : clN (nI a1) = a1 := clN_nI (by omega)
    refine lv_aload_n hx hb dX0_watch_31 rfl (lv_at hl 0 rfl) ?_
    refine zg0 hx hb hw0 hown hK hP (by decide) rfl 11 (by decide) (hts (.fieldLink RX0 55 "WellField" "watchCount" "I") (by decide +kernel)) rfl rfl dX0_watch_32 ?_
    refine lv_istore_n (lv' := [(3, .int (nI (M 5 0))), (0, .ref (ad 0)), (1, .int (nI (a0))), (2, .int (nI (a1)))]) hx hb dX0_watch_35 rfl hl (by decide) rfl (fun ls hl => ?_)
    refine lv_aload_n hx hb dX0_watch_36 rfl (lv_at hl 1 rfl) ?_
    refine zg0 hx hb hw0 hown hK hP (by decide) rfl 4 (by decide) (hts (.fieldLink RX0 24 "WellField" "watchPlaces" "[I") (by decide +kernel)) rfl rfl dX0_watch_37 ?_
    refine lv_iload_n hx hb dX0_watch_40 rfl (lv_at hl 0 rfl) ?_
    refine lv_iload_n hx hb dX0_watch_41 rfl (lv_at hl 2 rfl) ?_
    refine zi_st hx hb hK hP hnd hAd hS 5 (by decide) 0 rfl rfl (by decide) (i := M 5 0) (by omega) (wcE ad cI cJ cQ (mup (M) 6 (M 5 0) (a0)) (ts) (pu)) wcS_sp dX0_watch_42 (fun H locs hP hS => ?_)
    refine lv_aload_n hx hb dX0_watch_43 rfl (lv_at hl 1 rfl) ?_
    refine zg0 hx hb hw0 hown hK hP (by decide) rfl 5 (by decide) (hts (.fieldLink RX0 27 "WellField" "limits" "[I") (by decide +kernel)) rfl rfl dX0_watch_44 ?_
    refine lv_iload_n hx hb dX0_watch_47 rfl (lv_at hl 0 rfl) ?_
    refine lv_iload_n hx hb dX0_watch_48 rfl (lv_at hl 3 rfl) ?_
    refine zi_st hx hb hK hP hnd hAd hS 6 (by decide) 0 rfl rfl (by decide) (i := M 5 0) (by omega) (wcE ad cI cJ cQ (mup (mup (M) 6 (M 5 0) (a0)) 7 (M 5 0) (a1)) (ts) (pu)) wcS_lm dX0_watch_49 (fun H locs hP hS => ?_)
    refine lv_aload_n hx hb dX0_watch_50 rfl (lv_at hl 1 rfl) ?_
    refine lv_iload_n hx hb dX0_watch_51 rfl (lv_at hl 0 rfl) ?_
    refine lv_iconst (v := nI 1) hx hb dX0_watch_52 (by decide) ?_
    refine zr_iadd hx hb dX0_watch_53 ?_
    refine zp0 hx hb hw0 hown hK hP hnd hAd hS (by decide) rfl 11 (by decide) (hts (.fieldLink RX0 55 "WellField" "watchCount" "I") (by decide +kernel)) rfl rfl (by decide +kernel) (Nat.le_of_ble_eq_true rfl) (wcE ad cI cJ cQ (mup (mup (mup (M) 6 (M 5 0) (a0)) 7 (M 5 0) (a1)) 5 0 ((M 5 0) + (1))) (ts) (pu)) wcS_nv dX0_watch_54 (fun H locs hP hS => ?_)
    refine lv_iload_n hx hb dX0_watch_57 rfl (lv_at hl 0 rfl) ?_
    have hP9 : va_P D vwCl (wz 27 ad (wcE ad cI cJ cQ (nx_watch M (clN (nI a0)) (clN (nI a1))) (ts) (pu))) H := by rw [cl_a0, cl_a1]; exact hP
    exact hret (u := ()) (by decide) (by decide) (And.intro (by simp [b_1, b_2, b_5]) (by rfl)) hS (fun t ht hA => ⟨va_K.moved hA hK, by rw [ht]; exact hP9⟩) dX0_watch_58
set_option maxHeartbeats 4000000 in
set_option maxRecDepth 100000 in
/-- response -/
theorem p0_response (l : Launch) (hfl : l.stackTraces = false) {D : va_G} {ad : Nat → Nat} {cI cJ cQ : ClassId} {M : Mdl} {ts : Nat → Nat} {pu : Nat → Int64} {sa : Nat → Nat} {Z : Nat → Prop} {sz : Nat} (hI : Inv M) (hnd : ndz 27 ad) (hT : hTs M ts) (p0 p1 p2 : Int32) : vx_Met l yX0_response wsX0_response (rmX 1 3) (va_Pc [.ref (ad 0), .int (p0), .int (p1), .int (p2)] (KP0X D ad cI cJ cQ M ts pu sa Z sz)) (va_Qi (fun r_ (u_ : Unit) => ((ixB p0 5 && ixB p1 12) && rgB p2 (nI 0) (nI 1000)) = true ∧ r_ = nI (M (11 + 3 * clN p0) (clN p1))) (fun (u_ : Unit) t_ => KP0 D ad cI cJ cQ (nx_response M (clN p0) (clN p1) (clN p2)) (nup ts (clN p0) (ts (clN p0) + clN p2 - M (11 + 3 * clN p0) (clN p1))) (pu) t_) (azs 27 ad sz)) (XCE (fun E => (E = eI ∧ cd2 (ixB p0 5 && ixB p1 12) (rgB p2 (nI 0) (nI 1000)) = 1) ∨ (E = eA ∧ cd2 (ixB p0 5 && ixB p1 12) (rgB p2 (nI 0) (nI 1000)) = 2))) 3 18 (azs 27 ad sz) := by
  refine mkX_Qi (S := Unit) (post := fun r_ u_ => ((ixB p0 5 && ixB p1 12) && rgB p2 (nI 0) (nI 1000)) = true ∧ r_ = nI (M (11 + 3 * clN p0) (clN p1))) (BQ := fun u_ t_ => KP0 D ad cI cJ cQ (nx_response M (clN p0) (clN p1) (clN p2)) (nup ts (clN p0) (ts (clN p0) + clN p2 - M (11 + 3 * clN p0) (clN p1))) (pu) t_) (cc := cX0_response) (maxL := 5) (by decide) rfl (Nat.le_of_ble_eq_true rfl) ?_
  intro p e s m args below meth c Q C0 B0 hX hret ls hl
  obtain ⟨hx, hb, hr, hml, hown, hts, hlocks⟩ := C0
  have hown : s.vm.findClass RX0 = some m.cls := hown
  obtain ⟨hsz, hKX, hK, hP⟩ := B0
  have hw0 : ∀ w ∈ wsX00, w.before args s = true := fun w h => hts w ((by decide +kernel : ∀ w ∈ wsX00, w ∈ wsX0_response) w h)
  have b_nw := hI.nw
  have b_nv := hI.nv
  subst hsz
  have hAd : ∀ i, i < 27 → azs 27 ad s.heap.size (ad i) := fun i h => azs_i h
  have hS : va_S (azs 27 ad s.heap.size) s.heap s.heap [] := va_S.rf
  have hl : lv_has ls 5 [(0, .ref (ad 0)), (1, .int (p0)), (2, .int (p1)), (3, .int (p2))] := hl
  refine lv_iload_n hx hb dX0_response_0 rfl (lv_at hl 1 rfl) ?_
  refine lv_iconst (v := nI 5) hx hb dX0_response_1 (by decide) ?_
  refine zx_v (vx_runS (As := [.int (p0), .int (nI (5))]) (rest := []) ⟨hx, hb, hml, hown, hts⟩ (x0_needIndex l hfl (p0) (5)) (va_cwS 2 hts gX0_response_X0_needIndex rfl rfl rfl (by decide +kernel) (by decide)) (psX hKX) rfl rfl hl.1 rfl (lv_room (Nat.le_of_ble_eq_true rfl)) dX0_response_2 (by decide)) (fun hp hz hk q1 q2 q3 => hX (by decide) (by decide) (by obtain ⟨rfl, h⟩ := hp; simp [cd1, cd2, cd3, h]) hz hk q1 q2 q3) (fun b_1 => ?_)
  refine lv_iload_n hx hb dX0_response_5 rfl (lv_at hl 2 rfl) ?_
  refine lv_bipush (v := nI 12) hx hb dX0_response_6 (by decide) ?_
  refine zx_v (vx_runS (As := [.int (p1), .int (nI (12))]) (rest := []) ⟨hx, hb, hml, hown, hts⟩ (x0_needIndex l hfl (p1) (12)) (va_cwS 2 hts gX0_response_X0_needIndex rfl rfl rfl (by decide +kernel) (by decide)) (psX hKX) rfl rfl hl.1 rfl (lv_room (Nat.le_of_ble_eq_true rfl)) dX0_response_8 (by decide)) (fun hp hz hk q1 q2 q3 => hX (by decide) (by decide) (by obtain ⟨rfl, h⟩ := hp; simp [cd1, cd2, cd3, h, b_1]) hz hk q1 q2 q3) (fun b_2 => ?_)
  refine lv_iload_n hx hb dX0_response_11 rfl (lv_at hl 3 rfl) ?_
  refine lv_iconst (v := nI 0) hx hb dX0_response_12 (by decide) ?_
  refine lv_sipush (v := nI 1000) hx hb dX0_response_13 (by decide) ?_
  refine zx_v (vx_runS (As := [.int (p2), .int (nI (0)), .int (nI (1000))]) (rest := []) ⟨hx, hb, hml, hown, hts⟩ (x0_needRange l hfl (p2) (nI (0)) (nI (1000))) (va_cwS 3 hts gX0_response_X0_needRange rfl rfl rfl (by decide +kernel) (by decide)) (psX hKX) rfl rfl hl.1 rfl (lv_room (Nat.le_of_ble_eq_true rfl)) dX0_response_16 (by decide)) (fun hp hz hk q1 q2 q3 => hX (by decide) (by decide) (by obtain ⟨rfl, h⟩ := hp; simp [cd1, cd2, cd3, h, b_1, b_2]) hz hk q1 q2 q3) (fun b_3 => ?_)
  obtain ⟨a0, h_a0, rfl⟩ := ixB_of (by omega) b_1
  have cl_a0 : clN (nI a0) = a0 := clN_nI (by omega)
  obtain ⟨a1, h_a1, rfl⟩ := ixB_of (by omega) b_2
  have cl_a1 : clN (nI a1) = a1 := clN_nI (by omega)
  obtain ⟨a2, ga2, h_a2, rfl⟩ := rgB_of (by decide) b_3 (by decide)
  have cl_a2 : clN (nI a2) = a2 := clN_nI (by omega)
  refine lv_aload_n hx hb dX0_response_19 rfl (lv_at hl 0 rfl) ?_
  refine zg0 hx hb hw0 hown hK hP (by decide) rfl 6 (by decide) (hts (.fieldLink RX0 30 "WellField" "table" "[[I") (by decide +kernel)) rfl rfl dX0_response_20 ?_
  refine lv_iload_n hx hb dX0_response_23 rfl (lv_at hl 1 rfl) ?_
  refine zq_ld hx hb hK hP 7 (by decide) 2 rfl rfl (by decide) (i := a0) (by omega) (a := ad (19 + (a0))) rfl dX0_response_24 ?_
  refine lv_iload_n hx hb dX0_response_25 rfl (lv_at hl 2 rfl) ?_
  refine zi_ld hx hb hK hP (19 + (a0)) (by omega) 0 (wcE_tab (by omega)) rfl (by decide) (i := a1) (by omega) (v := nI (M (11 + 3 * (a0)) (a1))) rfl dX0_response_26 ?_
  have f_4 := hI.tb (a0) (by omega) (a1)
  refine lv_istore (lv' := [(4, .int (nI (M (11 + 3 * (a0)) (a1)))), (0, .ref (ad 0)), (1, .int (nI (a0))), (2, .int (nI (a1))), (3, .int (nI (a2)))]) hx hb dX0_response_27 hl (by decide) rfl (fun ls hl => ?_)
  refine lv_aload_n hx hb dX0_response_29 rfl (lv_at hl 1 rfl) ?_
  refine zg0 hx hb hw0 hown hK hP (by decide) rfl 6 (by decide) (hts (.fieldLink RX0 30 "WellField" "table" "[[I") (by decide +kernel)) rfl rfl dX0_response_30 ?_
  refine lv_iload_n hx hb dX0_response_33 rfl (lv_at hl 2 rfl) ?_
  refine zq_ld hx hb hK hP 7 (by decide) 2 rfl rfl (by decide) (i := a0) (by omega) (a := ad (19 + (a0))) rfl dX0_response_34 ?_
  refine lv_iload_n hx hb dX0_response_35 rfl (lv_at hl 3 rfl) ?_
  refine lv_iload_n hx hb dX0_response_36 rfl (lv_at hl 4 rfl) ?_
  refine zi_st hx hb hK hP hnd hAd hS (19 + (a0)) (by omega) 0 (wcE_tab (by omega)) rfl (by decide) (i := a1) (by omega) (wcE ad cI cJ cQ (mup (M) (11 + 3 * (a0)) (a1) (a2)) (ts) (pu)) (wcS_tb (by omega)) dX0_response_37 (fun H locs hP hS => ?_)
  refine lv_aload_n hx hb dX0_response_38 rfl (lv_at hl 1 rfl) ?_
  refine zg0 hx hb hw0 hown hK hP (by decide) rfl 7 (by decide) (hts (.fieldLink RX0 33 "WellField" "tableSums" "[I") (by decide +kernel)) rfl rfl dX0_response_39 ?_
  refine lv_iload_n hx hb dX0_response_42 rfl (lv_at hl 2 rfl) ?_
  refine lv_dup2_11 hx hb dX0_response_43 rfl rfl ?_
  refine zi_ld hx hb hK hP 8 (by decide) 0 rfl rfl (by decide) (i := a0) (by omega) (v := nI ((ts) (a0))) rfl dX0_response_44 ?_
  refine lv_iload_n hx hb dX0_response_45 rfl (lv_at hl 4 rfl) ?_
  refine lv_iload hx hb dX0_response_46 (lv_at hl 0 rfl) ?_
  refine lv_isub hx hb dX0_response_48 ?_
  refine lv_iadd hx hb dX0_response_49 ?_
  refine zt_i (addsub_nI (hTs_response (x := a2) hT h_a0 h_a1).1) ?_
  refine zi_st hx hb hK hP hnd hAd hS 8 (by decide) 0 rfl rfl (by decide) (i := a0) (by omega) (wcE ad cI cJ cQ (mup (M) (11 + 3 * (a0)) (a1) (a2)) (nup (ts) (a0) (ts a0 + a2 - M (11 + 3 * a0) a1)) (pu)) wcS_ts dX0_response_50 (fun H locs hP hS => ?_)
  refine lv_iload hx hb dX0_response_51 (lv_at hl 0 rfl) ?_
  have hP9 : va_P D vwCl (wz 27 ad (wcE ad cI cJ cQ (nx_response M (clN (nI a0)) (clN (nI a1)) (clN (nI a2))) (nup ts (clN (nI a0)) (ts (clN (nI a0)) + clN (nI a2) - M (11 + 3 * clN (nI a0)) (clN (nI a1)))) (pu))) H := by rw [cl_a0, cl_a1, cl_a2]; exact hP
  exact hret (u := ()) (by decide) (by decide) (And.intro (by simp [b_1, b_2, b_3]) (by rw [cl_a0, cl_a1])) hS (fun t ht hA => ⟨va_K.moved hA hK, by rw [ht]; exact hP9⟩) dX0_response_53
set_option maxHeartbeats 4000000 in
set_option maxRecDepth 100000 in
/-- pump -/
theorem p0_pump (l : Launch) (hfl : l.stackTraces = false) {D : va_G} {ad : Nat → Nat} {cI cJ cQ : ClassId} {M : Mdl} {ts : Nat → Nat} {pu : Nat → Int64} {sa : Nat → Nat} {Z : Nat → Prop} {sz : Nat} (hI : Inv M) (hnd : ndz 27 ad)  (p0 p1 p2 : Int32) : vx_Met l yX0_pump wsX0_pump (rmX 1 3) (va_Pc [.ref (ad 0), .int (p0), .int (p1), .int (p2)] (KP0X D ad cI cJ cQ M ts pu sa Z sz)) (va_Qi (fun r_ (u_ : Unit) => ((ixB p0 (M 0 0) && ixB p1 36) && rgB p2 (nI 0) (nI 1000)) = true ∧ r_ = nI (M (10 + 3 * clN p0) (clN p1))) (fun (u_ : Unit) t_ => KP0 D ad cI cJ cQ (nx_pump M (clN p0) (clN p1) (clN p2)) (ts) (pu) t_) (azs 27 ad sz)) (XCE (fun E => (E = eI ∧ cd2 (ixB p0 (M 0 0) && ixB p1 36) (rgB p2 (nI 0) (nI 1000)) = 1) ∨ (E = eA ∧ cd2 (ixB p0 (M 0 0) && ixB p1 36) (rgB p2 (nI 0) (nI 1000)) = 2))) 3 18 (azs 27 ad sz) := by
  refine mkX_Qi (S := Unit) (post := fun r_ u_ => ((ixB p0 (M 0 0) && ixB p1 36) && rgB p2 (nI 0) (nI 1000)) = true ∧ r_ = nI (M (10 + 3 * clN p0) (clN p1))) (BQ := fun u_ t_ => KP0 D ad cI cJ cQ (nx_pump M (clN p0) (clN p1) (clN p2)) (ts) (pu) t_) (cc := cX0_pump) (maxL := 5) (by decide) rfl (Nat.le_of_ble_eq_true rfl) ?_
  intro p e s m args below meth c Q C0 B0 hX hret ls hl
  obtain ⟨hx, hb, hr, hml, hown, hts, hlocks⟩ := C0
  have hown : s.vm.findClass RX0 = some m.cls := hown
  obtain ⟨hsz, hKX, hK, hP⟩ := B0
  have hw0 : ∀ w ∈ wsX00, w.before args s = true := fun w h => hts w ((by decide +kernel : ∀ w ∈ wsX00, w ∈ wsX0_pump) w h)
  have b_nw := hI.nw
  have b_nv := hI.nv
  subst hsz
  have hAd : ∀ i, i < 27 → azs 27 ad s.heap.size (ad i) := fun i h => azs_i h
  have hS : va_S (azs 27 ad s.heap.size) s.heap s.heap [] := va_S.rf
  have hl : lv_has ls 5 [(0, .ref (ad 0)), (1, .int (p0)), (2, .int (p1)), (3, .int (p2))] := hl
  refine lv_iload_n hx hb dX0_pump_0 rfl (lv_at hl 1 rfl) ?_
  refine lv_aload_n hx hb dX0_pump_1 rfl (lv_at hl 0 rfl) ?_
  refine zg0 hx hb hw0 hown hK hP (by decide) rfl 10 (by decide) (hts (.fieldLink RX0 47 "WellField" "wellCount" "I") (by decide +kernel)) rfl rfl dX0_pump_2 ?_
  refine zx_v (vx_runS (As := [.int (p0), .int (nI (M 0 0))]) (rest := []) ⟨hx, hb, hml, hown, hts⟩ (x0_needIndex l hfl (p0) (M 0 0)) (va_cwS 2 hts gX0_pump_X0_needIndex rfl rfl rfl (by decide +kernel) (by decide)) (psX hKX) rfl rfl hl.1 rfl (lv_room (Nat.le_of_ble_eq_true rfl)) dX0_pump_5 (by decide)) (fun hp hz hk q1 q2 q3 => hX (by decide) (by decide) (by obtain ⟨rfl, h⟩ := hp; simp [cd1, cd2, cd3, h]) hz hk q1 q2 q3) (fun b_1 => ?_)
  refine lv_iload_n hx hb dX0_pump_8 rfl (lv_at hl 2 rfl) ?_
  refine lv_bipush (v := nI 36) hx hb dX0_pump_9 (by decide) ?_
  refine zx_v (vx_runS (As := [.int (p1), .int (nI (36))]) (rest := []) ⟨hx, hb, hml, hown, hts⟩ (x0_needIndex l hfl (p1) (36)) (va_cwS 2 hts gX0_pump_X0_needIndex rfl rfl rfl (by decide +kernel) (by decide)) (psX hKX) rfl rfl hl.1 rfl (lv_room (Nat.le_of_ble_eq_true rfl)) dX0_pump_11 (by decide)) (fun hp hz hk q1 q2 q3 => hX (by decide) (by decide) (by obtain ⟨rfl, h⟩ := hp; simp [cd1, cd2, cd3, h, b_1]) hz hk q1 q2 q3) (fun b_2 => ?_)
  refine lv_iload_n hx hb dX0_pump_14 rfl (lv_at hl 3 rfl) ?_
  refine lv_iconst (v := nI 0) hx hb dX0_pump_15 (by decide) ?_
  refine lv_sipush (v := nI 1000) hx hb dX0_pump_16 (by decide) ?_
  refine zx_v (vx_runS (As := [.int (p2), .int (nI (0)), .int (nI (1000))]) (rest := []) ⟨hx, hb, hml, hown, hts⟩ (x0_needRange l hfl (p2) (nI (0)) (nI (1000))) (va_cwS 3 hts gX0_pump_X0_needRange rfl rfl rfl (by decide +kernel) (by decide)) (psX hKX) rfl rfl hl.1 rfl (lv_room (Nat.le_of_ble_eq_true rfl)) dX0_pump_19 (by decide)) (fun hp hz hk q1 q2 q3 => hX (by decide) (by decide) (by obtain ⟨rfl, h⟩ := hp; simp [cd1, cd2, cd3, h, b_1, b_2]) hz hk q1 q2 q3) (fun b_3 => ?_)
  obtain ⟨a0, h_a0, rfl⟩ := ixB_of (by omega) b_1
  have cl_a0 : clN (nI a0) = a0 := clN_nI (by omega)
  obtain ⟨a1, h_a1, rfl⟩ := ixB_of (by omega) b_2
  have cl_a1 : clN (nI a1) = a1 := clN_nI (by omega)
  obtain ⟨a2, ga2, h_a2, rfl⟩ := rgB_of (by decide) b_3 (by decide)
  have cl_a2 : clN (nI a2) = a2 := clN_nI (by omega)
  refine lv_aload_n hx hb dX0_pump_22 rfl (lv_at hl 0 rfl) ?_
  refine zg0 hx hb hw0 hown hK hP (by decide) rfl 3 (by decide) (hts (.fieldLink RX0 21 "WellField" "pumping" "[[I") (by decide +kernel)) rfl rfl dX0_pump_23 ?_
  refine lv_iload_n hx hb dX0_pump_26 rfl (lv_at hl 1 rfl) ?_
  refine zq_ld hx hb hK hP 4 (by decide) 2 rfl rfl (by decide) (i := a0) (by omega) (a := ad (11 + (a0))) rfl dX0_pump_27 ?_
  refine lv_iload_n hx hb dX0_pump_28 rfl (lv_at hl 2 rfl) ?_
  refine zi_ld hx hb hK hP (11 + (a0)) (by omega) 0 (wcE_pump (by omega)) rfl (by decide) (i := a1) (by omega) (v := nI (M (10 + 3 * (a0)) (a1))) rfl dX0_pump_29 ?_
  have f_4 := hI.un (a0) (by omega) (a1)
  refine lv_istore (lv' := [(4, .int (nI (M (10 + 3 * (a0)) (a1)))), (0, .ref (ad 0)), (1, .int (nI (a0))), (2, .int (nI (a1))), (3, .int (nI (a2)))]) hx hb dX0_pump_30 hl (by decide) rfl (fun ls hl => ?_)
  refine lv_aload_n hx hb dX0_pump_32 rfl (lv_at hl 1 rfl) ?_
  refine zg0 hx hb hw0 hown hK hP (by decide) rfl 3 (by decide) (hts (.fieldLink RX0 21 "WellField" "pumping" "[[I") (by decide +kernel)) rfl rfl dX0_pump_33 ?_
  refine lv_iload_n hx hb dX0_pump_36 rfl (lv_at hl 2 rfl) ?_
  refine zq_ld hx hb hK hP 4 (by decide) 2 rfl rfl (by decide) (i := a0) (by omega) (a := ad (11 + (a0))) rfl dX0_pump_37 ?_
  refine lv_iload_n hx hb dX0_pump_38 rfl (lv_at hl 3 rfl) ?_
  refine lv_iload_n hx hb dX0_pump_39 rfl (lv_at hl 4 rfl) ?_
  refine zi_st hx hb hK hP hnd hAd hS (11 + (a0)) (by omega) 0 (wcE_pump (by omega)) rfl (by decide) (i := a1) (by omega) (wcE ad cI cJ cQ (mup (M) (10 + 3 * (a0)) (a1) (a2)) (ts) (pu)) (wcS_un (by omega)) dX0_pump_40 (fun H locs hP hS => ?_)
  refine lv_iload hx hb dX0_pump_41 (lv_at hl 0 rfl) ?_
  have hP9 : va_P D vwCl (wz 27 ad (wcE ad cI cJ cQ (nx_pump M (clN (nI a0)) (clN (nI a1)) (clN (nI a2))) (ts) (pu))) H := by rw [cl_a0, cl_a1, cl_a2]; exact hP
  exact hret (u := ()) (by decide) (by decide) (And.intro (by simp [b_1, b_2, b_3]) (by rw [cl_a0, cl_a1])) hS (fun t ht hA => ⟨va_K.moved hA hK, by rw [ht]; exact hP9⟩) dX0_pump_43
set_option maxHeartbeats 4000000 in
set_option maxRecDepth 100000 in
/-- rest -/
theorem p0_rest (l : Launch) (hfl : l.stackTraces = false) {D : va_G} {ad : Nat → Nat} {cI cJ cQ : ClassId} {M : Mdl} {ts : Nat → Nat} {pu : Nat → Int64} {sa : Nat → Nat} {Z : Nat → Prop} {sz : Nat} (hI : Inv M) (hnd : ndz 27 ad)  (p0 p1 p2 : Int32) : vx_Met l yX0_rest wsX0_rest (rmX 1 3) (va_Pc [.ref (ad 0), .int (p0), .int (p1), .int (p2)] (KP0X D ad cI cJ cQ M ts pu sa Z sz)) (va_Qi (fun r_ (u_ : Unit) => ((ixB p0 (M 0 0) && ixB p1 36) && rgB p2 (nI 1) (nI 36)) = true ∧ r_ = nI (rss M (clN p0) (clN p1) (rsn (clN p1) (clN p2)))) (fun (u_ : Unit) t_ => KP0 D ad cI cJ cQ (nx_rest M (clN p0) (clN p1) (clN p2)) (ts) (pu) t_) (azs 27 ad sz)) (XCE (fun E => (E = eI ∧ cd2 (ixB p0 (M 0 0) && ixB p1 36) (rgB p2 (nI 1) (nI 36)) = 1) ∨ (E = eA ∧ cd2 (ixB p0 (M 0 0) && ixB p1 36) (rgB p2 (nI 1) (nI 36)) = 2))) 3 18 (azs 27 ad sz) := by
  refine mkX_Qi (S := Unit) (post := fun r_ u_ => ((ixB p0 (M 0 0) && ixB p1 36) && rgB p2 (nI 1) (nI 36)) = true ∧ r_ = nI (rss M (clN p0) (clN p1) (rsn (clN p1) (clN p2)))) (BQ := fun u_ t_ => KP0 D ad cI cJ cQ (nx_rest M (clN p0) (clN p1) (clN p2)) (ts) (pu) t_) (cc := cX0_rest) (maxL := 7) (by decide) rfl (Nat.le_of_ble_eq_true rfl) ?_
  intro p e s m args below meth c Q C0 B0 hX hret ls hl
  obtain ⟨hx, hb, hr, hml, hown, hts, hlocks⟩ := C0
  have hown : s.vm.findClass RX0 = some m.cls := hown
  obtain ⟨hsz, hKX, hK, hP⟩ := B0
  have hw0 : ∀ w ∈ wsX00, w.before args s = true := fun w h => hts w ((by decide +kernel : ∀ w ∈ wsX00, w ∈ wsX0_rest) w h)
  have b_nw := hI.nw
  have b_nv := hI.nv
  subst hsz
  have hAd : ∀ i, i < 27 → azs 27 ad s.heap.size (ad i) := fun i h => azs_i h
  have hS : va_S (azs 27 ad s.heap.size) s.heap s.heap [] := va_S.rf
  have hl : lv_has ls 7 [(0, .ref (ad 0)), (1, .int (p0)), (2, .int (p1)), (3, .int (p2))] := hl
  refine lv_iload_n hx hb dX0_rest_0 rfl (lv_at hl 1 rfl) ?_
  refine lv_aload_n hx hb dX0_rest_1 rfl (lv_at hl 0 rfl) ?_
  refine zg0 hx hb hw0 hown hK hP (by decide) rfl 10 (by decide) (hts (.fieldLink RX0 47 "WellField" "wellCount" "I") (by decide +kernel)) rfl rfl dX0_rest_2 ?_
  refine zx_v (vx_runS (As := [.int (p0), .int (nI (M 0 0))]) (rest := []) ⟨hx, hb, hml, hown, hts⟩ (x0_needIndex l hfl (p0) (M 0 0)) (va_cwS 2 hts gX0_rest_X0_needIndex rfl rfl rfl (by decide +kernel) (by decide)) (psX hKX) rfl rfl hl.1 rfl (lv_room (Nat.le_of_ble_eq_true rfl)) dX0_rest_5 (by decide)) (fun hp hz hk q1 q2 q3 => hX (by decide) (by decide) (by obtain ⟨rfl, h⟩ := hp; simp [cd1, cd2, cd3, h]) hz hk q1 q2 q3) (fun b_1 => ?_)
  refine lv_iload_n hx hb dX0_rest_8 rfl (lv_at hl 2 rfl) ?_
  refine lv_bipush (v := nI 36) hx hb dX0_rest_9 (by decide) ?_
  refine zx_v (vx_runS (As := [.int (p1), .int (nI (36))]) (rest := []) ⟨hx, hb, hml, hown, hts⟩ (x0_needIndex l hfl (p1) (36)) (va_cwS 2 hts gX0_rest_X0_needIndex rfl rfl rfl (by decide +kernel) (by decide)) (psX hKX) rfl rfl hl.1 rfl (lv_room (Nat.le_of_ble_eq_true rfl)) dX0_rest_11 (by decide)) (fun hp hz hk q1 q2 q3 => hX (by decide) (by decide) (by obtain ⟨rfl, h⟩ := hp; simp [cd1, cd2, cd3, h, b_1]) hz hk q1 q2 q3) (fun b_2 => ?_)
  refine lv_iload_n hx hb dX0_rest_14 rfl (lv_at hl 3 rfl) ?_
  refine lv_iconst (v := nI 1) hx hb dX0_rest_15 (by decide) ?_
  refine lv_bipush (v := nI 36) hx hb dX0_rest_16 (by decide) ?_
  refine zx_v (vx_runS (As := [.int (p2), .int (nI (1)), .int (nI (36))]) (rest := []) ⟨hx, hb, hml, hown, hts⟩ (x0_needRange l hfl (p2) (nI (1)) (nI (36))) (va_cwS 3 hts gX0_rest_X0_needRange rfl rfl rfl (by decide +kernel) (by decide)) (psX hKX) rfl rfl hl.1 rfl (lv_room (Nat.le_of_ble_eq_true rfl)) dX0_rest_18 (by decide)) (fun hp hz hk q1 q2 q3 => hX (by decide) (by decide) (by obtain ⟨rfl, h⟩ := hp; simp [cd1, cd2, cd3, h, b_1, b_2]) hz hk q1 q2 q3) (fun b_3 => ?_)
  obtain ⟨w, h_w, rfl⟩ := ixB_of (by omega) b_1
  have cl_w : clN (nI w) = w := clN_nI (by omega)
  obtain ⟨mo, h_mo, rfl⟩ := ixB_of (by omega) b_2
  have cl_mo : clN (nI mo) = mo := clN_nI (by omega)
  obtain ⟨nn, gnn, h_nn, rfl⟩ := rgB_of (by decide) b_3 (by decide)
  have cl_nn : clN (nI nn) = nn := clN_nI (by omega)
  have hrs := rsn_s mo nn h_mo
  refine lv_iload_n hx hb dX0_rest_21 rfl (lv_at hl 2 rfl) ?_
  refine lv_iload_n hx hb dX0_rest_22 rfl (lv_at hl 3 rfl) ?_
  refine zr_iadd hx hb dX0_rest_23 ?_
  refine lv_bipush (v := nI 36) hx hb dX0_rest_24 (by decide) ?_
  refine va_mmin hx hb (hml.trans hl.1.symm) hown (hts (.methodLink RX0 62 Lib.Math.min.name) (by decide +kernel)) (hts (.static Lib.Math.min.name) (by decide +kernel)) (hts (.initialized "java/lang/Math") (by decide +kernel)) (hts (.code Lib.Math.min.name Lib.Math.min.code 2 (some .int)) (by decide +kernel)) (by decide) (Nat.le_of_ble_eq_true rfl) (by decide) (by decide) dX0_rest_26 ?_
  refine zt_i (nmin_nI (by omega) (by omega)) ?_
  refine lv_istore (lv' := [(4, .int (nI (min ((mo) + (nn)) (36)))), (0, .ref (ad 0)), (1, .int (nI (w))), (2, .int (nI (mo))), (3, .int (nI (nn)))]) hx hb dX0_rest_29 hl (by decide) rfl (fun ls hl => ?_)
  refine lv_iconst (v := nI 0) hx hb dX0_rest_31 (by decide) ?_
  refine lv_istore (lv' := [(5, .int (nI (0))), (4, .int (nI (min ((mo) + (nn)) (36)))), (0, .ref (ad 0)), (1, .int (nI (w))), (2, .int (nI (mo))), (3, .int (nI (nn)))]) hx hb dX0_rest_32 hl (by decide) rfl (fun ls hl => ?_)
  refine lv_iload_n hx hb dX0_rest_34 rfl (lv_at hl 4 rfl) ?_
  refine lv_istore (lv' := [(6, .int (nI (mo))), (5, .int (nI (0))), (4, .int (nI (min ((mo) + (nn)) (36)))), (0, .ref (ad 0)), (1, .int (nI (w))), (2, .int (nI (mo))), (3, .int (nI (nn)))]) hx hb dX0_rest_35 hl (by decide) rfl (fun ls hl => ?_)
  have lp37 : ∀ (n k : Nat), k ≤ rsn mo nn → rsn mo nn - k < n → ∀ (H : Heap) (locs : List Loc), va_P D vwCl (wz 27 ad (wcE ad cI cJ cQ (rst M w mo (k)) (ts) (pu))) H → va_S (azs 27 ad s.heap.size) s.heap H locs → ∀ ls : Array Slot, lv_has ls 7 [(0, .ref (ad 0)), (1, .int (nI (w))), (2, .int (nI (mo))), (3, .int (nI (nn))), (4, .int (nI (min ((mo) + (nn)) (36)))), (5, .int (nI (ssum (fun k => M (10 + 3 * w) (mo + k)) (k)))), (6, .int (nI (mo + (k))))] → W p l e (rmX 1 3) s m args below meth c H locs 3 18 Q (F0 m 37 ls []) := by
    intro n
    induction n with
    | zero => intro k q1 q2; omega
    | succ n ih37 =>
      intro k q1_37 q2_37 H locs hP hS ls hl
      refine lv_iload hx hb dX0_rest_37 (lv_at hl 6 rfl) ?_
      refine lv_iload hx hb dX0_rest_39 (lv_at hl 4 rfl) ?_
      refine zb_ge (tgt := 74) hx hb (by omega) (by omega) dX0_rest_41 (by decide) (fun c_4 => ?_) (fun c_4 => ?_)
      · skip
        have q_5 : k = rsn mo nn := by omega
        subst q_5
        refine lv_iload hx hb dX0_rest_74 (lv_at hl 5 rfl) ?_
        have hP9 : va_P D vwCl (wz 27 ad (wcE ad cI cJ cQ (nx_rest M (clN (nI w)) (clN (nI mo)) (clN (nI nn))) (ts) (pu))) H := by rw [cl_w, cl_mo, cl_nn]; exact hP
        exact hret (u := ()) (by decide) (by decide) (And.intro (by simp [b_1, b_2, b_3]) (by rw [cl_w, cl_mo, cl_nn]; rfl)) hS (fun t ht hA => ⟨va_K.moved hA hK, by rw [ht]; exact hP9⟩) dX0_rest_76
      · skip
        refine lv_iload hx hb dX0_rest_44 (lv_at hl 5 rfl) ?_
        refine lv_aload_n hx hb dX0_rest_46 rfl (lv_at hl 0 rfl) ?_
        refine zg0 hx hb hw0 hown hK hP (by decide) rfl 3 (by decide) (hts (.fieldLink RX0 21 "WellField" "pumping" "[[I") (by decide +kernel)) rfl rfl dX0_rest_47 ?_
        refine lv_iload_n hx hb dX0_rest_50 rfl (lv_at hl 1 rfl) ?_
        refine zq_ld hx hb hK hP 4 (by decide) 2 rfl rfl (by decide) (i := w) (by omega) (a := ad (11 + (w))) rfl dX0_rest_51 ?_
        refine lv_iload hx hb dX0_rest_52 (lv_at hl 6 rfl) ?_
        refine zi_ld hx hb hK hP (11 + (w)) (by omega) 0 (wcE_pump (by omega)) rfl (by decide) (i := mo + (k)) (by omega) (v := nI ((rst M w mo (k)) (10 + 3 * (w)) (mo + (k)))) rfl dX0_rest_54 ?_
        refine zt_i (y := nI (M (10 + 3 * w) (mo + k))) (congrArg nI (rst_at M w mo k k (Nat.le_refl _))) ?_
        refine zr_iadd hx hb dX0_rest_55 ?_
        refine lv_istore (lv' := [(5, .int (nI ((ssum (fun k => M (10 + 3 * w) (mo + k)) (k)) + (M (10 + 3 * w) (mo + k))))), (0, .ref (ad 0)), (1, .int (nI (w))), (2, .int (nI (mo))), (3, .int (nI (nn))), (4, .int (nI (min ((mo) + (nn)) (36)))), (6, .int (nI (mo + (k))))]) hx hb dX0_rest_56 hl (by decide) rfl (fun ls hl => ?_)
        refine lv_aload_n hx hb dX0_rest_58 rfl (lv_at hl 1 rfl) ?_
        refine zg0 hx hb hw0 hown hK hP (by decide) rfl 3 (by decide) (hts (.fieldLink RX0 21 "WellField" "pumping" "[[I") (by decide +kernel)) rfl rfl dX0_rest_59 ?_
        refine lv_iload_n hx hb dX0_rest_62 rfl (lv_at hl 2 rfl) ?_
        refine zq_ld hx hb hK hP 4 (by decide) 2 rfl rfl (by decide) (i := w) (by omega) (a := ad (11 + (w))) rfl dX0_rest_63 ?_
        refine lv_iload hx hb dX0_rest_64 (lv_at hl 6 rfl) ?_
        refine lv_iconst (v := nI 0) hx hb dX0_rest_66 (by decide) ?_
        refine zi_st hx hb hK hP hnd hAd hS (11 + (w)) (by omega) 0 (wcE_pump (by omega)) rfl (by decide) (i := mo + (k)) (by omega) (wcE ad cI cJ cQ (mup (rst M w mo (k)) (10 + 3 * (w)) (mo + (k)) (0)) (ts) (pu)) (wcS_un (by omega)) dX0_rest_67 (fun H locs hP hS => ?_)
        refine lv_iinc (v := nI (mo + (k) + 1)) (lv' := [(6, .int (nI (mo + (k) + 1))), (5, .int (nI ((ssum (fun k => M (10 + 3 * w) (mo + k)) (k)) + (M (10 + 3 * w) (mo + k))))), (0, .ref (ad 0)), (1, .int (nI (w))), (2, .int (nI (mo))), (3, .int (nI (nn))), (4, .int (nI (min ((mo) + (nn)) (36))))]) hx hb dX0_rest_68 hl (k := 6) rfl (zn_inc (mo + (k))) (by decide) rfl (fun ls hl => ?_)
        refine lv_goto (tgt := 37) hx hb dX0_rest_71 (by decide) ?_
        exact ih37 (k + 1) (by omega) (by omega) _ _ hP hS _ (lv_sub hl [2, 3, 4, 5, 6, 1, 0] rfl)
  exact lp37 (rsn mo nn - (0) + 1) (0) (by omega) (by omega) _ _ hP hS _ (lv_sub hl [3, 4, 5, 6, 2, 1, 0] rfl)
set_option maxHeartbeats 4000000 in
set_option maxRecDepth 100000 in
/-- ratio -/
theorem p0_ratio (l : Launch) (hfl : l.stackTraces = false) {D : va_G} {ad : Nat → Nat} {cI cJ cQ : ClassId} {M : Mdl} {ts : Nat → Nat} {pu : Nat → Int64} {sa : Nat → Nat} {Z : Nat → Prop} {sz : Nat} (hI : Inv M) (hnd : ndz 27 ad)  (p0 p1 p2 : Int32) : vx_Met l yX0_ratio wsX0_ratio (rmX 1 3) (va_Pc [.ref (ad 0), .int (p0), .int (p1), .int (p2)] (KP0X D ad cI cJ cQ M ts pu sa Z sz)) (va_Qi (fun r_ (u_ : Unit) => ((ixB p0 3 && ixB p1 3) && rgB p2 (nI 0) (nI 200)) = true ∧ r_ = nI (M (12 + 3 * clN p0) (clN p1))) (fun (u_ : Unit) t_ => KP0 D ad cI cJ cQ (nx_ratio M (clN p0) (clN p1) (clN p2)) (ts) (pu) t_) (azs 27 ad sz)) (XCE (fun E => (E = eI ∧ cd2 (ixB p0 3 && ixB p1 3) (rgB p2 (nI 0) (nI 200)) = 1) ∨ (E = eA ∧ cd2 (ixB p0 3 && ixB p1 3) (rgB p2 (nI 0) (nI 200)) = 2))) 3 18 (azs 27 ad sz) := by
  refine mkX_Qi (S := Unit) (post := fun r_ u_ => ((ixB p0 3 && ixB p1 3) && rgB p2 (nI 0) (nI 200)) = true ∧ r_ = nI (M (12 + 3 * clN p0) (clN p1))) (BQ := fun u_ t_ => KP0 D ad cI cJ cQ (nx_ratio M (clN p0) (clN p1) (clN p2)) (ts) (pu) t_) (cc := cX0_ratio) (maxL := 5) (by decide) rfl (Nat.le_of_ble_eq_true rfl) ?_
  intro p e s m args below meth c Q C0 B0 hX hret ls hl
  obtain ⟨hx, hb, hr, hml, hown, hts, hlocks⟩ := C0
  have hown : s.vm.findClass RX0 = some m.cls := hown
  obtain ⟨hsz, hKX, hK, hP⟩ := B0
  have hw0 : ∀ w ∈ wsX00, w.before args s = true := fun w h => hts w ((by decide +kernel : ∀ w ∈ wsX00, w ∈ wsX0_ratio) w h)
  have b_nw := hI.nw
  have b_nv := hI.nv
  subst hsz
  have hAd : ∀ i, i < 27 → azs 27 ad s.heap.size (ad i) := fun i h => azs_i h
  have hS : va_S (azs 27 ad s.heap.size) s.heap s.heap [] := va_S.rf
  have hl : lv_has ls 5 [(0, .ref (ad 0)), (1, .int (p0)), (2, .int (p1)), (3, .int (p2))] := hl
  refine lv_iload_n hx hb dX0_ratio_0 rfl (lv_at hl 1 rfl) ?_
  refine lv_iconst (v := nI 3) hx hb dX0_ratio_1 (by decide) ?_
  refine zx_v (vx_runS (As := [.int (p0), .int (nI (3))]) (rest := []) ⟨hx, hb, hml, hown, hts⟩ (x0_needIndex l hfl (p0) (3)) (va_cwS 2 hts gX0_ratio_X0_needIndex rfl rfl rfl (by decide +kernel) (by decide)) (psX hKX) rfl rfl hl.1 rfl (lv_room (Nat.le_of_ble_eq_true rfl)) dX0_ratio_2 (by decide)) (fun hp hz hk q1 q2 q3 => hX (by decide) (by decide) (by obtain ⟨rfl, h⟩ := hp; simp [cd1, cd2, cd3, h]) hz hk q1 q2 q3) (fun b_1 => ?_)
  refine lv_iload_n hx hb dX0_ratio_5 rfl (lv_at hl 2 rfl) ?_
  refine lv_iconst (v := nI 3) hx hb dX0_ratio_6 (by decide) ?_
  refine zx_v (vx_runS (As := [.int (p1), .int (nI (3))]) (rest := []) ⟨hx, hb, hml, hown, hts⟩ (x0_needIndex l hfl (p1) (3)) (va_cwS 2 hts gX0_ratio_X0_needIndex rfl rfl rfl (by decide +kernel) (by decide)) (psX hKX) rfl rfl hl.1 rfl (lv_room (Nat.le_of_ble_eq_true rfl)) dX0_ratio_7 (by decide)) (fun hp hz hk q1 q2 q3 => hX (by decide) (by decide) (by obtain ⟨rfl, h⟩ := hp; simp [cd1, cd2, cd3, h, b_1]) hz hk q1 q2 q3) (fun b_2 => ?_)
  refine lv_iload_n hx hb dX0_ratio_10 rfl (lv_at hl 3 rfl) ?_
  refine lv_iconst (v := nI 0) hx hb dX0_ratio_11 (by decide) ?_
  refine lv_sipush (v := nI 200) hx hb dX0_ratio_12 (by decide) ?_
  refine zx_v (vx_runS (As := [.int (p2), .int (nI (0)), .int (nI (200))]) (rest := []) ⟨hx, hb, hml, hown, hts⟩ (x0_needRange l hfl (p2) (nI (0)) (nI (200))) (va_cwS 3 hts gX0_ratio_X0_needRange rfl rfl rfl (by decide +kernel) (by decide)) (psX hKX) rfl rfl hl.1 rfl (lv_room (Nat.le_of_ble_eq_true rfl)) dX0_ratio_15 (by decide)) (fun hp hz hk q1 q2 q3 => hX (by decide) (by decide) (by obtain ⟨rfl, h⟩ := hp; simp [cd1, cd2, cd3, h, b_1, b_2]) hz hk q1 q2 q3) (fun b_3 => ?_)
  obtain ⟨a0, h_a0, rfl⟩ := ixB_of (by omega) b_1
  have cl_a0 : clN (nI a0) = a0 := clN_nI (by omega)
  obtain ⟨a1, h_a1, rfl⟩ := ixB_of (by omega) b_2
  have cl_a1 : clN (nI a1) = a1 := clN_nI (by omega)
  obtain ⟨a2, ga2, h_a2, rfl⟩ := rgB_of (by decide) b_3 (by decide)
  have cl_a2 : clN (nI a2) = a2 := clN_nI (by omega)
  refine lv_aload_n hx hb dX0_ratio_18 rfl (lv_at hl 0 rfl) ?_
  refine zg0 hx hb hw0 hown hK hP (by decide) rfl 8 (by decide) (hts (.fieldLink RX0 36 "WellField" "ratios" "[[I") (by decide +kernel)) rfl rfl dX0_ratio_19 ?_
  refine lv_iload_n hx hb dX0_ratio_22 rfl (lv_at hl 1 rfl) ?_
  refine zq_ld hx hb hK hP 9 (by decide) 2 rfl rfl (by decide) (i := a0) (by omega) (a := ad (24 + (a0))) rfl dX0_ratio_23 ?_
  refine lv_iload_n hx hb dX0_ratio_24 rfl (lv_at hl 2 rfl) ?_
  refine zi_ld hx hb hK hP (24 + (a0)) (by omega) 0 (wcE_rat (by omega)) rfl (by decide) (i := a1) (by omega) (v := nI (M (12 + 3 * (a0)) (a1))) rfl dX0_ratio_25 ?_
  have f_4 := hI.ra (a0) (by omega) (a1)
  refine lv_istore (lv' := [(4, .int (nI (M (12 + 3 * (a0)) (a1)))), (0, .ref (ad 0)), (1, .int (nI (a0))), (2, .int (nI (a1))), (3, .int (nI (a2)))]) hx hb dX0_ratio_26 hl (by decide) rfl (fun ls hl => ?_)
  refine lv_aload_n hx hb dX0_ratio_28 rfl (lv_at hl 1 rfl) ?_
  refine zg0 hx hb hw0 hown hK hP (by decide) rfl 8 (by decide) (hts (.fieldLink RX0 36 "WellField" "ratios" "[[I") (by decide +kernel)) rfl rfl dX0_ratio_29 ?_
  refine lv_iload_n hx hb dX0_ratio_32 rfl (lv_at hl 2 rfl) ?_
  refine zq_ld hx hb hK hP 9 (by decide) 2 rfl rfl (by decide) (i := a0) (by omega) (a := ad (24 + (a0))) rfl dX0_ratio_33 ?_
  refine lv_iload_n hx hb dX0_ratio_34 rfl (lv_at hl 3 rfl) ?_
  refine lv_iload_n hx hb dX0_ratio_35 rfl (lv_at hl 4 rfl) ?_
  refine zi_st hx hb hK hP hnd hAd hS (24 + (a0)) (by omega) 0 (wcE_rat (by omega)) rfl (by decide) (i := a1) (by omega) (wcE ad cI cJ cQ (mup (M) (12 + 3 * (a0)) (a1) (a2)) (ts) (pu)) (wcS_ra (by omega)) dX0_ratio_36 (fun H locs hP hS => ?_)
  refine lv_iload hx hb dX0_ratio_37 (lv_at hl 0 rfl) ?_
  have hP9 : va_P D vwCl (wz 27 ad (wcE ad cI cJ cQ (nx_ratio M (clN (nI a0)) (clN (nI a1)) (clN (nI a2))) (ts) (pu))) H := by rw [cl_a0, cl_a1, cl_a2]; exact hP
  exact hret (u := ()) (by decide) (by decide) (And.intro (by simp [b_1, b_2, b_3]) (by rw [cl_a0, cl_a1])) hS (fun t ht hA => ⟨va_K.moved hA hK, by rw [ht]; exact hP9⟩) dX0_ratio_39
set_option maxHeartbeats 4000000 in
set_option maxRecDepth 100000 in
/-- trade -/
theorem p0_trade (l : Launch) (hfl : l.stackTraces = false) {D : va_G} {ad : Nat → Nat} {cI cJ cQ : ClassId} {M : Mdl} {ts : Nat → Nat} {pu : Nat → Int64} {sa : Nat → Nat} {Z : Nat → Prop} {sz : Nat} (hI : Inv M) (hnd : ndz 27 ad) (hT : hTs M ts) (p0 p1 p2 : Int32) : vx_Met l yX0_trade wsX0_trade (rmX 2 5) (va_Pc [.ref (ad 0), .int (p0), .int (p1), .int (p2)] (KP0X D ad cI cJ cQ M ts pu sa Z sz)) (va_Qi (fun r_ (u_ : Unit) => ((ixB p0 (M 0 0) && ixB p1 (M 0 0)) && (decide (p0 ≠ p1) && rgB p2 (nI 1) (nI 5000)) && cn M (clN p0) (clN p1) (clN p2)) = true ∧ r_ = nI (gt M (clN p0) (clN p1) (clN p2))) (fun (u_ : Unit) t_ => KP0 D ad cI cJ cQ (nx_trade M (clN p0) (clN p1) (clN p2)) (ts) (pu) t_) (azs 27 ad sz)) (XCE (fun E => (E = eI ∧ cd3 (ixB p0 (M 0 0) && ixB p1 (M 0 0)) (decide (p0 ≠ p1) && rgB p2 (nI 1) (nI 5000)) (cn M (clN p0) (clN p1) (clN p2)) = 1) ∨ (E = eA ∧ cd3 (ixB p0 (M 0 0) && ixB p1 (M 0 0)) (decide (p0 ≠ p1) && rgB p2 (nI 1) (nI 5000)) (cn M (clN p0) (clN p1) (clN p2)) = 2) ∨ (E = eS ∧ cd3 (ixB p0 (M 0 0) && ixB p1 (M 0 0)) (decide (p0 ≠ p1) && rgB p2 (nI 1) (nI 5000)) (cn M (clN p0) (clN p1) (clN p2)) = 3))) 5 30 (azs 27 ad sz) := by
  refine mkX_Qi (S := Unit) (post := fun r_ u_ => ((ixB p0 (M 0 0) && ixB p1 (M 0 0)) && (decide (p0 ≠ p1) && rgB p2 (nI 1) (nI 5000)) && cn M (clN p0) (clN p1) (clN p2)) = true ∧ r_ = nI (gt M (clN p0) (clN p1) (clN p2))) (BQ := fun u_ t_ => KP0 D ad cI cJ cQ (nx_trade M (clN p0) (clN p1) (clN p2)) (ts) (pu) t_) (cc := cX0_trade) (maxL := 5) (by decide) rfl (Nat.le_of_ble_eq_true rfl) ?_
  intro p e s m args below meth c Q C0 B0 hX hret ls hl
  obtain ⟨hx, hb, hr, hml, hown, hts, hlocks⟩ := C0
  have hown : s.vm.findClass RX0 = some m.cls := hown
  obtain ⟨hsz, hKX, hK, hP⟩ := B0
  have hw0 : ∀ w ∈ wsX00, w.before args s = true := fun w h => hts w ((by decide +kernel : ∀ w ∈ wsX00, w ∈ wsX0_trade) w h)
  have b_nw := hI.nw
  have b_nv := hI.nv
  subst hsz
  have hAd : ∀ i, i < 27 → azs 27 ad s.heap.size (ad i) := fun i h => azs_i h
  have hS : va_S (azs 27 ad s.heap.size) s.heap s.heap [] := va_S.rf
  have hl : lv_has ls 5 [(0, .ref (ad 0)), (1, .int (p0)), (2, .int (p1)), (3, .int (p2))] := hl
  refine lv_aload_n hx hb dX0_trade_0 rfl (lv_at hl 0 rfl) ?_
  refine lv_iload_n hx hb dX0_trade_1 rfl (lv_at hl 1 rfl) ?_
  refine lv_iload_n hx hb dX0_trade_2 rfl (lv_at hl 2 rfl) ?_
  refine zx_v (vx_runV (As := [.int (p0), .int (p1)]) (rest := []) ⟨hx, hb, hml, hown, hts⟩ (x0_needTwoWells l hfl hI (p0) (p1)) (cwV 2 hts gX0_trade_X0_needTwoWells rfl rfl rfl (by decide +kernel) (by decide)) (pv0X (s0 := s.heap) hK hP hKX (fun _ _ _ => rfl)) rfl rfl hl.1 rfl (lv_room (Nat.le_of_ble_eq_true rfl)) dX0_trade_3 (by decide)) (fun hp hz hk q1 q2 q3 => hX (by decide) (by decide) (by rcases hp with ⟨rfl, h⟩ | ⟨rfl, h, h9⟩ <;> first | (simp [cd1, cd2, cd3, h]; done) | (simp [cd1, cd2, cd3, (Bool.and_eq_true_iff.mp h).2, h9]; done)) hz hk q1 q2 q3) (fun b_1 => ?_)
  refine lv_iload_n hx hb dX0_trade_6 rfl (lv_at hl 3 rfl) ?_
  refine lv_iconst (v := nI 1) hx hb dX0_trade_7 (by decide) ?_
  refine lv_sipush (v := nI 5000) hx hb dX0_trade_8 (by decide) ?_
  refine zx_v (vx_runS (As := [.int (p2), .int (nI (1)), .int (nI (5000))]) (rest := []) ⟨hx, hb, hml, hown, hts⟩ (x0_needRange l hfl (p2) (nI (1)) (nI (5000))) (va_cwS 3 hts gX0_trade_X0_needRange rfl rfl rfl (by decide +kernel) (by decide)) (psX hKX) rfl rfl hl.1 rfl (lv_room (Nat.le_of_ble_eq_true rfl)) dX0_trade_11 (by decide)) (fun hp hz hk q1 q2 q3 => hX (by decide) (by decide) (by obtain ⟨rfl, h⟩ := hp; simp [cd1, cd2, cd3, h, b_1]) hz hk q1 q2 q3) (fun b_2 => ?_)
  have b_t : (ixB p0 (M 0 0) && ixB p1 (M 0 0)) = true := b_1.1
  have b_n : decide (p0 ≠ p1) = true := decide_eq_true b_1.2
  have h_ne := b_1.2
  obtain ⟨f, h_f, rfl⟩ := ixB_of (by omega) (Bool.and_eq_true_iff.mp b_1.1).1
  have cl_f : clN (nI f) = f := clN_nI (by omega)
  obtain ⟨t, h_t, rfl⟩ := ixB_of (by omega) (Bool.and_eq_true_iff.mp b_1.1).2
  have cl_t : clN (nI t) = t := clN_nI (by omega)
  obtain ⟨u, gu, h_u, rfl⟩ := rgB_of (by decide) b_2 (by decide)
  have cl_u : clN (nI u) = u := clN_nI (by omega)
  have h_ft : f ≠ t := fun q => h_ne (by rw [q])
  refine lv_aload_n hx hb dX0_trade_14 rfl (lv_at hl 0 rfl) ?_
  refine lv_iload_n hx hb dX0_trade_15 rfl (lv_at hl 1 rfl) ?_
  refine lv_iload_n hx hb dX0_trade_16 rfl (lv_at hl 2 rfl) ?_
  refine lv_iload_n hx hb dX0_trade_17 rfl (lv_at hl 3 rfl) ?_
  refine vp_callSi (W.runV (As := [.int (nI (f)), .int (nI (t)), .int (nI (u))]) (rest := []) ⟨hx, hb, hml, hown, hts⟩ (c0_canTrade l hI (f := f) (t := t) (u := u) (by omega) (by omega) (by omega) hT) (cwV 3 hts gX0_trade_X0_canTrade rfl rfl rfl (by decide +kernel) (by decide)) (pv0 hK hP) rfl rfl hl.1 rfl (lv_room (Nat.le_of_ble_eq_true rfl)) dX0_trade_18 (by decide)) (fun r_3 hr_3 => ?_)
  obtain ⟨b_4, rfl, hb_4⟩ := hr_3
  subst hb_4
  refine zx_v (vx_runS (As := [.int (bB (cn M (f) (t) (u)))]) (rest := []) ⟨hx, hb, hml, hown, hts⟩ (x0_needAllowed l hfl (cn M (f) (t) (u))) (va_cwS 1 hts gX0_trade_X0_needAllowed rfl rfl rfl (by decide +kernel) (by decide)) (psX hKX) rfl rfl hl.1 rfl (lv_room (Nat.le_of_ble_eq_true rfl)) dX0_trade_21 (by decide)) (fun hp hz hk q1 q2 q3 => hX (by decide) (by decide) (by obtain ⟨rfl, h⟩ := hp; simp [cd1, cd2, cd3, h, b_t, b_n, b_2, cl_f, cl_t, cl_u]) hz hk q1 q2 q3) (fun b_5 => ?_)
  have h_cn := cn_s b_5
  refine lv_aload_n hx hb dX0_trade_24 rfl (lv_at hl 0 rfl) ?_
  refine lv_iload_n hx hb dX0_trade_25 rfl (lv_at hl 1 rfl) ?_
  refine lv_iload_n hx hb dX0_trade_26 rfl (lv_at hl 2 rfl) ?_
  refine lv_iload_n hx hb dX0_trade_27 rfl (lv_at hl 3 rfl) ?_
  refine vp_callSi (W.runV (As := [.int (nI (f)), .int (nI (t)), .int (nI (u))]) (rest := []) ⟨hx, hb, hml, hown, hts⟩ (c0_unitsGot l hI (f := f) (t := t) (u := u) (by omega) (by omega) (by omega)) (cwV 3 hts gX0_trade_X0_unitsGot rfl rfl rfl (by decide +kernel) (by decide)) (pv0 hK hP) rfl rfl hl.1 rfl (lv_room (Nat.le_of_ble_eq_true rfl)) dX0_trade_28 (by decide)) (fun r_6 hr_6 => ?_)
  subst hr_6
  have f_7 := (gt_le hI (f) (t) (u := u) (by omega)).2
  refine lv_istore (lv' := [(4, .int (nI (gt M (f) (t) (u)))), (0, .ref (ad 0)), (1, .int (nI (f))), (2, .int (nI (t))), (3, .int (nI (u)))]) hx hb dX0_trade_31 hl (by decide) rfl (fun ls hl => ?_)
  refine lv_aload_n hx hb dX0_trade_33 rfl (lv_at hl 1 rfl) ?_
  refine zg0 hx hb hw0 hown hK hP (by decide) rfl 2 (by decide) (hts (.fieldLink RX0 16 "WellField" "licences" "[I") (by decide +kernel)) rfl rfl dX0_trade_34 ?_
  refine lv_iload_n hx hb dX0_trade_37 rfl (lv_at hl 2 rfl) ?_
  refine lv_dup2_11 hx hb dX0_trade_38 rfl rfl ?_
  refine zi_ld hx hb hK hP 3 (by decide) 0 rfl rfl (by decide) (i := f) (by omega) (v := nI (M 3 (f))) rfl dX0_trade_39 ?_
  have f_8 := hI.li (f)
  refine lv_iload_n hx hb dX0_trade_40 rfl (lv_at hl 4 rfl) ?_
  refine zr_isub hx hb (by omega) dX0_trade_41 ?_
  refine zi_st hx hb hK hP hnd hAd hS 3 (by decide) 0 rfl rfl (by decide) (i := f) (by omega) (wcE ad cI cJ cQ (mup (M) 3 (f) ((M 3 (f)) - (u))) (ts) (pu)) wcS_li dX0_trade_42 (fun H locs hP hS => ?_)
  refine lv_aload_n hx hb dX0_trade_43 rfl (lv_at hl 1 rfl) ?_
  refine zg0 hx hb hw0 hown hK hP (by decide) rfl 2 (by decide) (hts (.fieldLink RX0 16 "WellField" "licences" "[I") (by decide +kernel)) rfl rfl dX0_trade_44 ?_
  refine lv_iload_n hx hb dX0_trade_47 rfl (lv_at hl 3 rfl) ?_
  refine lv_dup2_11 hx hb dX0_trade_48 rfl rfl ?_
  refine zi_ld hx hb hK hP 3 (by decide) 0 rfl rfl (by decide) (i := t) (by omega) (v := nI ((mup (M) 3 (f) ((M 3 (f)) - (u))) 3 (t))) rfl dX0_trade_49 ?_
  refine zt_i (y := nI (M 3 t)) (congrArg nI (mup_i (Ne.symm h_ft))) ?_
  refine lv_iload hx hb dX0_trade_50 (lv_at hl 0 rfl) ?_
  refine zr_iadd hx hb dX0_trade_52 ?_
  refine zi_st hx hb hK hP hnd hAd hS 3 (by decide) 0 rfl rfl (by decide) (i := t) (by omega) (wcE ad cI cJ cQ (mup (mup (M) 3 (f) ((M 3 (f)) - (u))) 3 (t) ((M 3 t) + (gt M (f) (t) (u)))) (ts) (pu)) wcS_li dX0_trade_53 (fun H locs hP hS => ?_)
  refine lv_iload hx hb dX0_trade_54 (lv_at hl 0 rfl) ?_
  have hP9 : va_P D vwCl (wz 27 ad (wcE ad cI cJ cQ (nx_trade M (clN (nI f)) (clN (nI t)) (clN (nI u))) (ts) (pu))) H := by rw [cl_f, cl_t, cl_u]; exact hP
  exact hret (u := ()) (by decide) (by decide) (And.intro (by simp [b_t, b_n, b_2, cl_f, cl_t, cl_u, b_5]) (by rw [cl_f, cl_t, cl_u])) hS (fun t ht hA => ⟨va_K.moved hA hK, by rw [ht]; exact hP9⟩) dX0_trade_56
set_option maxHeartbeats 4000000 in
set_option maxRecDepth 100000 in
/-- mostTraded -/
theorem p0_mostTraded (l : Launch) (hfl : l.stackTraces = false) {D : va_G} {ad : Nat → Nat} {cI cJ cQ : ClassId} {M : Mdl} {ts : Nat → Nat} {pu : Nat → Int64} {sa : Nat → Nat} {Z : Nat → Prop} {sz : Nat} (hI : Inv M) (hT : hTs M ts) (p0 p1 : Int32) : vx_Met l yX0_mostTraded wsX0_mostTraded (rmX 2 3) (va_Pc [.ref (ad 0), .int (p0), .int (p1)] (KP0X D ad cI cJ cQ M ts pu sa Z sz)) (vp_Si (fun r_ => ((ixB p0 (M 0 0) && ixB p1 (M 0 0)) && decide (p0 ≠ p1)) = true ∧ r_ = nI (mtr M (clN p0) (clN p1) 5000))) (XCE (fun E => (E = eI ∧ cd2 (ixB p0 (M 0 0) && ixB p1 (M 0 0)) (decide (p0 ≠ p1)) = 1) ∨ (E = eA ∧ cd2 (ixB p0 (M 0 0) && ixB p1 (M 0 0)) (decide (p0 ≠ p1)) = 2))) 3 18 (fun _ => False) := by
  refine mkX_Si (post := fun r_ => ((ixB p0 (M 0 0) && ixB p1 (M 0 0)) && decide (p0 ≠ p1)) = true ∧ r_ = nI (mtr M (clN p0) (clN p1) 5000)) (cc := cX0_mostTraded) (maxL := 4) (by decide) rfl (Nat.le_of_ble_eq_true rfl) ?_
  intro p e s m args below meth c Q C0 B0 hX hret ls hl
  obtain ⟨hx, hb, hr, hml, hown, hts, hlocks⟩ := C0
  have hown : s.vm.findClass RX0 = some m.cls := hown
  obtain ⟨hsz, hKX, hK, hP⟩ := B0
  have hw0 : ∀ w ∈ wsX00, w.before args s = true := fun w h => hts w ((by decide +kernel : ∀ w ∈ wsX00, w ∈ wsX0_mostTraded) w h)
  have b_nw := hI.nw
  have b_nv := hI.nv
  have hl : lv_has ls 4 [(0, .ref (ad 0)), (1, .int (p0)), (2, .int (p1))] := hl
  refine lv_aload_n hx hb dX0_mostTraded_0 rfl (lv_at hl 0 rfl) ?_
  refine lv_iload_n hx hb dX0_mostTraded_1 rfl (lv_at hl 1 rfl) ?_
  refine lv_iload_n hx hb dX0_mostTraded_2 rfl (lv_at hl 2 rfl) ?_
  refine zx_v (vx_runV (As := [.int (p0), .int (p1)]) (rest := []) ⟨hx, hb, hml, hown, hts⟩ (x0_needTwoWells l hfl hI (p0) (p1)) (cwV 2 hts gX0_mostTraded_X0_needTwoWells rfl rfl rfl (by decide +kernel) (by decide)) (pv0X (s0 := s.heap) hK hP hKX (fun _ _ _ => rfl)) rfl rfl hl.1 rfl (lv_room (Nat.le_of_ble_eq_true rfl)) dX0_mostTraded_3 (by decide)) (fun hp hz hk q1 q2 q3 => hX (by decide) (by decide) (by rcases hp with ⟨rfl, h⟩ | ⟨rfl, h, h9⟩ <;> first | (simp [cd1, cd2, cd3, h]; done) | (simp [cd1, cd2, cd3, (Bool.and_eq_true_iff.mp h).2, h9]; done)) hz hk q1 q2 q3) (fun b_1 => ?_)
  have b_t : (ixB p0 (M 0 0) && ixB p1 (M 0 0)) = true := b_1.1
  have b_n : decide (p0 ≠ p1) = true := decide_eq_true b_1.2
  obtain ⟨f, h_f, rfl⟩ := ixB_of (by omega) (Bool.and_eq_true_iff.mp b_1.1).1
  have cl_f : clN (nI f) = f := clN_nI (by omega)
  obtain ⟨t, h_t, rfl⟩ := ixB_of (by omega) (Bool.and_eq_true_iff.mp b_1.1).2
  have cl_t : clN (nI t) = t := clN_nI (by omega)
  refine lv_aload_n hx hb dX0_mostTraded_6 rfl (lv_at hl 0 rfl) ?_
  refine zg0 hx hb hw0 hown hK hP (by decide) rfl 2 (by decide) (hts (.fieldLink RX0 16 "WellField" "licences" "[I") (by decide +kernel)) rfl rfl dX0_mostTraded_7 ?_
  refine lv_iload_n hx hb dX0_mostTraded_10 rfl (lv_at hl 1 rfl) ?_
  refine zi_ld hx hb hK hP 3 (by decide) 0 rfl rfl (by decide) (i := f) (by omega) (v := nI (M 3 (f))) rfl dX0_mostTraded_11 ?_
  have f_2 := hI.li (f)
  refine lv_sipush (v := nI 5000) hx hb dX0_mostTraded_12 (by decide) ?_
  refine va_mmin hx hb (hml.trans hl.1.symm) hown (hts (.methodLink RX0 62 Lib.Math.min.name) (by decide +kernel)) (hts (.static Lib.Math.min.name) (by decide +kernel)) (hts (.initialized "java/lang/Math") (by decide +kernel)) (hts (.code Lib.Math.min.name Lib.Math.min.code 2 (some .int)) (by decide +kernel)) (by decide) (Nat.le_of_ble_eq_true rfl) (by decide) (by decide) dX0_mostTraded_15 ?_
  refine zt_i (nmin_nI (by omega) (by omega)) ?_
  refine lv_istore_n (lv' := [(3, .int (nI (min (M 3 (f)) (5000)))), (0, .ref (ad 0)), (1, .int (nI (f))), (2, .int (nI (t)))]) hx hb dX0_mostTraded_18 rfl hl (by decide) rfl (fun ls hl => ?_)
  have lp19 : ∀ (n u : Nat), u < n → u ≤ 5000 → mtr M f t u = mtr M f t 5000 → ∀ ls : Array Slot, lv_has ls 4 [(0, .ref (ad 0)), (1, .int (nI (f))), (2, .int (nI (t))), (3, .int (nI (u)))] → W p l e (rmX 2 3) s m args below meth c s.heap [] 3 18 Q (F0 m 19 ls []) := by
    intro n
    induction n with
    | zero => intro u q1; omega
    | succ n ih19 =>
      intro u q1_19 q2_19 hm ls hl
      refine lv_iload_n hx hb dX0_mostTraded_19 rfl (lv_at hl 3 rfl) ?_
      refine zb_0le (tgt := 41) hx hb (by omega) dX0_mostTraded_20 (by decide) (fun c_3 => ?_) (fun c_3 => ?_)
      · skip
        have hm3 : 0 = mtr M f t 5000 := by rw [← hm, c_3]; rfl
        refine lv_iconst (v := nI 0) hx hb dX0_mostTraded_41 (by decide) ?_
        exact hret (by decide) (by decide) (And.intro (by simp [b_t, b_n]) (by rw [cl_f, cl_t, ← hm3])) dX0_mostTraded_42
      · skip
        obtain ⟨u2, rfl⟩ : ∃ u2, u = u2 + 1 := ⟨u - 1, by omega⟩
        refine lv_aload_n hx hb dX0_mostTraded_23 rfl (lv_at hl 0 rfl) ?_
        refine lv_iload_n hx hb dX0_mostTraded_24 rfl (lv_at hl 1 rfl) ?_
        refine lv_iload_n hx hb dX0_mostTraded_25 rfl (lv_at hl 2 rfl) ?_
        refine lv_iload_n hx hb dX0_mostTraded_26 rfl (lv_at hl 3 rfl) ?_
        refine vp_callSi (W.runV (As := [.int (nI (f)), .int (nI (t)), .int (nI (u2 + 1))]) (rest := []) ⟨hx, hb, hml, hown, hts⟩ (c0_canTrade l hI (f := f) (t := t) (u := u2 + 1) (by omega) (by omega) (by omega) hT) (cwV 3 hts gX0_mostTraded_X0_canTrade rfl rfl rfl (by decide +kernel) (by decide)) (pv0 hK hP) rfl rfl hl.1 rfl (lv_room (Nat.le_of_ble_eq_true rfl)) dX0_mostTraded_27 (by decide)) (fun r_4 hr_4 => ?_)
        obtain ⟨b_5, rfl, hb_5⟩ := hr_4
        subst hb_5
        refine zb_Beq (tgt := 35) hx hb dX0_mostTraded_30 (by decide) (fun c_6 => ?_) (fun c_6 => ?_)
        · skip
          have hm2 : mtr M f t u2 = mtr M f t 5000 := by rw [← hm]; show _ = (if cn M f t (u2 + 1) = true then _ else _); rw [if_neg (by rw [c_6]; decide)]
          refine lv_iinc (v := nI (u2)) (lv' := [(3, .int (nI (u2))), (0, .ref (ad 0)), (1, .int (nI (f))), (2, .int (nI (t)))]) hx hb dX0_mostTraded_35 hl (k := 3) rfl (zn_dec (u2)) (by decide) rfl (fun ls hl => ?_)
          refine lv_goto (tgt := 19) hx hb dX0_mostTraded_38 (by decide) ?_
          exact ih19 u2 (by omega) (by omega) hm2 _ (lv_sub hl [1, 2, 3, 0] rfl)
        · skip
          have hm3 : u2 + 1 = mtr M f t 5000 := by rw [← hm]; show _ = (if cn M f t (u2 + 1) = true then _ else _); rw [if_pos c_6]
          refine lv_iload_n hx hb dX0_mostTraded_33 rfl (lv_at hl 3 rfl) ?_
          exact hret (by decide) (by decide) (And.intro (by simp [b_t, b_n]) (by rw [cl_f, cl_t, ← hm3])) dX0_mostTraded_34
  exact lp19 (min (M 3 f) 5000 + 1) (min (M 3 f) 5000) (by omega) (by omega) (mtr_min M f t) _ (lv_sub hl [1, 2, 3, 0] rfl)
