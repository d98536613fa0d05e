set_option maxHeartbeats 4000000 in
set_option maxRecDepth 100000 in
/-- well -/
theorem r0_well (l : Launch) {D : va_G} {ad : Nat → Nat} {cI : ClassId} {M : Mdl} {th : Int32} {sz : Nat} (hI : Inv M) (hnd : ndz 9 ad)  (p0 p1 p2 : Int32) : Met l yX1_well wsX1_well (rmP 3) (va_Pc [.ref (ad 0), .int (p0), .int (p1), .int (p2)] (KP1S D ad cI M th sz)) (va_Qi (fun r_ (u_ : Unit) => ((rgB (p0) (nI (0)) (nI (99)) && rgB (p1) (nI (0)) (nI (2)) && rgB (p2) (nI (0)) (nI (5000))) && (decide (M 0 0 < 8))) = true → r_ = nI (M 0 0)) (fun (u_ : Unit) t_ => ∃ M9 : Mdl, KP1 D ad cI M9 (nI (cd2 (rgB (p0) (nI (0)) (nI (99)) && rgB (p1) (nI (0)) (nI (2)) && rgB (p2) (nI (0)) (nI (5000))) (decide (M 0 0 < 8)))) t_ ∧ (((rgB (p0) (nI (0)) (nI (99)) && rgB (p1) (nI (0)) (nI (2)) && rgB (p2) (nI (0)) (nI (5000))) && (decide (M 0 0 < 8))) = true → M9 = nx_well M (clN p0) (clN p1) (clN p2)) ∧ (((rgB (p0) (nI (0)) (nI (99)) && rgB (p1) (nI (0)) (nI (2)) && rgB (p2) (nI (0)) (nI (5000))) && (decide (M 0 0 < 8))) = false → M9 = M)) (azs 9 ad sz)) 0 0 (azs 9 ad sz) := by
  refine mk_Qi (S := Unit) (post := fun r_ u_ => ((rgB (p0) (nI (0)) (nI (99)) && rgB (p1) (nI (0)) (nI (2)) && rgB (p2) (nI (0)) (nI (5000))) && (decide (M 0 0 < 8))) = true → r_ = nI (M 0 0)) (BQ := fun u_ t_ => ∃ M9 : Mdl, KP1 D ad cI M9 (nI (cd2 (rgB (p0) (nI (0)) (nI (99)) && rgB (p1) (nI (0)) (nI (2)) && rgB (p2) (nI (0)) (nI (5000))) (decide (M 0 0 < 8)))) t_ ∧ (((rgB (p0) (nI (0)) (nI (99)) && rgB (p1) (nI (0)) (nI (2)) && rgB (p2) (nI (0)) (nI (5000))) && (decide (M 0 0 < 8))) = true → M9 = nx_well M (clN p0) (clN p1) (clN p2)) ∧ (((rgB (p0) (nI (0)) (nI (99)) && rgB (p1) (nI (0)) (nI (2)) && rgB (p2) (nI (0)) (nI (5000))) && (decide (M 0 0 < 8))) = false → M9 = M)) (cc := cX1_well) (maxL := 4) (by decide) rfl (Nat.le_of_ble_eq_true rfl) ?_
  intro p e s m args below meth c Q C0 B0 hret ls hl
  obtain ⟨hx, hb, hr, hml, hown, hts, hlocks⟩ := C0
  have hown : s.vm.findClass RX1 = some m.cls := hown
  obtain ⟨hsz, hK, hP⟩ := B0
  have hw0 : ∀ w ∈ wsX10, w.before args s = true := fun w h => hts w ((by decide +kernel : ∀ w ∈ wsX10, w ∈ wsX1_well) w h)
  subst hsz
  have hAd : ∀ i, i < 9 → azs 9 ad s.heap.size (ad i) := fun i h => azs_i h
  have hS : va_S (azs 9 ad s.heap.size) s.heap s.heap [] := va_S.rf
  have b_nw := hI.nw
  have b_nv := hI.nv
  have hl : lv_has ls 4 [(0, .ref (ad 0)), (1, .int (p0)), (2, .int (p1)), (3, .int (p2))] := hl
  have cut50 : ∀ ls : Array Slot, lv_has ls 4 [(0, .ref (ad 0)), (1, .int (p0)), (2, .int (p1)), (3, .int (p2))] → W p l e (rmP 3) s m args below meth c s.heap [] 0 0 Q (F0 m 50 ls [.int (bB (decide (M 0 0 < 8))), .int (bB (rgB (p0) (nI (0)) (nI (99)) && rgB (p1) (nI (0)) (nI (2)) && rgB (p2) (nI (0)) (nI (5000)))), .ref (ad 0)]) := by
    intro ls hl
    have hz9 := hS.1
    refine va_calli (va_runV (As := [.int (bB (rgB (p0) (nI (0)) (nI (99)) && rgB (p1) (nI (0)) (nI (2)) && rgB (p2) (nI (0)) (nI (5000)))), .int (bB (decide (M 0 0 < 8)))]) (rest := []) ⟨hx, hb, hml, hown, hts⟩ (c1_mayBoth l (D := D) (ad := ad) (cI := cI) (M := M) (th := th) (sz := s.heap.size) hnd (rgB (p0) (nI (0)) (nI (99)) && rgB (p1) (nI (0)) (nI (2)) && rgB (p2) (nI (0)) (nI (5000))) (decide (M 0 0 < 8))) (cwV 2 hts gX1_well_X1_mayBoth rfl rfl rfl (by decide +kernel) (by decide)) (pv1S hK hP) rfl rfl hl.1 rfl (lv_room (Nat.le_of_ble_eq_true rfl)) dX1_well_50 (by decide)) hS (fun q _ h => azs_mono hz9 h) (fun q h => azs_mono hz9 h) (fun r9 u9 t9 H1 locs1 ht9 hv9 hp9 hB9 hz1 hk1 hS1 => ?_)
    obtain ⟨b9, rfl, hb9⟩ := hp9
    subst hb9
    have hP1 := hB9.2
    rw [ht9] at hP1
    clear hP hS hB9 ht9 hv9 hz1 hk1 hz9
    have hP := hP1
    have hS := hS1
    clear hP1 hS1
    generalize H1 = H at hP hS ⊢
    generalize locs1 = locs at hS ⊢
    refine zb_Bne (tgt := 58) hx hb dX1_well_53 (by decide) (fun c_1 => ?_) (fun c_1 => ?_)
    · skip
      obtain ⟨a0, ga0, h_a0, rfl⟩ := rgB_of (by decide) (Bool.and_eq_true_iff.mp (Bool.and_eq_true_iff.mp (Bool.and_eq_true_iff.mp c_1).1).1).1 (by decide)
      have cl_a0 : clN (nI a0) = a0 := clN_nI (by omega)
      obtain ⟨a1, ga1, h_a1, rfl⟩ := rgB_of (by decide) (Bool.and_eq_true_iff.mp (Bool.and_eq_true_iff.mp (Bool.and_eq_true_iff.mp c_1).1).1).2 (by decide)
      have cl_a1 : clN (nI a1) = a1 := clN_nI (by omega)
      obtain ⟨a2, ga2, h_a2, rfl⟩ := rgB_of (by decide) (Bool.and_eq_true_iff.mp (Bool.and_eq_true_iff.mp c_1).1).2 (by decide)
      have cl_a2 : clN (nI a2) = a2 := clN_nI (by omega)
      have h_8 : M 0 0 < 8 := of_decide_eq_true (Bool.and_eq_true_iff.mp c_1).2
      refine lv_aload_n hx hb dX1_well_58 rfl (lv_at hl 0 rfl) ?_
      refine zg1 hx hb hw0 hown hK hP (by decide) rfl 1 (by decide) (hts (.fieldLink RX1 7 "WellFieldModel" "place" "[I") (by decide +kernel)) rfl rfl dX1_well_59 ?_
      refine lv_aload_n hx hb dX1_well_62 rfl (lv_at hl 0 rfl) ?_
      refine zg1 hx hb hw0 hown hK hP (by decide) rfl 0 (by decide) (hts (.fieldLink RX1 38 "WellFieldModel" "wells" "I") (by decide +kernel)) rfl rfl dX1_well_63 ?_
      refine lv_iload_n hx hb dX1_well_66 rfl (lv_at hl 1 rfl) ?_
      refine zi_st hx hb hK hP hnd hAd hS 1 (by decide) 0 rfl rfl (by decide) (i := M 0 0) (by omega) (wmE ad cI (mup (M) 1 (M 0 0) (a0)) (nI (cd2 (rgB ((nI a0)) (nI (0)) (nI (99)) && rgB ((nI a1)) (nI (0)) (nI (2)) && rgB ((nI a2)) (nI (0)) (nI (5000))) (decide (M 0 0 < 8))))) wmS_pl dX1_well_67 (fun H locs hP hS => ?_)
      refine lv_aload_n hx hb dX1_well_68 rfl (lv_at hl 0 rfl) ?_
      refine zg1 hx hb hw0 hown hK hP (by decide) rfl 2 (by decide) (hts (.fieldLink RX1 13 "WellFieldModel" "zone" "[I") (by decide +kernel)) rfl rfl dX1_well_69 ?_
      refine lv_aload_n hx hb dX1_well_72 rfl (lv_at hl 0 rfl) ?_
      refine zg1 hx hb hw0 hown hK hP (by decide) rfl 0 (by decide) (hts (.fieldLink RX1 38 "WellFieldModel" "wells" "I") (by decide +kernel)) rfl rfl dX1_well_73 ?_
      refine zt_i (y := nI (M 0 0)) (congrArg nI (by simp [mup])) ?_
      refine lv_iload_n hx hb dX1_well_76 rfl (lv_at hl 2 rfl) ?_
      refine zi_st hx hb hK hP hnd hAd hS 2 (by decide) 0 rfl rfl (by decide) (i := M 0 0) (by omega) (wmE ad cI (mup (mup (M) 1 (M 0 0) (a0)) 2 (M 0 0) (a1)) (nI (cd2 (rgB ((nI a0)) (nI (0)) (nI (99)) && rgB ((nI a1)) (nI (0)) (nI (2)) && rgB ((nI a2)) (nI (0)) (nI (5000))) (decide (M 0 0 < 8))))) wmS_zo dX1_well_77 (fun H locs hP hS => ?_)
      refine lv_aload_n hx hb dX1_well_78 rfl (lv_at hl 0 rfl) ?_
      refine zg1 hx hb hw0 hown hK hP (by decide) rfl 3 (by decide) (hts (.fieldLink RX1 16 "WellFieldModel" "licence" "[I") (by decide +kernel)) rfl rfl dX1_well_79 ?_
      refine lv_aload_n hx hb dX1_well_82 rfl (lv_at hl 0 rfl) ?_
      refine zg1 hx hb hw0 hown hK hP (by decide) rfl 0 (by decide) (hts (.fieldLink RX1 38 "WellFieldModel" "wells" "I") (by decide +kernel)) rfl rfl dX1_well_83 ?_
      refine zt_i (y := nI (M 0 0)) (congrArg nI (by simp [mup])) ?_
      refine lv_iload_n hx hb dX1_well_86 rfl (lv_at hl 3 rfl) ?_
      refine zi_st hx hb hK hP hnd hAd hS 3 (by decide) 0 rfl rfl (by decide) (i := M 0 0) (by omega) (wmE ad cI (mup (mup (mup (M) 1 (M 0 0) (a0)) 2 (M 0 0) (a1)) 3 (M 0 0) (a2)) (nI (cd2 (rgB ((nI a0)) (nI (0)) (nI (99)) && rgB ((nI a1)) (nI (0)) (nI (2)) && rgB ((nI a2)) (nI (0)) (nI (5000))) (decide (M 0 0 < 8))))) wmS_li dX1_well_87 (fun H locs hP hS => ?_)
      refine lv_aload_n hx hb dX1_well_88 rfl (lv_at hl 0 rfl) ?_
      refine lv_dup hx hb dX1_well_89 rfl ?_
      refine zg1 hx hb hw0 hown hK hP (by decide) rfl 0 (by decide) (hts (.fieldLink RX1 38 "WellFieldModel" "wells" "I") (by decide +kernel)) rfl rfl dX1_well_90 ?_
      refine zt_i (y := nI (M 0 0)) (congrArg nI (by simp [mup])) ?_
      refine lv_iconst (v := nI 1) hx hb dX1_well_93 (by decide) ?_
      refine zr_iadd hx hb dX1_well_94 ?_
      refine zp1 hx hb hw0 hown hK hP hnd hAd hS (by decide) rfl 0 (by decide) (hts (.fieldLink RX1 38 "WellFieldModel" "wells" "I") (by decide +kernel)) rfl rfl (by decide +kernel) (Nat.le_of_ble_eq_true rfl) (wmE ad cI (mup (mup (mup (mup (M) 1 (M 0 0) (a0)) 2 (M 0 0) (a1)) 3 (M 0 0) (a2)) 0 0 ((M 0 0) + (1))) (nI (cd2 (rgB ((nI a0)) (nI (0)) (nI (99)) && rgB ((nI a1)) (nI (0)) (nI (2)) && rgB ((nI a2)) (nI (0)) (nI (5000))) (decide (M 0 0 < 8))))) wmS_nw dX1_well_95 (fun H locs hP hS => ?_)
      refine lv_aload_n hx hb dX1_well_98 rfl (lv_at hl 0 rfl) ?_
      refine zg1 hx hb hw0 hown hK hP (by decide) rfl 0 (by decide) (hts (.fieldLink RX1 38 "WellFieldModel" "wells" "I") (by decide +kernel)) rfl rfl dX1_well_99 ?_
      refine zt_i (y := nI ((M 0 0) + (1))) (congrArg nI (by simp [mup])) ?_
      refine lv_iconst (v := nI 1) hx hb dX1_well_102 (by decide) ?_
      refine zr_isub hx hb (by omega) dX1_well_103 ?_
      exact hret (u := ()) (fun _ => by rfl) hS (fun t ht hA => ⟨_, ⟨va_K.moved hA hK, by rw [ht]; exact hP⟩, fun _ => by rw [cl_a0, cl_a1, cl_a2]; rfl, (fun h => absurd h (by rw [c_1]; decide))⟩) dX1_well_104
    · skip
      refine lv_iconst (v := nI 0) hx hb dX1_well_56 (by decide) ?_
      exact hret (u := ()) (fun h => absurd h (by rw [c_1]; decide)) hS (fun t ht hA => ⟨M, ⟨va_K.moved hA hK, by rw [ht]; exact hP⟩, (fun h => absurd h (by rw [c_1]; decide)), fun _ => rfl⟩) dX1_well_57
  have cut36 : ∀ ls : Array Slot, lv_has ls 4 [(0, .ref (ad 0)), (1, .int (p0)), (2, .int (p1)), (3, .int (p2))] → W p l e (rmP 3) s m args below meth c s.heap [] 0 0 Q (F0 m 36 ls [.int (bB (rgB (p0) (nI (0)) (nI (99)) && rgB (p1) (nI (0)) (nI (2)) && rgB (p2) (nI (0)) (nI (5000)))), .ref (ad 0)]) := by
    intro ls hl
    refine lv_aload_n hx hb dX1_well_36 rfl (lv_at hl 0 rfl) ?_
    refine zg1 hx hb hw0 hown hK hP (by decide) rfl 0 (by decide) (hts (.fieldLink RX1 38 "WellFieldModel" "wells" "I") (by decide +kernel)) rfl rfl dX1_well_37 ?_
    refine lv_bipush (v := nI 8) hx hb dX1_well_40 (by decide) ?_
    refine zb_ge (tgt := 49) hx hb (by omega) (by omega) dX1_well_42 (by decide) (fun c_2 => ?_) (fun c_2 => ?_)
    · skip
      refine lv_iconst (v := nI 0) hx hb dX1_well_49 (by decide) ?_
      refine zt_i (y := bB (decide (M 0 0 < 8))) (bB_0.trans (congrArg bB (by simp [c_2]))) ?_
      exact cut50 _ (lv_sub hl [0, 1, 2, 3] rfl)
    · skip
      refine lv_iconst (v := nI 1) hx hb dX1_well_45 (by decide) ?_
      refine lv_goto (tgt := 50) hx hb dX1_well_46 (by decide) ?_
      refine zt_i (y := bB (decide (M 0 0 < 8))) (bB_1.trans (congrArg bB (by simp [c_2]))) ?_
      exact cut50 _ (lv_sub hl [0, 1, 2, 3] rfl)
  refine lv_aload_n hx hb dX1_well_0 rfl (lv_at hl 0 rfl) ?_
  refine lv_iload_n hx hb dX1_well_1 rfl (lv_at hl 1 rfl) ?_
  refine lv_iconst (v := nI 0) hx hb dX1_well_2 (by decide) ?_
  refine lv_bipush (v := nI 99) hx hb dX1_well_3 (by decide) ?_
  refine vp_callSi (W.runS (As := [.int (p0), .int (nI (0)), .int (nI (99))]) (rest := [.ref (ad 0)]) ⟨hx, hb, hml, hown, hts⟩ (c1_isIn l (p0) (nI (0)) (nI (99))) (va_cwS 3 hts gX1_well_X1_isIn rfl rfl rfl (by decide +kernel) (by decide)) psN rfl rfl hl.1 rfl (lv_room (Nat.le_of_ble_eq_true rfl)) dX1_well_5 (by decide)) (fun r_3 hr_3 => ?_)
  obtain ⟨b_4, rfl, hb_4⟩ := hr_3
  subst hb_4
  refine zb_Beq (tgt := 35) hx hb dX1_well_8 (by decide) (fun c_5 => ?_) (fun c_5 => ?_)
  · skip
    refine lv_iconst (v := nI 0) hx hb dX1_well_35 (by decide) ?_
    refine zt_i (y := bB (rgB (p0) (nI (0)) (nI (99)) && rgB (p1) (nI (0)) (nI (2)) && rgB (p2) (nI (0)) (nI (5000)))) (bB_0.trans (congrArg bB (by simp [c_5]))) ?_
    exact cut36 _ (lv_sub hl [0, 1, 2, 3] rfl)
  · skip
    refine lv_iload_n hx hb dX1_well_11 rfl (lv_at hl 2 rfl) ?_
    refine lv_iconst (v := nI 0) hx hb dX1_well_12 (by decide) ?_
    refine lv_iconst (v := nI 2) hx hb dX1_well_13 (by decide) ?_
    refine vp_callSi (W.runS (As := [.int (p1), .int (nI (0)), .int (nI (2))]) (rest := [.ref (ad 0)]) ⟨hx, hb, hml, hown, hts⟩ (c1_isIn l (p1) (nI (0)) (nI (2))) (va_cwS 3 hts gX1_well_X1_isIn rfl rfl rfl (by decide +kernel) (by decide)) psN rfl rfl hl.1 rfl (lv_room (Nat.le_of_ble_eq_true rfl)) dX1_well_14 (by decide)) (fun r_6 hr_6 => ?_)
    obtain ⟨b_7, rfl, hb_7⟩ := hr_6
    subst hb_7
    refine zb_Beq (tgt := 35) hx hb dX1_well_17 (by decide) (fun c_8 => ?_) (fun c_8 => ?_)
    · skip
      refine lv_iconst (v := nI 0) hx hb dX1_well_35 (by decide) ?_
      refine zt_i (y := bB (rgB (p0) (nI (0)) (nI (99)) && rgB (p1) (nI (0)) (nI (2)) && rgB (p2) (nI (0)) (nI (5000)))) (bB_0.trans (congrArg bB (by simp [c_5, c_8]))) ?_
      exact cut36 _ (lv_sub hl [0, 1, 2, 3] rfl)
    · skip
      refine lv_iload_n hx hb dX1_well_20 rfl (lv_at hl 3 rfl) ?_
      refine lv_iconst (v := nI 0) hx hb dX1_well_21 (by decide) ?_
      refine lv_sipush (v := nI 5000) hx hb dX1_well_22 (by decide) ?_
      refine vp_callSi (W.runS (As := [.int (p2), .int (nI (0)), .int (nI (5000))]) (rest := [.ref (ad 0)]) ⟨hx, hb, hml, hown, hts⟩ (c1_isIn l (p2) (nI (0)) (nI (5000))) (va_cwS 3 hts gX1_well_X1_isIn rfl rfl rfl (by decide +kernel) (by decide)) psN rfl rfl hl.1 rfl (lv_room (Nat.le_of_ble_eq_true rfl)) dX1_well_25 (by decide)) (fun r_9 hr_9 => ?_)
      obtain ⟨b_10, rfl, hb_10⟩ := hr_9
      subst hb_10
      refine zb_Beq (tgt := 35) hx hb dX1_well_28 (by decide) (fun c_11 => ?_) (fun c_11 => ?_)
      · skip
        refine lv_iconst (v := nI 0) hx hb dX1_well_35 (by decide) ?_
        refine zt_i (y := bB (rgB (p0) (nI (0)) (nI (99)) && rgB (p1) (nI (0)) (nI (2)) && rgB (p2) (nI (0)) (nI (5000)))) (bB_0.trans (congrArg bB (by simp [c_5, c_8, c_11]))) ?_
        exact cut36 _ (lv_sub hl [0, 1, 2, 3] rfl)
      · skip
        refine lv_iconst (v := nI 1) hx hb dX1_well_31 (by decide) ?_
        refine lv_goto (tgt := 36) hx hb dX1_well_32 (by decide) ?_
        refine zt_i (y := bB (rgB (p0) (nI (0)) (nI (99)) && rgB (p1) (nI (0)) (nI (2)) && rgB (p2) (nI (0)) (nI (5000)))) (bB_1.trans (congrArg bB (by simp [c_5, c_8, c_11]))) ?_
        exact cut36 _ (lv_sub hl [0, 1, 2, 3] rfl)
set_option maxHeartbeats 4000000 in
set_option maxRecDepth 100000 in
/-- watch -/
theorem r0_watch (l : Launch) {D : va_G} {ad : Nat → Nat} {cI : ClassId} {M : Mdl} {th : Int32} {sz : Nat} (hI : Inv M) (hnd : ndz 9 ad)  (p0 p1 : Int32) : Met l yX1_watch wsX1_watch (rmP 3) (va_Pc [.ref (ad 0), .int (p0), .int (p1)] (KP1S D ad cI M th sz)) (va_Qi (fun r_ (u_ : Unit) => ((rgB (p0) (nI (0)) (nI (99)) && rgB (p1) (nI (0)) (nI (10000))) && (decide (M 5 0 < 4))) = true → r_ = nI (M 5 0)) (fun (u_ : Unit) t_ => ∃ M9 : Mdl, KP1 D ad cI M9 (nI (cd2 (rgB (p0) (nI (0)) (nI (99)) && rgB (p1) (nI (0)) (nI (10000))) (decide (M 5 0 < 4)))) t_ ∧ (((rgB (p0) (nI (0)) (nI (99)) && rgB (p1) (nI (0)) (nI (10000))) && (decide (M 5 0 < 4))) = true → M9 = nx_watch M (clN p0) (clN p1)) ∧ (((rgB (p0) (nI (0)) (nI (99)) && rgB (p1) (nI (0)) (nI (10000))) && (decide (M 5 0 < 4))) = false → M9 = M)) (azs 9 ad sz)) 0 0 (azs 9 ad sz) := by
  refine mk_Qi (S := Unit) (post := fun r_ u_ => ((rgB (p0) (nI (0)) (nI (99)) && rgB (p1) (nI (0)) (nI (10000))) && (decide (M 5 0 < 4))) = true → r_ = nI (M 5 0)) (BQ := fun u_ t_ => ∃ M9 : Mdl, KP1 D ad cI M9 (nI (cd2 (rgB (p0) (nI (0)) (nI (99)) && rgB (p1) (nI (0)) (nI (10000))) (decide (M 5 0 < 4)))) t_ ∧ (((rgB (p0) (nI (0)) (nI (99)) && rgB (p1) (nI (0)) (nI (10000))) && (decide (M 5 0 < 4))) = true → M9 = nx_watch M (clN p0) (clN p1)) ∧ (((rgB (p0) (nI (0)) (nI (99)) && rgB (p1) (nI (0)) (nI (10000))) && (decide (M 5 0 < 4))) = false → M9 = M)) (cc := cX1_watch) (maxL := 3) (by decide) rfl (Nat.le_of_ble_eq_true rfl) ?_
  intro p e s m args below meth c Q C0 B0 hret ls hl
  obtain ⟨hx, hb, hr, hml, hown, hts, hlocks⟩ := C0
  have hown : s.vm.findClass RX1 = some m.cls := hown
  obtain ⟨hsz, hK, hP⟩ := B0
  have hw0 : ∀ w ∈ wsX10, w.before args s = true := fun w h => hts w ((by decide +kernel : ∀ w ∈ wsX10, w ∈ wsX1_watch) w h)
  subst hsz
  have hAd : ∀ i, i < 9 → azs 9 ad s.heap.size (ad i) := fun i h => azs_i h
  have hS : va_S (azs 9 ad s.heap.size) s.heap s.heap [] := va_S.rf
  have b_nw := hI.nw
  have b_nv := hI.nv
  have hl : lv_has ls 3 [(0, .ref (ad 0)), (1, .int (p0)), (2, .int (p1))] := hl
  have cut40 : ∀ ls : Array Slot, lv_has ls 3 [(0, .ref (ad 0)), (1, .int (p0)), (2, .int (p1))] → W p l e (rmP 3) s m args below meth c s.heap [] 0 0 Q (F0 m 40 ls [.int (bB (decide (M 5 0 < 4))), .int (bB (rgB (p0) (nI (0)) (nI (99)) && rgB (p1) (nI (0)) (nI (10000)))), .ref (ad 0)]) := by
    intro ls hl
    have hz9 := hS.1
    refine va_calli (va_runV (As := [.int (bB (rgB (p0) (nI (0)) (nI (99)) && rgB (p1) (nI (0)) (nI (10000)))), .int (bB (decide (M 5 0 < 4)))]) (rest := []) ⟨hx, hb, hml, hown, hts⟩ (c1_mayBoth l (D := D) (ad := ad) (cI := cI) (M := M) (th := th) (sz := s.heap.size) hnd (rgB (p0) (nI (0)) (nI (99)) && rgB (p1) (nI (0)) (nI (10000))) (decide (M 5 0 < 4))) (cwV 2 hts gX1_watch_X1_mayBoth rfl rfl rfl (by decide +kernel) (by decide)) (pv1S hK hP) rfl rfl hl.1 rfl (lv_room (Nat.le_of_ble_eq_true rfl)) dX1_watch_40 (by decide)) hS (fun q _ h => azs_mono hz9 h) (fun q h => azs_mono hz9 h) (fun r9 u9 t9 H1 locs1 ht9 hv9 hp9 hB9 hz1 hk1 hS1 => ?_)
    obtain ⟨b9, rfl, hb9⟩ := hp9
    subst hb9
    have hP1 := hB9.2
    rw [ht9] at hP1
    clear hP hS hB9 ht9 hv9 hz1 hk1 hz9
    have hP := hP1
    have hS := hS1
    clear hP1 hS1
    generalize H1 = H at hP hS ⊢
    generalize locs1 = locs at hS ⊢
    refine zb_Bne (tgt := 48) hx hb dX1_watch_43 (by decide) (fun c_1 => ?_) (fun c_1 => ?_)
    · skip
      obtain ⟨a0, ga0, h_a0, rfl⟩ := rgB_of (by decide) (Bool.and_eq_true_iff.mp (Bool.and_eq_true_iff.mp c_1).1).1 (by decide)
      have cl_a0 : clN (nI a0) = a0 := clN_nI (by omega)
      obtain ⟨a1, ga1, h_a1, rfl⟩ := rgB_of (by decide) (Bool.and_eq_true_iff.mp (Bool.and_eq_true_iff.mp c_1).1).2 (by decide)
      have cl_a1 : clN (nI a1) = a1 := clN_nI (by omega)
      have h_4 : M 5 0 < 4 := of_decide_eq_true (Bool.and_eq_true_iff.mp c_1).2
      refine lv_aload_n hx hb dX1_watch_48 rfl (lv_at hl 0 rfl) ?_
      refine zg1 hx hb hw0 hown hK hP (by decide) rfl 6 (by decide) (hts (.fieldLink RX1 22 "WellFieldModel" "spot" "[I") (by decide +kernel)) rfl rfl dX1_watch_49 ?_
      refine lv_aload_n hx hb dX1_watch_52 rfl (lv_at hl 0 rfl) ?_
      refine zg1 hx hb hw0 hown hK hP (by decide) rfl 5 (by decide) (hts (.fieldLink RX1 45 "WellFieldModel" "watches" "I") (by decide +kernel)) rfl rfl dX1_watch_53 ?_
      refine lv_iload_n hx hb dX1_watch_56 rfl (lv_at hl 1 rfl) ?_
      refine zi_st hx hb hK hP hnd hAd hS 5 (by decide) 0 rfl rfl (by decide) (i := M 5 0) (by omega) (wmE ad cI (mup (M) 6 (M 5 0) (a0)) (nI (cd2 (rgB ((nI a0)) (nI (0)) (nI (99)) && rgB ((nI a1)) (nI (0)) (nI (10000))) (decide (M 5 0 < 4))))) wmS_sp dX1_watch_57 (fun H locs hP hS => ?_)
      refine lv_aload_n hx hb dX1_watch_58 rfl (lv_at hl 0 rfl) ?_
      refine zg1 hx hb hw0 hown hK hP (by decide) rfl 7 (by decide) (hts (.fieldLink RX1 25 "WellFieldModel" "limit" "[I") (by decide +kernel)) rfl rfl dX1_watch_59 ?_
      refine lv_aload_n hx hb dX1_watch_62 rfl (lv_at hl 0 rfl) ?_
      refine zg1 hx hb hw0 hown hK hP (by decide) rfl 5 (by decide) (hts (.fieldLink RX1 45 "WellFieldModel" "watches" "I") (by decide +kernel)) rfl rfl dX1_watch_63 ?_
      refine zt_i (y := nI (M 5 0)) (congrArg nI (by simp [mup])) ?_
      refine lv_iload_n hx hb dX1_watch_66 rfl (lv_at hl 2 rfl) ?_
      refine zi_st hx hb hK hP hnd hAd hS 6 (by decide) 0 rfl rfl (by decide) (i := M 5 0) (by omega) (wmE ad cI (mup (mup (M) 6 (M 5 0) (a0)) 7 (M 5 0) (a1)) (nI (cd2 (rgB ((nI a0)) (nI (0)) (nI (99)) && rgB ((nI a1)) (nI (0)) (nI (10000))) (decide (M 5 0 < 4))))) wmS_lm dX1_watch_67 (fun H locs hP hS => ?_)
      refine lv_aload_n hx hb dX1_watch_68 rfl (lv_at hl 0 rfl) ?_
      refine lv_dup hx hb dX1_watch_69 rfl ?_
      refine zg1 hx hb hw0 hown hK hP (by decide) rfl 5 (by decide) (hts (.fieldLink RX1 45 "WellFieldModel" "watches" "I") (by decide +kernel)) rfl rfl dX1_watch_70 ?_
      refine zt_i (y := nI (M 5 0)) (congrArg nI (by simp [mup])) ?_
      refine lv_iconst (v := nI 1) hx hb dX1_watch_73 (by decide) ?_
      refine zr_iadd hx hb dX1_watch_74 ?_
      refine zp1 hx hb hw0 hown hK hP hnd hAd hS (by decide) rfl 5 (by decide) (hts (.fieldLink RX1 45 "WellFieldModel" "watches" "I") (by decide +kernel)) rfl rfl (by decide +kernel) (Nat.le_of_ble_eq_true rfl) (wmE ad cI (mup (mup (mup (M) 6 (M 5 0) (a0)) 7 (M 5 0) (a1)) 5 0 ((M 5 0) + (1))) (nI (cd2 (rgB ((nI a0)) (nI (0)) (nI (99)) && rgB ((nI a1)) (nI (0)) (nI (10000))) (decide (M 5 0 < 4))))) wmS_nv dX1_watch_75 (fun H locs hP hS => ?_)
      refine lv_aload_n hx hb dX1_watch_78 rfl (lv_at hl 0 rfl) ?_
      refine zg1 hx hb hw0 hown hK hP (by decide) rfl 5 (by decide) (hts (.fieldLink RX1 45 "WellFieldModel" "watches" "I") (by decide +kernel)) rfl rfl dX1_watch_79 ?_
      refine zt_i (y := nI ((M 5 0) + (1))) (congrArg nI (by simp [mup])) ?_
      refine lv_iconst (v := nI 1) hx hb dX1_watch_82 (by decide) ?_
      refine zr_isub hx hb (by omega) dX1_watch_83 ?_
      exact hret (u := ()) (fun _ => by rfl) hS (fun t ht hA => ⟨_, ⟨va_K.moved hA hK, by rw [ht]; exact hP⟩, fun _ => by rw [cl_a0, cl_a1]; rfl, (fun h => absurd h (by rw [c_1]; decide))⟩) dX1_watch_84
    · skip
      refine lv_iconst (v := nI 0) hx hb dX1_watch_46 (by decide) ?_
      exact hret (u := ()) (fun h => absurd h (by rw [c_1]; decide)) hS (fun t ht hA => ⟨M, ⟨va_K.moved hA hK, by rw [ht]; exact hP⟩, (fun h => absurd h (by rw [c_1]; decide)), fun _ => rfl⟩) dX1_watch_47
  have cut27 : ∀ ls : Array Slot, lv_has ls 3 [(0, .ref (ad 0)), (1, .int (p0)), (2, .int (p1))] → W p l e (rmP 3) s m args below meth c s.heap [] 0 0 Q (F0 m 27 ls [.int (bB (rgB (p0) (nI (0)) (nI (99)) && rgB (p1) (nI (0)) (nI (10000)))), .ref (ad 0)]) := by
    intro ls hl
    refine lv_aload_n hx hb dX1_watch_27 rfl (lv_at hl 0 rfl) ?_
    refine zg1 hx hb hw0 hown hK hP (by decide) rfl 5 (by decide) (hts (.fieldLink RX1 45 "WellFieldModel" "watches" "I") (by decide +kernel)) rfl rfl dX1_watch_28 ?_
    refine lv_iconst (v := nI 4) hx hb dX1_watch_31 (by decide) ?_
    refine zb_ge (tgt := 39) hx hb (by omega) (by omega) dX1_watch_32 (by decide) (fun c_2 => ?_) (fun c_2 => ?_)
    · skip
      refine lv_iconst (v := nI 0) hx hb dX1_watch_39 (by decide) ?_
      refine zt_i (y := bB (decide (M 5 0 < 4))) (bB_0.trans (congrArg bB (by simp [c_2]))) ?_
      exact cut40 _ (lv_sub hl [0, 1, 2] rfl)
    · skip
      refine lv_iconst (v := nI 1) hx hb dX1_watch_35 (by decide) ?_
      refine lv_goto (tgt := 40) hx hb dX1_watch_36 (by decide) ?_
      refine zt_i (y := bB (decide (M 5 0 < 4))) (bB_1.trans (congrArg bB (by simp [c_2]))) ?_
      exact cut40 _ (lv_sub hl [0, 1, 2] rfl)
  refine lv_aload_n hx hb dX1_watch_0 rfl (lv_at hl 0 rfl) ?_
  refine lv_iload_n hx hb dX1_watch_1 rfl (lv_at hl 1 rfl) ?_
  refine lv_iconst (v := nI 0) hx hb dX1_watch_2 (by decide) ?_
  refine lv_bipush (v := nI 99) hx hb dX1_watch_3 (by decide) ?_
  refine vp_callSi (W.runS (As := [.int (p0), .int (nI (0)), .int (nI (99))]) (rest := [.ref (ad 0)]) ⟨hx, hb, hml, hown, hts⟩ (c1_isIn l (p0) (nI (0)) (nI (99))) (va_cwS 3 hts gX1_watch_X1_isIn rfl rfl rfl (by decide +kernel) (by decide)) psN rfl rfl hl.1 rfl (lv_room (Nat.le_of_ble_eq_true rfl)) dX1_watch_5 (by decide)) (fun r_3 hr_3 => ?_)
  obtain ⟨b_4, rfl, hb_4⟩ := hr_3
  subst hb_4
  refine zb_Beq (tgt := 26) hx hb dX1_watch_8 (by decide) (fun c_5 => ?_) (fun c_5 => ?_)
  · skip
    refine lv_iconst (v := nI 0) hx hb dX1_watch_26 (by decide) ?_
    refine zt_i (y := bB (rgB (p0) (nI (0)) (nI (99)) && rgB (p1) (nI (0)) (nI (10000)))) (bB_0.trans (congrArg bB (by simp [c_5]))) ?_
    exact cut27 _ (lv_sub hl [0, 1, 2] rfl)
  · skip
    refine lv_iload_n hx hb dX1_watch_11 rfl (lv_at hl 2 rfl) ?_
    refine lv_iconst (v := nI 0) hx hb dX1_watch_12 (by decide) ?_
    refine lv_sipush (v := nI 10000) hx hb dX1_watch_13 (by decide) ?_
    refine vp_callSi (W.runS (As := [.int (p1), .int (nI (0)), .int (nI (10000))]) (rest := [.ref (ad 0)]) ⟨hx, hb, hml, hown, hts⟩ (c1_isIn l (p1) (nI (0)) (nI (10000))) (va_cwS 3 hts gX1_watch_X1_isIn rfl rfl rfl (by decide +kernel) (by decide)) psN rfl rfl hl.1 rfl (lv_room (Nat.le_of_ble_eq_true rfl)) dX1_watch_16 (by decide)) (fun r_6 hr_6 => ?_)
    obtain ⟨b_7, rfl, hb_7⟩ := hr_6
    subst hb_7
    refine zb_Beq (tgt := 26) hx hb dX1_watch_19 (by decide) (fun c_8 => ?_) (fun c_8 => ?_)
    · skip
      refine lv_iconst (v := nI 0) hx hb dX1_watch_26 (by decide) ?_
      refine zt_i (y := bB (rgB (p0) (nI (0)) (nI (99)) && rgB (p1) (nI (0)) (nI (10000)))) (bB_0.trans (congrArg bB (by simp [c_5, c_8]))) ?_
      exact cut27 _ (lv_sub hl [0, 1, 2] rfl)
    · skip
      refine lv_iconst (v := nI 1) hx hb dX1_watch_22 (by decide) ?_
      refine lv_goto (tgt := 27) hx hb dX1_watch_23 (by decide) ?_
      refine zt_i (y := bB (rgB (p0) (nI (0)) (nI (99)) && rgB (p1) (nI (0)) (nI (10000)))) (bB_1.trans (congrArg bB (by simp [c_5, c_8]))) ?_
      exact cut27 _ (lv_sub hl [0, 1, 2] rfl)
set_option maxHeartbeats 4000000 in
set_option maxRecDepth 100000 in
/-- response -/
theorem r0_response (l : Launch) {D : va_G} {ad : Nat → Nat} {cI : ClassId} {M : Mdl} {th : Int32} {sz : Nat} (hI : Inv M) (hnd : ndz 9 ad)  (p0 p1 p2 : Int32) : Met l yX1_response wsX1_response (rmP 3) (va_Pc [.ref (ad 0), .int (p0), .int (p1), .int (p2)] (KP1S D ad cI M th sz)) (va_Qi (fun r_ (u_ : Unit) => ((ixB (p0) 5 && ixB (p1) 12) && (rgB (p2) (nI (0)) (nI (1000)))) = true → r_ = nI (M (11 + 3 * clN p0) (clN p1))) (fun (u_ : Unit) t_ => ∃ M9 : Mdl, KP1 D ad cI M9 (nI (cd2 (ixB (p0) 5 && ixB (p1) 12) (rgB (p2) (nI (0)) (nI (1000))))) t_ ∧ (((ixB (p0) 5 && ixB (p1) 12) && (rgB (p2) (nI (0)) (nI (1000)))) = true → M9 = nx_response M (clN p0) (clN p1) (clN p2)) ∧ (((ixB (p0) 5 && ixB (p1) 12) && (rgB (p2) (nI (0)) (nI (1000)))) = false → M9 = M)) (azs 9 ad sz)) 0 0 (azs 9 ad sz) := by
  refine mk_Qi (S := Unit) (post := fun r_ u_ => ((ixB (p0) 5 && ixB (p1) 12) && (rgB (p2) (nI (0)) (nI (1000)))) = true → r_ = nI (M (11 + 3 * clN p0) (clN p1))) (BQ := fun u_ t_ => ∃ M9 : Mdl, KP1 D ad cI M9 (nI (cd2 (ixB (p0) 5 && ixB (p1) 12) (rgB (p2) (nI (0)) (nI (1000))))) t_ ∧ (((ixB (p0) 5 && ixB (p1) 12) && (rgB (p2) (nI (0)) (nI (1000)))) = true → M9 = nx_response M (clN p0) (clN p1) (clN p2)) ∧ (((ixB (p0) 5 && ixB (p1) 12) && (rgB (p2) (nI (0)) (nI (1000)))) = false → M9 = M)) (cc := cX1_response) (maxL := 5) (by decide) rfl (Nat.le_of_ble_eq_true rfl) ?_
  intro p e s m args below meth c Q C0 B0 hret ls hl
  obtain ⟨hx, hb, hr, hml, hown, hts, hlocks⟩ := C0
  have hown : s.vm.findClass RX1 = some m.cls := hown
  obtain ⟨hsz, hK, hP⟩ := B0
  have hw0 : ∀ w ∈ wsX10, w.before args s = true := fun w h => hts w ((by decide +kernel : ∀ w ∈ wsX10, w ∈ wsX1_response) w h)
  subst hsz
  have hAd : ∀ i, i < 9 → azs 9 ad s.heap.size (ad i) := fun i h => azs_i h
  have hS : va_S (azs 9 ad s.heap.size) s.heap s.heap [] := va_S.rf
  have b_nw := hI.nw
  have b_nv := hI.nv
  have hl : lv_has ls 5 [(0, .ref (ad 0)), (1, .int (p0)), (2, .int (p1)), (3, .int (p2))] := hl
  have cut25 : ∀ ls : Array Slot, lv_has ls 5 [(0, .ref (ad 0)), (1, .int (p0)), (2, .int (p1)), (3, .int (p2))] → W p l e (rmP 3) s m args below meth c s.heap [] 0 0 Q (F0 m 25 ls [.int (bB (ixB (p0) 5 && ixB (p1) 12)), .ref (ad 0)]) := by
    intro ls hl
    refine lv_iload_n hx hb dX1_response_25 rfl (lv_at hl 3 rfl) ?_
    refine lv_iconst (v := nI 0) hx hb dX1_response_26 (by decide) ?_
    refine lv_sipush (v := nI 1000) hx hb dX1_response_27 (by decide) ?_
    refine vp_callSi (W.runS (As := [.int (p2), .int (nI (0)), .int (nI (1000))]) (rest := [.int (bB (ixB (p0) 5 && ixB (p1) 12)), .ref (ad 0)]) ⟨hx, hb, hml, hown, hts⟩ (c1_isIn l (p2) (nI (0)) (nI (1000))) (va_cwS 3 hts gX1_response_X1_isIn rfl rfl rfl (by decide +kernel) (by decide)) psN rfl rfl hl.1 rfl (lv_room (Nat.le_of_ble_eq_true rfl)) dX1_response_30 (by decide)) (fun r_1 hr_1 => ?_)
    obtain ⟨b_2, rfl, hb_2⟩ := hr_1
    subst hb_2
    have hz9 := hS.1
    refine va_calli (va_runV (As := [.int (bB (ixB (p0) 5 && ixB (p1) 12)), .int (bB (rgB (p2) (nI (0)) (nI (1000))))]) (rest := []) ⟨hx, hb, hml, hown, hts⟩ (c1_mayBoth l (D := D) (ad := ad) (cI := cI) (M := M) (th := th) (sz := s.heap.size) hnd (ixB (p0) 5 && ixB (p1) 12) (rgB (p2) (nI (0)) (nI (1000)))) (cwV 2 hts gX1_response_X1_mayBoth rfl rfl rfl (by decide +kernel) (by decide)) (pv1S hK hP) rfl rfl hl.1 rfl (lv_room (Nat.le_of_ble_eq_true rfl)) dX1_response_33 (by decide)) hS (fun q _ h => azs_mono hz9 h) (fun q h => azs_mono hz9 h) (fun r9 u9 t9 H1 locs1 ht9 hv9 hp9 hB9 hz1 hk1 hS1 => ?_)
    obtain ⟨b9, rfl, hb9⟩ := hp9
    subst hb9
    have hP1 := hB9.2
    rw [ht9] at hP1
    clear hP hS hB9 ht9 hv9 hz1 hk1 hz9
    have hP := hP1
    have hS := hS1
    clear hP1 hS1
    generalize H1 = H at hP hS ⊢
    generalize locs1 = locs at hS ⊢
    refine zb_Bne (tgt := 41) hx hb dX1_response_36 (by decide) (fun c_3 => ?_) (fun c_3 => ?_)
    · skip
      obtain ⟨a0, h_a0, rfl⟩ := ixB_of (by omega) (Bool.and_eq_true_iff.mp (Bool.and_eq_true_iff.mp c_3).1).1
      have cl_a0 : clN (nI a0) = a0 := clN_nI (by omega)
      obtain ⟨a1, h_a1, rfl⟩ := ixB_of (by omega) (Bool.and_eq_true_iff.mp (Bool.and_eq_true_iff.mp c_3).1).2
      have cl_a1 : clN (nI a1) = a1 := clN_nI (by omega)
      obtain ⟨a2, ga2, h_a2, rfl⟩ := rgB_of (by decide) (Bool.and_eq_true_iff.mp c_3).2 (by decide)
      have cl_a2 : clN (nI a2) = a2 := clN_nI (by omega)
      refine lv_aload_n hx hb dX1_response_41 rfl (lv_at hl 0 rfl) ?_
      refine zg1 hx hb hw0 hown hK hP (by decide) rfl 8 (by decide) (hts (.fieldLink RX1 28 "WellFieldModel" "table" "[I") (by decide +kernel)) rfl rfl dX1_response_42 ?_
      refine lv_bipush (v := nI 12) hx hb dX1_response_45 (by decide) ?_
      refine lv_iload_n hx hb dX1_response_47 rfl (lv_at hl 1 rfl) ?_
      refine zr_imul hx hb dX1_response_48 ?_
      refine lv_iload_n hx hb dX1_response_49 rfl (lv_at hl 2 rfl) ?_
      refine zr_iadd hx hb dX1_response_50 ?_
      refine zi_ld hx hb hK hP 7 (by decide) 0 rfl rfl (by decide) (i := ((12) * (a0)) + (a1)) (by omega) (v := nI (M (11 + 3 * (a0)) (a1))) (fl_tb (by omega)) dX1_response_51 ?_
      have f_4 := hI.tb (a0) (by omega) (a1)
      refine lv_istore (lv' := [(4, .int (nI (M (11 + 3 * (a0)) (a1)))), (0, .ref (ad 0)), (1, .int (nI (a0))), (2, .int (nI (a1))), (3, .int (nI (a2)))]) hx hb dX1_response_52 hl (by decide) rfl (fun ls hl => ?_)
      refine lv_aload_n hx hb dX1_response_54 rfl (lv_at hl 1 rfl) ?_
      refine zg1 hx hb hw0 hown hK hP (by decide) rfl 8 (by decide) (hts (.fieldLink RX1 28 "WellFieldModel" "table" "[I") (by decide +kernel)) rfl rfl dX1_response_55 ?_
      refine lv_bipush (v := nI 12) hx hb dX1_response_58 (by decide) ?_
      refine lv_iload_n hx hb dX1_response_60 rfl (lv_at hl 2 rfl) ?_
      refine zr_imul hx hb dX1_response_61 ?_
      refine lv_iload_n hx hb dX1_response_62 rfl (lv_at hl 3 rfl) ?_
      refine zr_iadd hx hb dX1_response_63 ?_
      refine lv_iload_n hx hb dX1_response_64 rfl (lv_at hl 4 rfl) ?_
      refine zi_st hx hb hK hP hnd hAd hS 7 (by decide) 0 rfl rfl (by decide) (i := ((12) * (a0)) + (a1)) (by omega) (wmE ad cI (mup (M) (11 + 3 * (a0)) (a1) (a2)) (nI (cd2 (ixB ((nI a0)) 5 && ixB ((nI a1)) 12) (rgB ((nI a2)) (nI (0)) (nI (1000)))))) (wmS_tb (by omega) (by omega)) dX1_response_65 (fun H locs hP hS => ?_)
      refine lv_iload hx hb dX1_response_66 (lv_at hl 0 rfl) ?_
      exact hret (u := ()) (fun _ => by rw [cl_a0, cl_a1]) hS (fun t ht hA => ⟨_, ⟨va_K.moved hA hK, by rw [ht]; exact hP⟩, fun _ => by rw [cl_a0, cl_a1, cl_a2]; rfl, (fun h => absurd h (by rw [c_3]; decide))⟩) dX1_response_68
    · skip
      refine lv_iconst (v := nI 0) hx hb dX1_response_39 (by decide) ?_
      exact hret (u := ()) (fun h => absurd h (by rw [c_3]; decide)) hS (fun t ht hA => ⟨M, ⟨va_K.moved hA hK, by rw [ht]; exact hP⟩, (fun h => absurd h (by rw [c_3]; decide)), fun _ => rfl⟩) dX1_response_40
  refine lv_aload_n hx hb dX1_response_0 rfl (lv_at hl 0 rfl) ?_
  refine lv_iload_n hx hb dX1_response_1 rfl (lv_at hl 1 rfl) ?_
  refine lv_iconst (v := nI 0) hx hb dX1_response_2 (by decide) ?_
  refine lv_iconst (v := nI 4) hx hb dX1_response_3 (by decide) ?_
  refine vp_callSi (W.runS (As := [.int (p0), .int (nI (0)), .int (nI (4))]) (rest := [.ref (ad 0)]) ⟨hx, hb, hml, hown, hts⟩ (c1_isIn l (p0) (nI (0)) (nI (4))) (va_cwS 3 hts gX1_response_X1_isIn rfl rfl rfl (by decide +kernel) (by decide)) psN rfl rfl hl.1 rfl (lv_room (Nat.le_of_ble_eq_true rfl)) dX1_response_4 (by decide)) (fun r_5 hr_5 => ?_)
  obtain ⟨b_6, rfl, hb_6⟩ := hr_5
  subst hb_6
  refine zt_i (y := bB (ixB (p0) 5)) (congrArg bB (rg_ix (by decide))) ?_
  refine zb_Beq (tgt := 24) hx hb dX1_response_7 (by decide) (fun c_7 => ?_) (fun c_7 => ?_)
  · skip
    refine lv_iconst (v := nI 0) hx hb dX1_response_24 (by decide) ?_
    refine zt_i (y := bB (ixB (p0) 5 && ixB (p1) 12)) (bB_0.trans (congrArg bB (by simp [c_7]))) ?_
    exact cut25 _ (lv_sub hl [0, 1, 2, 3] rfl)
  · skip
    refine lv_iload_n hx hb dX1_response_10 rfl (lv_at hl 2 rfl) ?_
    refine lv_iconst (v := nI 0) hx hb dX1_response_11 (by decide) ?_
    refine lv_bipush (v := nI 11) hx hb dX1_response_12 (by decide) ?_
    refine vp_callSi (W.runS (As := [.int (p1), .int (nI (0)), .int (nI (11))]) (rest := [.ref (ad 0)]) ⟨hx, hb, hml, hown, hts⟩ (c1_isIn l (p1) (nI (0)) (nI (11))) (va_cwS 3 hts gX1_response_X1_isIn rfl rfl rfl (by decide +kernel) (by decide)) psN rfl rfl hl.1 rfl (lv_room (Nat.le_of_ble_eq_true rfl)) dX1_response_14 (by decide)) (fun r_8 hr_8 => ?_)
    obtain ⟨b_9, rfl, hb_9⟩ := hr_8
    subst hb_9
    refine zt_i (y := bB (ixB (p1) 12)) (congrArg bB (rg_ix (by decide))) ?_
    refine zb_Beq (tgt := 24) hx hb dX1_response_17 (by decide) (fun c_10 => ?_) (fun c_10 => ?_)
    · skip
      refine lv_iconst (v := nI 0) hx hb dX1_response_24 (by decide) ?_
      refine zt_i (y := bB (ixB (p0) 5 && ixB (p1) 12)) (bB_0.trans (congrArg bB (by simp [c_7, c_10]))) ?_
      exact cut25 _ (lv_sub hl [0, 1, 2, 3] rfl)
    · skip
      refine lv_iconst (v := nI 1) hx hb dX1_response_20 (by decide) ?_
      refine lv_goto (tgt := 25) hx hb dX1_response_21 (by decide) ?_
      refine zt_i (y := bB (ixB (p0) 5 && ixB (p1) 12)) (bB_1.trans (congrArg bB (by simp [c_7, c_10]))) ?_
      exact cut25 _ (lv_sub hl [0, 1, 2, 3] rfl)
set_option maxHeartbeats 4000000 in
set_option maxRecDepth 100000 in
/-- pump -/
theorem r0_pump (l : Launch) {D : va_G} {ad : Nat → Nat} {cI : ClassId} {M : Mdl} {th : Int32} {sz : Nat} (hI : Inv M) (hnd : ndz 9 ad)  (p0 p1 p2 : Int32) : Met l yX1_pump wsX1_pump (rmP 3) (va_Pc [.ref (ad 0), .int (p0), .int (p1), .int (p2)] (KP1S D ad cI M th sz)) (va_Qi (fun r_ (u_ : Unit) => ((ixB (p0) (M 0 0) && ixB (p1) 36) && (rgB (p2) (nI (0)) (nI (1000)))) = true → r_ = nI (M (10 + 3 * clN p0) (clN p1))) (fun (u_ : Unit) t_ => ∃ M9 : Mdl, KP1 D ad cI M9 (nI (cd2 (ixB (p0) (M 0 0) && ixB (p1) 36) (rgB (p2) (nI (0)) (nI (1000))))) t_ ∧ (((ixB (p0) (M 0 0) && ixB (p1) 36) && (rgB (p2) (nI (0)) (nI (1000)))) = true → M9 = nx_pump M (clN p0) (clN p1) (clN p2)) ∧ (((ixB (p0) (M 0 0) && ixB (p1) 36) && (rgB (p2) (nI (0)) (nI (1000)))) = false → M9 = M)) (azs 9 ad sz)) 0 0 (azs 9 ad sz) := by
  refine mk_Qi (S := Unit) (post := fun r_ u_ => ((ixB (p0) (M 0 0) && ixB (p1) 36) && (rgB (p2) (nI (0)) (nI (1000)))) = true → r_ = nI (M (10 + 3 * clN p0) (clN p1))) (BQ := fun u_ t_ => ∃ M9 : Mdl, KP1 D ad cI M9 (nI (cd2 (ixB (p0) (M 0 0) && ixB (p1) 36) (rgB (p2) (nI (0)) (nI (1000))))) t_ ∧ (((ixB (p0) (M 0 0) && ixB (p1) 36) && (rgB (p2) (nI (0)) (nI (1000)))) = true → M9 = nx_pump M (clN p0) (clN p1) (clN p2)) ∧ (((ixB (p0) (M 0 0) && ixB (p1) 36) && (rgB (p2) (nI (0)) (nI (1000)))) = false → M9 = M)) (cc := cX1_pump) (maxL := 5) (by decide) rfl (Nat.le_of_ble_eq_true rfl) ?_
  intro p e s m args below meth c Q C0 B0 hret ls hl
  obtain ⟨hx, hb, hr, hml, hown, hts, hlocks⟩ := C0
  have hown : s.vm.findClass RX1 = some m.cls := hown
  obtain ⟨hsz, hK, hP⟩ := B0
  have hw0 : ∀ w ∈ wsX10, w.before args s = true := fun w h => hts w ((by decide +kernel : ∀ w ∈ wsX10, w ∈ wsX1_pump) w h)
  subst hsz
  have hAd : ∀ i, i < 9 → azs 9 ad s.heap.size (ad i) := fun i h => azs_i h
  have hS : va_S (azs 9 ad s.heap.size) s.heap s.heap [] := va_S.rf
  have b_nw := hI.nw
  have b_nv := hI.nv
  have hl : lv_has ls 5 [(0, .ref (ad 0)), (1, .int (p0)), (2, .int (p1)), (3, .int (p2))] := hl
  have cut21 : ∀ ls : Array Slot, lv_has ls 5 [(0, .ref (ad 0)), (1, .int (p0)), (2, .int (p1)), (3, .int (p2))] → W p l e (rmP 3) s m args below meth c s.heap [] 0 0 Q (F0 m 21 ls [.int (bB (ixB (p0) (M 0 0) && ixB (p1) 36)), .ref (ad 0)]) := by
    intro ls hl
    refine lv_iload_n hx hb dX1_pump_21 rfl (lv_at hl 3 rfl) ?_
    refine lv_iconst (v := nI 0) hx hb dX1_pump_22 (by decide) ?_
    refine lv_sipush (v := nI 1000) hx hb dX1_pump_23 (by decide) ?_
    refine vp_callSi (W.runS (As := [.int (p2), .int (nI (0)), .int (nI (1000))]) (rest := [.int (bB (ixB (p0) (M 0 0) && ixB (p1) 36)), .ref (ad 0)]) ⟨hx, hb, hml, hown, hts⟩ (c1_isIn l (p2) (nI (0)) (nI (1000))) (va_cwS 3 hts gX1_pump_X1_isIn rfl rfl rfl (by decide +kernel) (by decide)) psN rfl rfl hl.1 rfl (lv_room (Nat.le_of_ble_eq_true rfl)) dX1_pump_26 (by decide)) (fun r_1 hr_1 => ?_)
    obtain ⟨b_2, rfl, hb_2⟩ := hr_1
    subst hb_2
    have hz9 := hS.1
    refine va_calli (va_runV (As := [.int (bB (ixB (p0) (M 0 0) && ixB (p1) 36)), .int (bB (rgB (p2) (nI (0)) (nI (1000))))]) (rest := []) ⟨hx, hb, hml, hown, hts⟩ (c1_mayBoth l (D := D) (ad := ad) (cI := cI) (M := M) (th := th) (sz := s.heap.size) hnd (ixB (p0) (M 0 0) && ixB (p1) 36) (rgB (p2) (nI (0)) (nI (1000)))) (cwV 2 hts gX1_pump_X1_mayBoth rfl rfl rfl (by decide +kernel) (by decide)) (pv1S hK hP) rfl rfl hl.1 rfl (lv_room (Nat.le_of_ble_eq_true rfl)) dX1_pump_29 (by decide)) hS (fun q _ h => azs_mono hz9 h) (fun q h => azs_mono hz9 h) (fun r9 u9 t9 H1 locs1 ht9 hv9 hp9 hB9 hz1 hk1 hS1 => ?_)
    obtain ⟨b9, rfl, hb9⟩ := hp9
    subst hb9
    have hP1 := hB9.2
    rw [ht9] at hP1
    clear hP hS hB9 ht9 hv9 hz1 hk1 hz9
    have hP := hP1
    have hS := hS1
    clear hP1 hS1
    generalize H1 = H at hP hS ⊢
    generalize locs1 = locs at hS ⊢
    refine zb_Bne (tgt := 37) hx hb dX1_pump_32 (by decide) (fun c_3 => ?_) (fun c_3 => ?_)
    · skip
      obtain ⟨a0, h_a0, rfl⟩ := ixB_of (by omega) (Bool.and_eq_true_iff.mp (Bool.and_eq_true_iff.mp c_3).1).1
      have cl_a0 : clN (nI a0) = a0 := clN_nI (by omega)
      obtain ⟨a1, h_a1, rfl⟩ := ixB_of (by omega) (Bool.and_eq_true_iff.mp (Bool.and_eq_true_iff.mp c_3).1).2
      have cl_a1 : clN (nI a1) = a1 := clN_nI (by omega)
      obtain ⟨a2, ga2, h_a2, rfl⟩ := rgB_of (by decide) (Bool.and_eq_true_iff.mp c_3).2 (by decide)
      have cl_a2 : clN (nI a2) = a2 := clN_nI (by omega)
      refine lv_aload_n hx hb dX1_pump_37 rfl (lv_at hl 0 rfl) ?_
      refine zg1 hx hb hw0 hown hK hP (by decide) rfl 4 (by decide) (hts (.fieldLink RX1 19 "WellFieldModel" "units" "[I") (by decide +kernel)) rfl rfl dX1_pump_38 ?_
      refine lv_bipush (v := nI 36) hx hb dX1_pump_41 (by decide) ?_
      refine lv_iload_n hx hb dX1_pump_43 rfl (lv_at hl 1 rfl) ?_
      refine zr_imul hx hb dX1_pump_44 ?_
      refine lv_iload_n hx hb dX1_pump_45 rfl (lv_at hl 2 rfl) ?_
      refine zr_iadd hx hb dX1_pump_46 ?_
      refine zi_ld hx hb hK hP 4 (by decide) 0 rfl rfl (by decide) (i := ((36) * (a0)) + (a1)) (by omega) (v := nI (M (10 + 3 * (a0)) (a1))) (fl_un (by omega)) dX1_pump_47 ?_
      have f_4 := hI.un (a0) (by omega) (a1)
      refine lv_istore (lv' := [(4, .int (nI (M (10 + 3 * (a0)) (a1)))), (0, .ref (ad 0)), (1, .int (nI (a0))), (2, .int (nI (a1))), (3, .int (nI (a2)))]) hx hb dX1_pump_48 hl (by decide) rfl (fun ls hl => ?_)
      refine lv_aload_n hx hb dX1_pump_50 rfl (lv_at hl 1 rfl) ?_
      refine zg1 hx hb hw0 hown hK hP (by decide) rfl 4 (by decide) (hts (.fieldLink RX1 19 "WellFieldModel" "units" "[I") (by decide +kernel)) rfl rfl dX1_pump_51 ?_
      refine lv_bipush (v := nI 36) hx hb dX1_pump_54 (by decide) ?_
      refine lv_iload_n hx hb dX1_pump_56 rfl (lv_at hl 2 rfl) ?_
      refine zr_imul hx hb dX1_pump_57 ?_
      refine lv_iload_n hx hb dX1_pump_58 rfl (lv_at hl 3 rfl) ?_
      refine zr_iadd hx hb dX1_pump_59 ?_
      refine lv_iload_n hx hb dX1_pump_60 rfl (lv_at hl 4 rfl) ?_
      refine zi_st hx hb hK hP hnd hAd hS 4 (by decide) 0 rfl rfl (by decide) (i := ((36) * (a0)) + (a1)) (by omega) (wmE ad cI (mup (M) (10 + 3 * (a0)) (a1) (a2)) (nI (cd2 (ixB ((nI a0)) (M 0 0) && ixB ((nI a1)) 36) (rgB ((nI a2)) (nI (0)) (nI (1000)))))) (wmS_un (by omega) (by omega)) dX1_pump_61 (fun H locs hP hS => ?_)
      refine lv_iload hx hb dX1_pump_62 (lv_at hl 0 rfl) ?_
      exact hret (u := ()) (fun _ => by rw [cl_a0, cl_a1]) hS (fun t ht hA => ⟨_, ⟨va_K.moved hA hK, by rw [ht]; exact hP⟩, fun _ => by rw [cl_a0, cl_a1, cl_a2]; rfl, (fun h => absurd h (by rw [c_3]; decide))⟩) dX1_pump_64
    · skip
      refine lv_iconst (v := nI 0) hx hb dX1_pump_35 (by decide) ?_
      exact hret (u := ()) (fun h => absurd h (by rw [c_3]; decide)) hS (fun t ht hA => ⟨M, ⟨va_K.moved hA hK, by rw [ht]; exact hP⟩, (fun h => absurd h (by rw [c_3]; decide)), fun _ => rfl⟩) dX1_pump_36
  refine lv_aload_n hx hb dX1_pump_0 rfl (lv_at hl 0 rfl) ?_
  refine lv_aload_n hx hb dX1_pump_1 rfl (lv_at hl 0 rfl) ?_
  refine lv_iload_n hx hb dX1_pump_2 rfl (lv_at hl 1 rfl) ?_
  refine vp_callSi (W.runV (As := [.int (p0)]) (rest := [.ref (ad 0)]) ⟨hx, hb, hml, hown, hts⟩ (c1_isWell l hI (p0)) (cwV 1 hts gX1_pump_X1_isWell rfl rfl rfl (by decide +kernel) (by decide)) (pv1 hK hP) rfl rfl hl.1 rfl (lv_room (Nat.le_of_ble_eq_true rfl)) dX1_pump_3 (by decide)) (fun r_5 hr_5 => ?_)
  obtain ⟨b_6, rfl, hb_6⟩ := hr_5
  subst hb_6
  refine zb_Beq (tgt := 20) hx hb dX1_pump_6 (by decide) (fun c_7 => ?_) (fun c_7 => ?_)
  · skip
    refine lv_iconst (v := nI 0) hx hb dX1_pump_20 (by decide) ?_
    refine zt_i (y := bB (ixB (p0) (M 0 0) && ixB (p1) 36)) (bB_0.trans (congrArg bB (by simp [c_7]))) ?_
    exact cut21 _ (lv_sub hl [0, 1, 2, 3] rfl)
  · skip
    refine lv_iload_n hx hb dX1_pump_9 rfl (lv_at hl 2 rfl) ?_
    refine vp_callSi (W.runS (As := [.int (p1)]) (rest := [.ref (ad 0)]) ⟨hx, hb, hml, hown, hts⟩ (c1_isMonth l (p1)) (va_cwS 1 hts gX1_pump_X1_isMonth rfl rfl rfl (by decide +kernel) (by decide)) psN rfl rfl hl.1 rfl (lv_room (Nat.le_of_ble_eq_true rfl)) dX1_pump_10 (by decide)) (fun r_8 hr_8 => ?_)
    obtain ⟨b_9, rfl, hb_9⟩ := hr_8
    subst hb_9
    refine zb_Beq (tgt := 20) hx hb dX1_pump_13 (by decide) (fun c_10 => ?_) (fun c_10 => ?_)
    · skip
      refine lv_iconst (v := nI 0) hx hb dX1_pump_20 (by decide) ?_
      refine zt_i (y := bB (ixB (p0) (M 0 0) && ixB (p1) 36)) (bB_0.trans (congrArg bB (by simp [c_7, c_10]))) ?_
      exact cut21 _ (lv_sub hl [0, 1, 2, 3] rfl)
    · skip
      refine lv_iconst (v := nI 1) hx hb dX1_pump_16 (by decide) ?_
      refine lv_goto (tgt := 21) hx hb dX1_pump_17 (by decide) ?_
      refine zt_i (y := bB (ixB (p0) (M 0 0) && ixB (p1) 36)) (bB_1.trans (congrArg bB (by simp [c_7, c_10]))) ?_
      exact cut21 _ (lv_sub hl [0, 1, 2, 3] rfl)
set_option maxHeartbeats 4000000 in
set_option maxRecDepth 100000 in
/-- rest -/
theorem r0_rest (l : Launch) {D : va_G} {ad : Nat → Nat} {cI : ClassId} {M : Mdl} {th : Int32} {sz : Nat} (hI : Inv M) (hnd : ndz 9 ad)  (p0 p1 p2 : Int32) : Met l yX1_rest wsX1_rest (rmP 3) (va_Pc [.ref (ad 0), .int (p0), .int (p1), .int (p2)] (KP1S D ad cI M th sz)) (va_Qi (fun r_ (u_ : Unit) => ((ixB (p0) (M 0 0) && ixB (p1) 36) && (rgB (p2) (nI (1)) (nI (36)))) = true → r_ = nI (rss M (clN p0) (clN p1) (rsn (clN p1) (clN p2)))) (fun (u_ : Unit) t_ => ∃ M9 : Mdl, KP1 D ad cI M9 (nI (cd2 (ixB (p0) (M 0 0) && ixB (p1) 36) (rgB (p2) (nI (1)) (nI (36))))) t_ ∧ (((ixB (p0) (M 0 0) && ixB (p1) 36) && (rgB (p2) (nI (1)) (nI (36)))) = true → M9 = nx_rest M (clN p0) (clN p1) (clN p2)) ∧ (((ixB (p0) (M 0 0) && ixB (p1) 36) && (rgB (p2) (nI (1)) (nI (36)))) = false → M9 = M)) (azs 9 ad sz)) 0 0 (azs 9 ad sz) := by
  refine mk_Qi (S := Unit) (post := fun r_ u_ => ((ixB (p0) (M 0 0) && ixB (p1) 36) && (rgB (p2) (nI (1)) (nI (36)))) = true → r_ = nI (rss M (clN p0) (clN p1) (rsn (clN p1) (clN p2)))) (BQ := fun u_ t_ => ∃ M9 : Mdl, KP1 D ad cI M9 (nI (cd2 (ixB (p0) (M 0 0) && ixB (p1) 36) (rgB (p2) (nI (1)) (nI (36))))) t_ ∧ (((ixB (p0) (M 0 0) && ixB (p1) 36) && (rgB (p2) (nI (1)) (nI (36)))) = true → M9 = nx_rest M (clN p0) (clN p1) (clN p2)) ∧ (((ixB (p0) (M 0 0) && ixB (p1) 36) && (rgB (p2) (nI (1)) (nI (36)))) = false → M9 = M)) (cc := cX1_rest) (maxL := 6) (by decide) rfl (Nat.le_of_ble_eq_true rfl) ?_
  intro p e s m args below meth c Q C0 B0 hret ls hl
  obtain ⟨hx, hb, hr, hml, hown, hts, hlocks⟩ := C0
  have hown : s.vm.findClass RX1 = some m.cls := hown
  obtain ⟨hsz, hK, hP⟩ := B0
  have hw0 : ∀ w ∈ wsX10, w.before args s = true := fun w h => hts w ((by decide +kernel : ∀ w ∈ wsX10, w ∈ wsX1_rest) w h)
  subst hsz
  have hAd : ∀ i, i < 9 → azs 9 ad s.heap.size (ad i) := fun i h => azs_i h
  have hS : va_S (azs 9 ad s.heap.size) s.heap s.heap [] := va_S.rf
  have b_nw := hI.nw
  have b_nv := hI.nv
  have hl : lv_has ls 6 [(0, .ref (ad 0)), (1, .int (p0)), (2, .int (p1)), (3, .int (p2))] := hl
  have cut21 : ∀ ls : Array Slot, lv_has ls 6 [(0, .ref (ad 0)), (1, .int (p0)), (2, .int (p1)), (3, .int (p2))] → W p l e (rmP 3) s m args below meth c s.heap [] 0 0 Q (F0 m 21 ls [.int (bB (ixB (p0) (M 0 0) && ixB (p1) 36)), .ref (ad 0)]) := by
    intro ls hl
    refine lv_iload_n hx hb dX1_rest_21 rfl (lv_at hl 3 rfl) ?_
    refine lv_iconst (v := nI 1) hx hb dX1_rest_22 (by decide) ?_
    refine lv_bipush (v := nI 36) hx hb dX1_rest_23 (by decide) ?_
    refine vp_callSi (W.runS (As := [.int (p2), .int (nI (1)), .int (nI (36))]) (rest := [.int (bB (ixB (p0) (M 0 0) && ixB (p1) 36)), .ref (ad 0)]) ⟨hx, hb, hml, hown, hts⟩ (c1_isIn l (p2) (nI (1)) (nI (36))) (va_cwS 3 hts gX1_rest_X1_isIn rfl rfl rfl (by decide +kernel) (by decide)) psN rfl rfl hl.1 rfl (lv_room (Nat.le_of_ble_eq_true rfl)) dX1_rest_25 (by decide)) (fun r_1 hr_1 => ?_)
    obtain ⟨b_2, rfl, hb_2⟩ := hr_1
    subst hb_2
    have hz9 := hS.1
    refine va_calli (va_runV (As := [.int (bB (ixB (p0) (M 0 0) && ixB (p1) 36)), .int (bB (rgB (p2) (nI (1)) (nI (36))))]) (rest := []) ⟨hx, hb, hml, hown, hts⟩ (c1_mayBoth l (D := D) (ad := ad) (cI := cI) (M := M) (th := th) (sz := s.heap.size) hnd (ixB (p0) (M 0 0) && ixB (p1) 36) (rgB (p2) (nI (1)) (nI (36)))) (cwV 2 hts gX1_rest_X1_mayBoth rfl rfl rfl (by decide +kernel) (by decide)) (pv1S hK hP) rfl rfl hl.1 rfl (lv_room (Nat.le_of_ble_eq_true rfl)) dX1_rest_28 (by decide)) hS (fun q _ h => azs_mono hz9 h) (fun q h => azs_mono hz9 h) (fun r9 u9 t9 H1 locs1 ht9 hv9 hp9 hB9 hz1 hk1 hS1 => ?_)
    obtain ⟨b9, rfl, hb9⟩ := hp9
    subst hb9
    have hP1 := hB9.2
    rw [ht9] at hP1
    clear hP hS hB9 ht9 hv9 hz1 hk1 hz9
    have hP := hP1
    have hS := hS1
    clear hP1 hS1
    generalize H1 = H at hP hS ⊢
    generalize locs1 = locs at hS ⊢
    refine zb_Bne (tgt := 36) hx hb dX1_rest_31 (by decide) (fun c_3 => ?_) (fun c_3 => ?_)
    · skip
      obtain ⟨w, h_w, rfl⟩ := ixB_of (by omega) (Bool.and_eq_true_iff.mp (Bool.and_eq_true_iff.mp c_3).1).1
      have cl_w : clN (nI w) = w := clN_nI (by omega)
      obtain ⟨mo, h_mo, rfl⟩ := ixB_of (by omega) (Bool.and_eq_true_iff.mp (Bool.and_eq_true_iff.mp c_3).1).2
      have cl_mo : clN (nI mo) = mo := clN_nI (by omega)
      obtain ⟨nn, gnn, h_nn, rfl⟩ := rgB_of (by decide) (Bool.and_eq_true_iff.mp c_3).2 (by decide)
      have cl_nn : clN (nI nn) = nn := clN_nI (by omega)
      have hrs := rsn_s mo nn h_mo
      refine lv_iconst (v := nI 0) hx hb dX1_rest_36 (by decide) ?_
      refine lv_istore (lv' := [(4, .int (nI (0))), (0, .ref (ad 0)), (1, .int (nI (w))), (2, .int (nI (mo))), (3, .int (nI (nn)))]) hx hb dX1_rest_37 hl (by decide) rfl (fun ls hl => ?_)
      refine lv_iload_n hx hb dX1_rest_39 rfl (lv_at hl 3 rfl) ?_
      refine lv_istore (lv' := [(5, .int (nI (mo))), (4, .int (nI (0))), (0, .ref (ad 0)), (1, .int (nI (w))), (2, .int (nI (mo))), (3, .int (nI (nn)))]) hx hb dX1_rest_40 hl (by decide) rfl (fun ls hl => ?_)
      have lp42 : ∀ (n k : Nat), k ≤ rsn mo nn → rsn mo nn - k < n → ∀ (H : Heap) (locs : List Loc), va_P D vwCl (wz 9 ad (wmE ad cI (rst M w mo (k)) (nI (cd2 (ixB ((nI w)) (M 0 0) && ixB ((nI mo)) 36) (rgB ((nI nn)) (nI (1)) (nI (36))))))) H → va_S (azs 9 ad s.heap.size) s.heap H locs → ∀ ls : Array Slot, lv_has ls 6 [(0, .ref (ad 0)), (1, .int (nI (w))), (2, .int (nI (mo))), (3, .int (nI (nn))), (4, .int (nI (ssum (fun k => M (10 + 3 * w) (mo + k)) (k)))), (5, .int (nI (mo + (k))))] → W p l e (rmP 3) s m args below meth c H locs 0 0 Q (F0 m 42 ls []) := by
        intro n
        induction n with
        | zero => intro k q1 q2; omega
        | succ n ih42 =>
          intro k q1_42 q2_42 H locs hP hS ls hl
          refine lv_iload hx hb dX1_rest_42 (lv_at hl 5 rfl) ?_
          refine lv_iload_n hx hb dX1_rest_44 rfl (lv_at hl 2 rfl) ?_
          refine lv_iload_n hx hb dX1_rest_45 rfl (lv_at hl 3 rfl) ?_
          refine zr_iadd hx hb dX1_rest_46 ?_
          refine zb_ge (tgt := 93) hx hb (by omega) (by omega) dX1_rest_47 (by decide) (fun c_4 => ?_) (fun c_4 => ?_)
          · skip
            have q_5 : k = rsn mo nn := by omega
            subst q_5
            refine lv_iload hx hb dX1_rest_93 (lv_at hl 4 rfl) ?_
            exact hret (u := ()) (fun _ => by rw [cl_w, cl_mo, cl_nn]; rfl) hS (fun t ht hA => ⟨_, ⟨va_K.moved hA hK, by rw [ht]; exact hP⟩, fun _ => by rw [cl_w, cl_mo, cl_nn]; rfl, (fun h => absurd h (by rw [c_3]; decide))⟩) dX1_rest_95
          · skip
            refine lv_iload hx hb dX1_rest_50 (lv_at hl 5 rfl) ?_
            refine lv_bipush (v := nI 36) hx hb dX1_rest_52 (by decide) ?_
            refine zb_ge (tgt := 93) hx hb (by omega) (by omega) dX1_rest_54 (by decide) (fun c_6 => ?_) (fun c_6 => ?_)
            · skip
              have q_7 : k = rsn mo nn := by omega
              subst q_7
              refine lv_iload hx hb dX1_rest_93 (lv_at hl 4 rfl) ?_
              exact hret (u := ()) (fun _ => by rw [cl_w, cl_mo, cl_nn]; rfl) hS (fun t ht hA => ⟨_, ⟨va_K.moved hA hK, by rw [ht]; exact hP⟩, fun _ => by rw [cl_w, cl_mo, cl_nn]; rfl, (fun h => absurd h (by rw [c_3]; decide))⟩) dX1_rest_95
            · skip
              refine lv_iload hx hb dX1_rest_57 (lv_at hl 4 rfl) ?_
              refine lv_aload_n hx hb dX1_rest_59 rfl (lv_at hl 0 rfl) ?_
              refine zg1 hx hb hw0 hown hK hP (by decide) rfl 4 (by decide) (hts (.fieldLink RX1 19 "WellFieldModel" "units" "[I") (by decide +kernel)) rfl rfl dX1_rest_60 ?_
              refine lv_bipush (v := nI 36) hx hb dX1_rest_63 (by decide) ?_
              refine lv_iload_n hx hb dX1_rest_65 rfl (lv_at hl 1 rfl) ?_
              refine zr_imul hx hb dX1_rest_66 ?_
              refine lv_iload hx hb dX1_rest_67 (lv_at hl 5 rfl) ?_
              refine zr_iadd hx hb dX1_rest_69 ?_
              refine zi_ld hx hb hK hP 4 (by decide) 0 rfl rfl (by decide) (i := ((36) * (w)) + (mo + (k))) (by omega) (v := nI ((rst M w mo (k)) (10 + 3 * (w)) (mo + (k)))) (fl_un (by omega)) dX1_rest_70 ?_
              refine zt_i (y := nI (M (10 + 3 * w) (mo + k))) (congrArg nI (rst_at M w mo k k (Nat.le_refl _))) ?_
              refine zr_iadd hx hb dX1_rest_71 ?_
              refine lv_istore (lv' := [(4, .int (nI ((ssum (fun k => M (10 + 3 * w) (mo + k)) (k)) + (M (10 + 3 * w) (mo + k))))), (0, .ref (ad 0)), (1, .int (nI (w))), (2, .int (nI (mo))), (3, .int (nI (nn))), (5, .int (nI (mo + (k))))]) hx hb dX1_rest_72 hl (by decide) rfl (fun ls hl => ?_)
              refine lv_aload_n hx hb dX1_rest_74 rfl (lv_at hl 1 rfl) ?_
              refine zg1 hx hb hw0 hown hK hP (by decide) rfl 4 (by decide) (hts (.fieldLink RX1 19 "WellFieldModel" "units" "[I") (by decide +kernel)) rfl rfl dX1_rest_75 ?_
              refine lv_bipush (v := nI 36) hx hb dX1_rest_78 (by decide) ?_
              refine lv_iload_n hx hb dX1_rest_80 rfl (lv_at hl 2 rfl) ?_
              refine zr_imul hx hb dX1_rest_81 ?_
              refine lv_iload hx hb dX1_rest_82 (lv_at hl 5 rfl) ?_
              refine zr_iadd hx hb dX1_rest_84 ?_
              refine lv_iconst (v := nI 0) hx hb dX1_rest_85 (by decide) ?_
              refine zi_st hx hb hK hP hnd hAd hS 4 (by decide) 0 rfl rfl (by decide) (i := ((36) * (w)) + (mo + (k))) (by omega) (wmE ad cI (mup (rst M w mo (k)) (10 + 3 * (w)) (mo + (k)) (0)) (nI (cd2 (ixB ((nI w)) (M 0 0) && ixB ((nI mo)) 36) (rgB ((nI nn)) (nI (1)) (nI (36)))))) (wmS_un (by omega) (by omega)) dX1_rest_86 (fun H locs hP hS => ?_)
              refine lv_iinc (v := nI (mo + (k) + 1)) (lv' := [(5, .int (nI (mo + (k) + 1))), (4, .int (nI ((ssum (fun k => M (10 + 3 * w) (mo + k)) (k)) + (M (10 + 3 * w) (mo + k))))), (0, .ref (ad 0)), (1, .int (nI (w))), (2, .int (nI (mo))), (3, .int (nI (nn)))]) hx hb dX1_rest_87 hl (k := 5) rfl (zn_inc (mo + (k))) (by decide) rfl (fun ls hl => ?_)
              refine lv_goto (tgt := 42) hx hb dX1_rest_90 (by decide) ?_
              exact ih42 (k + 1) (by omega) (by omega) _ _ hP hS _ (lv_sub hl [2, 3, 4, 5, 1, 0] rfl)
      exact lp42 (rsn mo nn - (0) + 1) (0) (by omega) (by omega) _ _ hP hS _ (lv_sub hl [2, 3, 4, 5, 1, 0] rfl)
    · skip
      refine lv_iconst (v := nI 0) hx hb dX1_rest_34 (by decide) ?_
      exact hret (u := ()) (fun h => absurd h (by rw [c_3]; decide)) hS (fun t ht hA => ⟨M, ⟨va_K.moved hA hK, by rw [ht]; exact hP⟩, (fun h => absurd h (by rw [c_3]; decide)), fun _ => rfl⟩) dX1_rest_35
  refine lv_aload_n hx hb dX1_rest_0 rfl (lv_at hl 0 rfl) ?_
  refine lv_aload_n hx hb dX1_rest_1 rfl (lv_at hl 0 rfl) ?_
  refine lv_iload_n hx hb dX1_rest_2 rfl (lv_at hl 1 rfl) ?_
  refine vp_callSi (W.runV (As := [.int (p0)]) (rest := [.ref (ad 0)]) ⟨hx, hb, hml, hown, hts⟩ (c1_isWell l hI (p0)) (cwV 1 hts gX1_rest_X1_isWell rfl rfl rfl (by decide +kernel) (by decide)) (pv1 hK hP) rfl rfl hl.1 rfl (lv_room (Nat.le_of_ble_eq_true rfl)) dX1_rest_3 (by decide)) (fun r_8 hr_8 => ?_)
  obtain ⟨b_9, rfl, hb_9⟩ := hr_8
  subst hb_9
  refine zb_Beq (tgt := 20) hx hb dX1_rest_6 (by decide) (fun c_10 => ?_) (fun c_10 => ?_)
  · skip
    refine lv_iconst (v := nI 0) hx hb dX1_rest_20 (by decide) ?_
    refine zt_i (y := bB (ixB (p0) (M 0 0) && ixB (p1) 36)) (bB_0.trans (congrArg bB (by simp [c_10]))) ?_
    exact cut21 _ (lv_sub hl [0, 1, 2, 3] rfl)
  · skip
    refine lv_iload_n hx hb dX1_rest_9 rfl (lv_at hl 2 rfl) ?_
    refine vp_callSi (W.runS (As := [.int (p1)]) (rest := [.ref (ad 0)]) ⟨hx, hb, hml, hown, hts⟩ (c1_isMonth l (p1)) (va_cwS 1 hts gX1_rest_X1_isMonth rfl rfl rfl (by decide +kernel) (by decide)) psN rfl rfl hl.1 rfl (lv_room (Nat.le_of_ble_eq_true rfl)) dX1_rest_10 (by decide)) (fun r_11 hr_11 => ?_)
    obtain ⟨b_12, rfl, hb_12⟩ := hr_11
    subst hb_12
    refine zb_Beq (tgt := 20) hx hb dX1_rest_13 (by decide) (fun c_13 => ?_) (fun c_13 => ?_)
    · skip
      refine lv_iconst (v := nI 0) hx hb dX1_rest_20 (by decide) ?_
      refine zt_i (y := bB (ixB (p0) (M 0 0) && ixB (p1) 36)) (bB_0.trans (congrArg bB (by simp [c_10, c_13]))) ?_
      exact cut21 _ (lv_sub hl [0, 1, 2, 3] rfl)
    · skip
      refine lv_iconst (v := nI 1) hx hb dX1_rest_16 (by decide) ?_
      refine lv_goto (tgt := 21) hx hb dX1_rest_17 (by decide) ?_
      refine zt_i (y := bB (ixB (p0) (M 0 0) && ixB (p1) 36)) (bB_1.trans (congrArg bB (by simp [c_10, c_13]))) ?_
      exact cut21 _ (lv_sub hl [0, 1, 2, 3] rfl)
set_option maxHeartbeats 4000000 in
set_option maxRecDepth 100000 in
/-- ratio -/
theorem r0_ratio (l : Launch) {D : va_G} {ad : Nat → Nat} {cI : ClassId} {M : Mdl} {th : Int32} {sz : Nat} (hI : Inv M) (hnd : ndz 9 ad)  (p0 p1 p2 : Int32) : Met l yX1_ratio wsX1_ratio (rmP 3) (va_Pc [.ref (ad 0), .int (p0), .int (p1), .int (p2)] (KP1S D ad cI M th sz)) (va_Qi (fun r_ (u_ : Unit) => ((ixB (p0) 3 && ixB (p1) 3) && (rgB (p2) (nI (0)) (nI (200)))) = true → r_ = nI (M (12 + 3 * clN p0) (clN p1))) (fun (u_ : Unit) t_ => ∃ M9 : Mdl, KP1 D ad cI M9 (nI (cd2 (ixB (p0) 3 && ixB (p1) 3) (rgB (p2) (nI (0)) (nI (200))))) t_ ∧ (((ixB (p0) 3 && ixB (p1) 3) && (rgB (p2) (nI (0)) (nI (200)))) = true → M9 = nx_ratio M (clN p0) (clN p1) (clN p2)) ∧ (((ixB (p0) 3 && ixB (p1) 3) && (rgB (p2) (nI (0)) (nI (200)))) = false → M9 = M)) (azs 9 ad sz)) 0 0 (azs 9 ad sz) := by
  refine mk_Qi (S := Unit) (post := fun r_ u_ => ((ixB (p0) 3 && ixB (p1) 3) && (rgB (p2) (nI (0)) (nI (200)))) = true → r_ = nI (M (12 + 3 * clN p0) (clN p1))) (BQ := fun u_ t_ => ∃ M9 : Mdl, KP1 D ad cI M9 (nI (cd2 (ixB (p0) 3 && ixB (p1) 3) (rgB (p2) (nI (0)) (nI (200))))) t_ ∧ (((ixB (p0) 3 && ixB (p1) 3) && (rgB (p2) (nI (0)) (nI (200)))) = true → M9 = nx_ratio M (clN p0) (clN p1) (clN p2)) ∧ (((ixB (p0) 3 && ixB (p1) 3) && (rgB (p2) (nI (0)) (nI (200)))) = false → M9 = M)) (cc := cX1_ratio) (maxL := 5) (by decide) rfl (Nat.le_of_ble_eq_true rfl) ?_
  intro p e s m args below meth c Q C0 B0 hret ls hl
  obtain ⟨hx, hb, hr, hml, hown, hts, hlocks⟩ := C0
  have hown : s.vm.findClass RX1 = some m.cls := hown
  obtain ⟨hsz, hK, hP⟩ := B0
  have hw0 : ∀ w ∈ wsX10, w.before args s = true := fun w h => hts w ((by decide +kernel : ∀ w ∈ wsX10, w ∈ wsX1_ratio) w h)
  subst hsz
  have hAd : ∀ i, i < 9 → azs 9 ad s.heap.size (ad i) := fun i h => azs_i h
  have hS : va_S (azs 9 ad s.heap.size) s.heap s.heap [] := va_S.rf
  have b_nw := hI.nw
  have b_nv := hI.nv
  have hl : lv_has ls 5 [(0, .ref (ad 0)), (1, .int (p0)), (2, .int (p1)), (3, .int (p2))] := hl
  have cut24 : ∀ ls : Array Slot, lv_has ls 5 [(0, .ref (ad 0)), (1, .int (p0)), (2, .int (p1)), (3, .int (p2))] → W p l e (rmP 3) s m args below meth c s.heap [] 0 0 Q (F0 m 24 ls [.int (bB (ixB (p0) 3 && ixB (p1) 3)), .ref (ad 0)]) := by
    intro ls hl
    refine lv_iload_n hx hb dX1_ratio_24 rfl (lv_at hl 3 rfl) ?_
    refine lv_iconst (v := nI 0) hx hb dX1_ratio_25 (by decide) ?_
    refine lv_sipush (v := nI 200) hx hb dX1_ratio_26 (by decide) ?_
    refine vp_callSi (W.runS (As := [.int (p2), .int (nI (0)), .int (nI (200))]) (rest := [.int (bB (ixB (p0) 3 && ixB (p1) 3)), .ref (ad 0)]) ⟨hx, hb, hml, hown, hts⟩ (c1_isIn l (p2) (nI (0)) (nI (200))) (va_cwS 3 hts gX1_ratio_X1_isIn rfl rfl rfl (by decide +kernel) (by decide)) psN rfl rfl hl.1 rfl (lv_room (Nat.le_of_ble_eq_true rfl)) dX1_ratio_29 (by decide)) (fun r_1 hr_1 => ?_)
    obtain ⟨b_2, rfl, hb_2⟩ := hr_1
    subst hb_2
    have hz9 := hS.1
    refine va_calli (va_runV (As := [.int (bB (ixB (p0) 3 && ixB (p1) 3)), .int (bB (rgB (p2) (nI (0)) (nI (200))))]) (rest := []) ⟨hx, hb, hml, hown, hts⟩ (c1_mayBoth l (D := D) (ad := ad) (cI := cI) (M := M) (th := th) (sz := s.heap.size) hnd (ixB (p0) 3 && ixB (p1) 3) (rgB (p2) (nI (0)) (nI (200)))) (cwV 2 hts gX1_ratio_X1_mayBoth rfl rfl rfl (by decide +kernel) (by decide)) (pv1S hK hP) rfl rfl hl.1 rfl (lv_room (Nat.le_of_ble_eq_true rfl)) dX1_ratio_32 (by decide)) hS (fun q _ h => azs_mono hz9 h) (fun q h => azs_mono hz9 h) (fun r9 u9 t9 H1 locs1 ht9 hv9 hp9 hB9 hz1 hk1 hS1 => ?_)
    obtain ⟨b9, rfl, hb9⟩ := hp9
    subst hb9
    have hP1 := hB9.2
    rw [ht9] at hP1
    clear hP hS hB9 ht9 hv9 hz1 hk1 hz9
    have hP := hP1
    have hS := hS1
    clear hP1 hS1
    generalize H1 = H at hP hS ⊢
    generalize locs1 = locs at hS ⊢
    refine zb_Bne (tgt := 40) hx hb dX1_ratio_35 (by decide) (fun c_3 => ?_) (fun c_3 => ?_)
    · skip
      obtain ⟨a0, h_a0, rfl⟩ := ixB_of (by omega) (Bool.and_eq_true_iff.mp (Bool.and_eq_true_iff.mp c_3).1).1
      have cl_a0 : clN (nI a0) = a0 := clN_nI (by omega)
      obtain ⟨a1, h_a1, rfl⟩ := ixB_of (by omega) (Bool.and_eq_true_iff.mp (Bool.and_eq_true_iff.mp c_3).1).2
      have cl_a1 : clN (nI a1) = a1 := clN_nI (by omega)
      obtain ⟨a2, ga2, h_a2, rfl⟩ := rgB_of (by decide) (Bool.and_eq_true_iff.mp c_3).2 (by decide)
      have cl_a2 : clN (nI a2) = a2 := clN_nI (by omega)
      refine lv_aload_n hx hb dX1_ratio_40 rfl (lv_at hl 0 rfl) ?_
      refine zg1 hx hb hw0 hown hK hP (by decide) rfl 9 (by decide) (hts (.fieldLink RX1 31 "WellFieldModel" "ratio" "[I") (by decide +kernel)) rfl rfl dX1_ratio_41 ?_
      refine lv_iconst (v := nI 3) hx hb dX1_ratio_44 (by decide) ?_
      refine lv_iload_n hx hb dX1_ratio_45 rfl (lv_at hl 1 rfl) ?_
      refine zr_imul hx hb dX1_ratio_46 ?_
      refine lv_iload_n hx hb dX1_ratio_47 rfl (lv_at hl 2 rfl) ?_
      refine zr_iadd hx hb dX1_ratio_48 ?_
      refine zi_ld hx hb hK hP 8 (by decide) 0 rfl rfl (by decide) (i := ((3) * (a0)) + (a1)) (by omega) (v := nI (M (12 + 3 * (a0)) (a1))) (fl_ra (by omega)) dX1_ratio_49 ?_
      have f_4 := hI.ra (a0) (by omega) (a1)
      refine lv_istore (lv' := [(4, .int (nI (M (12 + 3 * (a0)) (a1)))), (0, .ref (ad 0)), (1, .int (nI (a0))), (2, .int (nI (a1))), (3, .int (nI (a2)))]) hx hb dX1_ratio_50 hl (by decide) rfl (fun ls hl => ?_)
      refine lv_aload_n hx hb dX1_ratio_52 rfl (lv_at hl 1 rfl) ?_
      refine zg1 hx hb hw0 hown hK hP (by decide) rfl 9 (by decide) (hts (.fieldLink RX1 31 "WellFieldModel" "ratio" "[I") (by decide +kernel)) rfl rfl dX1_ratio_53 ?_
      refine lv_iconst (v := nI 3) hx hb dX1_ratio_56 (by decide) ?_
      refine lv_iload_n hx hb dX1_ratio_57 rfl (lv_at hl 2 rfl) ?_
      refine zr_imul hx hb dX1_ratio_58 ?_
      refine lv_iload_n hx hb dX1_ratio_59 rfl (lv_at hl 3 rfl) ?_
      refine zr_iadd hx hb dX1_ratio_60 ?_
      refine lv_iload_n hx hb dX1_ratio_61 rfl (lv_at hl 4 rfl) ?_
      refine zi_st hx hb hK hP hnd hAd hS 8 (by decide) 0 rfl rfl (by decide) (i := ((3) * (a0)) + (a1)) (by omega) (wmE ad cI (mup (M) (12 + 3 * (a0)) (a1) (a2)) (nI (cd2 (ixB ((nI a0)) 3 && ixB ((nI a1)) 3) (rgB ((nI a2)) (nI (0)) (nI (200)))))) (wmS_ra (by omega) (by omega)) dX1_ratio_62 (fun H locs hP hS => ?_)
      refine lv_iload hx hb dX1_ratio_63 (lv_at hl 0 rfl) ?_
      exact hret (u := ()) (fun _ => by rw [cl_a0, cl_a1]) hS (fun t ht hA => ⟨_, ⟨va_K.moved hA hK, by rw [ht]; exact hP⟩, fun _ => by rw [cl_a0, cl_a1, cl_a2]; rfl, (fun h => absurd h (by rw [c_3]; decide))⟩) dX1_ratio_65
    · skip
      refine lv_iconst (v := nI 0) hx hb dX1_ratio_38 (by decide) ?_
      exact hret (u := ()) (fun h => absurd h (by rw [c_3]; decide)) hS (fun t ht hA => ⟨M, ⟨va_K.moved hA hK, by rw [ht]; exact hP⟩, (fun h => absurd h (by rw [c_3]; decide)), fun _ => rfl⟩) dX1_ratio_39
  refine lv_aload_n hx hb dX1_ratio_0 rfl (lv_at hl 0 rfl) ?_
  refine lv_iload_n hx hb dX1_ratio_1 rfl (lv_at hl 1 rfl) ?_
  refine lv_iconst (v := nI 0) hx hb dX1_ratio_2 (by decide) ?_
  refine lv_iconst (v := nI 2) hx hb dX1_ratio_3 (by decide) ?_
  refine vp_callSi (W.runS (As := [.int (p0), .int (nI (0)), .int (nI (2))]) (rest := [.ref (ad 0)]) ⟨hx, hb, hml, hown, hts⟩ (c1_isIn l (p0) (nI (0)) (nI (2))) (va_cwS 3 hts gX1_ratio_X1_isIn rfl rfl rfl (by decide +kernel) (by decide)) psN rfl rfl hl.1 rfl (lv_room (Nat.le_of_ble_eq_true rfl)) dX1_ratio_4 (by decide)) (fun r_5 hr_5 => ?_)
  obtain ⟨b_6, rfl, hb_6⟩ := hr_5
  subst hb_6
  refine zt_i (y := bB (ixB (p0) 3)) (congrArg bB (rg_ix (by decide))) ?_
  refine zb_Beq (tgt := 23) hx hb dX1_ratio_7 (by decide) (fun c_7 => ?_) (fun c_7 => ?_)
  · skip
    refine lv_iconst (v := nI 0) hx hb dX1_ratio_23 (by decide) ?_
    refine zt_i (y := bB (ixB (p0) 3 && ixB (p1) 3)) (bB_0.trans (congrArg bB (by simp [c_7]))) ?_
    exact cut24 _ (lv_sub hl [0, 1, 2, 3] rfl)
  · skip
    refine lv_iload_n hx hb dX1_ratio_10 rfl (lv_at hl 2 rfl) ?_
    refine lv_iconst (v := nI 0) hx hb dX1_ratio_11 (by decide) ?_
    refine lv_iconst (v := nI 2) hx hb dX1_ratio_12 (by decide) ?_
    refine vp_callSi (W.runS (As := [.int (p1), .int (nI (0)), .int (nI (2))]) (rest := [.ref (ad 0)]) ⟨hx, hb, hml, hown, hts⟩ (c1_isIn l (p1) (nI (0)) (nI (2))) (va_cwS 3 hts gX1_ratio_X1_isIn rfl rfl rfl (by decide +kernel) (by decide)) psN rfl rfl hl.1 rfl (lv_room (Nat.le_of_ble_eq_true rfl)) dX1_ratio_13 (by decide)) (fun r_8 hr_8 => ?_)
    obtain ⟨b_9, rfl, hb_9⟩ := hr_8
    subst hb_9
    refine zt_i (y := bB (ixB (p1) 3)) (congrArg bB (rg_ix (by decide))) ?_
    refine zb_Beq (tgt := 23) hx hb dX1_ratio_16 (by decide) (fun c_10 => ?_) (fun c_10 => ?_)
    · skip
      refine lv_iconst (v := nI 0) hx hb dX1_ratio_23 (by decide) ?_
      refine zt_i (y := bB (ixB (p0) 3 && ixB (p1) 3)) (bB_0.trans (congrArg bB (by simp [c_7, c_10]))) ?_
      exact cut24 _ (lv_sub hl [0, 1, 2, 3] rfl)
    · skip
      refine lv_iconst (v := nI 1) hx hb dX1_ratio_19 (by decide) ?_
      refine lv_goto (tgt := 24) hx hb dX1_ratio_20 (by decide) ?_
      refine zt_i (y := bB (ixB (p0) 3 && ixB (p1) 3)) (bB_1.trans (congrArg bB (by simp [c_7, c_10]))) ?_
      exact cut24 _ (lv_sub hl [0, 1, 2, 3] rfl)
set_option maxHeartbeats 4000000 in
set_option maxRecDepth 100000 in
/-- trade -/
theorem r0_trade (l : Launch) {D : va_G} {ad : Nat → Nat} {cI : ClassId} {M : Mdl} {th : Int32} {sz : Nat} (hI : Inv M) (hnd : ndz 9 ad)  (p0 p1 p2 : Int32) : Met l yX1_trade wsX1_trade (rmP 3) (va_Pc [.ref (ad 0), .int (p0), .int (p1), .int (p2)] (KP1S D ad cI M th sz)) (va_Qi (fun r_ (u_ : Unit) => ((ixB (p0) (M 0 0) && ixB (p1) (M 0 0)) && (decide (p0 ≠ p1) && rgB (p2) (nI (1)) (nI (5000))) && ((ixB (p0) (M 0 0) && ixB (p1) (M 0 0)) && (decide (p0 ≠ p1) && rgB (p2) (nI (1)) (nI (5000))) && cn M (clN p0) (clN p1) (clN p2))) = true → r_ = nI (gt M (clN p0) (clN p1) (clN p2))) (fun (u_ : Unit) t_ => ∃ M9 : Mdl, KP1 D ad cI M9 (nI (cd3 (ixB (p0) (M 0 0) && ixB (p1) (M 0 0)) (decide (p0 ≠ p1) && rgB (p2) (nI (1)) (nI (5000))) ((ixB (p0) (M 0 0) && ixB (p1) (M 0 0)) && (decide (p0 ≠ p1) && rgB (p2) (nI (1)) (nI (5000))) && cn M (clN p0) (clN p1) (clN p2)))) t_ ∧ (((ixB (p0) (M 0 0) && ixB (p1) (M 0 0)) && (decide (p0 ≠ p1) && rgB (p2) (nI (1)) (nI (5000))) && ((ixB (p0) (M 0 0) && ixB (p1) (M 0 0)) && (decide (p0 ≠ p1) && rgB (p2) (nI (1)) (nI (5000))) && cn M (clN p0) (clN p1) (clN p2))) = true → M9 = nx_trade M (clN p0) (clN p1) (clN p2)) ∧ (((ixB (p0) (M 0 0) && ixB (p1) (M 0 0)) && (decide (p0 ≠ p1) && rgB (p2) (nI (1)) (nI (5000))) && ((ixB (p0) (M 0 0) && ixB (p1) (M 0 0)) && (decide (p0 ≠ p1) && rgB (p2) (nI (1)) (nI (5000))) && cn M (clN p0) (clN p1) (clN p2))) = false → M9 = M)) (azs 9 ad sz)) 0 0 (azs 9 ad sz) := by
  refine mk_Qi (S := Unit) (post := fun r_ u_ => ((ixB (p0) (M 0 0) && ixB (p1) (M 0 0)) && (decide (p0 ≠ p1) && rgB (p2) (nI (1)) (nI (5000))) && ((ixB (p0) (M 0 0) && ixB (p1) (M 0 0)) && (decide (p0 ≠ p1) && rgB (p2) (nI (1)) (nI (5000))) && cn M (clN p0) (clN p1) (clN p2))) = true → r_ = nI (gt M (clN p0) (clN p1) (clN p2))) (BQ := fun u_ t_ => ∃ M9 : Mdl, KP1 D ad cI M9 (nI (cd3 (ixB (p0) (M 0 0) && ixB (p1) (M 0 0)) (decide (p0 ≠ p1) && rgB (p2) (nI (1)) (nI (5000))) ((ixB (p0) (M 0 0) && ixB (p1) (M 0 0)) && (decide (p0 ≠ p1) && rgB (p2) (nI (1)) (nI (5000))) && cn M (clN p0) (clN p1) (clN p2)))) t_ ∧ (((ixB (p0) (M 0 0) && ixB (p1) (M 0 0)) && (decide (p0 ≠ p1) && rgB (p2) (nI (1)) (nI (5000))) && ((ixB (p0) (M 0 0) && ixB (p1) (M 0 0)) && (decide (p0 ≠ p1) && rgB (p2) (nI (1)) (nI (5000))) && cn M (clN p0) (clN p1) (clN p2))) = true → M9 = nx_trade M (clN p0) (clN p1) (clN p2)) ∧ (((ixB (p0) (M 0 0) && ixB (p1) (M 0 0)) && (decide (p0 ≠ p1) && rgB (p2) (nI (1)) (nI (5000))) && ((ixB (p0) (M 0 0) && ixB (p1) (M 0 0)) && (decide (p0 ≠ p1) && rgB (p2) (nI (1)) (nI (5000))) && cn M (clN p0) (clN p1) (clN p2))) = false → M9 = M)) (cc := cX1_trade) (maxL := 7) (by decide) rfl (Nat.le_of_ble_eq_true rfl) ?_
  intro p e s m args below meth c Q C0 B0 hret ls hl
  obtain ⟨hx, hb, hr, hml, hown, hts, hlocks⟩ := C0
  have hown : s.vm.findClass RX1 = some m.cls := hown
  obtain ⟨hsz, hK, hP⟩ := B0
  have hw0 : ∀ w ∈ wsX10, w.before args s = true := fun w h => hts w ((by decide +kernel : ∀ w ∈ wsX10, w ∈ wsX1_trade) w h)
  subst hsz
  have hAd : ∀ i, i < 9 → azs 9 ad s.heap.size (ad i) := fun i h => azs_i h
  have hS : va_S (azs 9 ad s.heap.size) s.heap s.heap [] := va_S.rf
  have b_nw := hI.nw
  have b_nv := hI.nv
  have hl : lv_has ls 7 [(0, .ref (ad 0)), (1, .int (p0)), (2, .int (p1)), (3, .int (p2))] := hl
  have cut76 : ∀ ls : Array Slot, lv_has ls 7 [(0, .ref (ad 0)), (1, .int (p0)), (2, .int (p1)), (3, .int (p2)), (4, .int (bB (ixB (p0) (M 0 0) && ixB (p1) (M 0 0)))), (5, .int (bB (decide (p0 ≠ p1) && rgB (p2) (nI (1)) (nI (5000)))))] → W p l e (rmP 3) s m args below meth c s.heap [] 0 0 Q (F0 m 76 ls [.int (bB ((ixB (p0) (M 0 0) && ixB (p1) (M 0 0)) && (decide (p0 ≠ p1) && rgB (p2) (nI (1)) (nI (5000))) && cn M (clN p0) (clN p1) (clN p2))), .int (bB (decide (p0 ≠ p1) && rgB (p2) (nI (1)) (nI (5000)))), .int (bB (ixB (p0) (M 0 0) && ixB (p1) (M 0 0))), .ref (ad 0)]) := by
    intro ls hl
    have hz9 := hS.1
    refine va_calli (va_runV (As := [.int (bB (ixB (p0) (M 0 0) && ixB (p1) (M 0 0))), .int (bB (decide (p0 ≠ p1) && rgB (p2) (nI (1)) (nI (5000)))), .int (bB ((ixB (p0) (M 0 0) && ixB (p1) (M 0 0)) && (decide (p0 ≠ p1) && rgB (p2) (nI (1)) (nI (5000))) && cn M (clN p0) (clN p1) (clN p2)))]) (rest := []) ⟨hx, hb, hml, hown, hts⟩ (c1_mayAll l (D := D) (ad := ad) (cI := cI) (M := M) (th := th) (sz := s.heap.size) hnd (ixB (p0) (M 0 0) && ixB (p1) (M 0 0)) (decide (p0 ≠ p1) && rgB (p2) (nI (1)) (nI (5000))) ((ixB (p0) (M 0 0) && ixB (p1) (M 0 0)) && (decide (p0 ≠ p1) && rgB (p2) (nI (1)) (nI (5000))) && cn M (clN p0) (clN p1) (clN p2))) (cwV 3 hts gX1_trade_X1_mayAll rfl rfl rfl (by decide +kernel) (by decide)) (pv1S hK hP) rfl rfl hl.1 rfl (lv_room (Nat.le_of_ble_eq_true rfl)) dX1_trade_76 (by decide)) hS (fun q _ h => azs_mono hz9 h) (fun q h => azs_mono hz9 h) (fun r9 u9 t9 H1 locs1 ht9 hv9 hp9 hB9 hz1 hk1 hS1 => ?_)
    obtain ⟨b9, rfl, hb9⟩ := hp9
    subst hb9
    have hP1 := hB9.2
    rw [ht9] at hP1
    clear hP hS hB9 ht9 hv9 hz1 hk1 hz9
    have hP := hP1
    have hS := hS1
    clear hP1 hS1
    generalize H1 = H at hP hS ⊢
    generalize locs1 = locs at hS ⊢
    refine zb_Bne (tgt := 84) hx hb dX1_trade_79 (by decide) (fun c_1 => ?_) (fun c_1 => ?_)
    · skip
      have h_ne := of_decide_eq_true (Bool.and_eq_true_iff.mp (Bool.and_eq_true_iff.mp (Bool.and_eq_true_iff.mp c_1).1).2).1
      obtain ⟨f, h_f, rfl⟩ := ixB_of (by omega) (Bool.and_eq_true_iff.mp (Bool.and_eq_true_iff.mp (Bool.and_eq_true_iff.mp c_1).1).1).1
      have cl_f : clN (nI f) = f := clN_nI (by omega)
      obtain ⟨t, h_t, rfl⟩ := ixB_of (by omega) (Bool.and_eq_true_iff.mp (Bool.and_eq_true_iff.mp (Bool.and_eq_true_iff.mp c_1).1).1).2
      have cl_t : clN (nI t) = t := clN_nI (by omega)
      obtain ⟨u, gu, h_u, rfl⟩ := rgB_of (by decide) (Bool.and_eq_true_iff.mp (Bool.and_eq_true_iff.mp (Bool.and_eq_true_iff.mp c_1).1).2).2 (by decide)
      have cl_u : clN (nI u) = u := clN_nI (by omega)
      have h_ft : f ≠ t := fun q => h_ne (by rw [q])
      have h_cn1 : cn M f t u = true := by have q9 := (Bool.and_eq_true_iff.mp (Bool.and_eq_true_iff.mp c_1).2).2; rw [cl_f, cl_t, cl_u] at q9; exact q9
      have h_cn := cn_s h_cn1
      refine lv_aload_n hx hb dX1_trade_84 rfl (lv_at hl 0 rfl) ?_
      refine lv_iload_n hx hb dX1_trade_85 rfl (lv_at hl 1 rfl) ?_
      refine lv_iload_n hx hb dX1_trade_86 rfl (lv_at hl 2 rfl) ?_
      refine lv_iload_n hx hb dX1_trade_87 rfl (lv_at hl 3 rfl) ?_
      refine vp_callSi (W.runV (As := [.int (nI (f)), .int (nI (t)), .int (nI (u))]) (rest := []) ⟨hx, hb, hml, hown, hts⟩ (c1_got l hI (f := f) (t := t) (u := u) (by omega) (by omega) (by omega)) (cwV 3 hts gX1_trade_X1_got rfl rfl rfl (by decide +kernel) (by decide)) (pv1 hK hP) rfl rfl hl.1 rfl (lv_room (Nat.le_of_ble_eq_true rfl)) dX1_trade_88 (by decide)) (fun r_2 hr_2 => ?_)
      subst hr_2
      have f_3 := (gt_le hI (f) (t) (u := u) (by omega)).2
      refine lv_istore (lv' := [(6, .int (nI (gt M (f) (t) (u)))), (0, .ref (ad 0)), (1, .int (nI (f))), (2, .int (nI (t))), (3, .int (nI (u))), (4, .int (bB (ixB ((nI f)) (M 0 0) && ixB ((nI t)) (M 0 0)))), (5, .int (bB (decide ((nI f) ≠ (nI t)) && rgB ((nI u)) (nI (1)) (nI (5000)))))]) hx hb dX1_trade_91 hl (by decide) rfl (fun ls hl => ?_)
      refine lv_aload_n hx hb dX1_trade_93 rfl (lv_at hl 1 rfl) ?_
      refine zg1 hx hb hw0 hown hK hP (by decide) rfl 3 (by decide) (hts (.fieldLink RX1 16 "WellFieldModel" "licence" "[I") (by decide +kernel)) rfl rfl dX1_trade_94 ?_
      refine lv_iload_n hx hb dX1_trade_97 rfl (lv_at hl 2 rfl) ?_
      refine lv_dup2_11 hx hb dX1_trade_98 rfl rfl ?_
      refine zi_ld hx hb hK hP 3 (by decide) 0 rfl rfl (by decide) (i := f) (by omega) (v := nI (M 3 (f))) rfl dX1_trade_99 ?_
      have f_4 := hI.li (f)
      refine lv_iload_n hx hb dX1_trade_100 rfl (lv_at hl 4 rfl) ?_
      refine zr_isub hx hb (by omega) dX1_trade_101 ?_
      refine zi_st hx hb hK hP hnd hAd hS 3 (by decide) 0 rfl rfl (by decide) (i := f) (by omega) (wmE ad cI (mup (M) 3 (f) ((M 3 (f)) - (u))) (nI (cd3 (ixB ((nI f)) (M 0 0) && ixB ((nI t)) (M 0 0)) (decide ((nI f) ≠ (nI t)) && rgB ((nI u)) (nI (1)) (nI (5000))) ((ixB ((nI f)) (M 0 0) && ixB ((nI t)) (M 0 0)) && (decide ((nI f) ≠ (nI t)) && rgB ((nI u)) (nI (1)) (nI (5000))) && cn M (clN (nI f)) (clN (nI t)) (clN (nI u)))))) wmS_li dX1_trade_102 (fun H locs hP hS => ?_)
      refine lv_aload_n hx hb dX1_trade_103 rfl (lv_at hl 1 rfl) ?_
      refine zg1 hx hb hw0 hown hK hP (by decide) rfl 3 (by decide) (hts (.fieldLink RX1 16 "WellFieldModel" "licence" "[I") (by decide +kernel)) rfl rfl dX1_trade_104 ?_
      refine lv_iload_n hx hb dX1_trade_107 rfl (lv_at hl 3 rfl) ?_
      refine lv_dup2_11 hx hb dX1_trade_108 rfl rfl ?_
      refine zi_ld hx hb hK hP 3 (by decide) 0 rfl rfl (by decide) (i := t) (by omega) (v := nI ((mup (M) 3 (f) ((M 3 (f)) - (u))) 3 (t))) rfl dX1_trade_109 ?_
      refine zt_i (y := nI (M 3 t)) (congrArg nI (mup_i (Ne.symm h_ft))) ?_
      refine lv_iload hx hb dX1_trade_110 (lv_at hl 0 rfl) ?_
      refine zr_iadd hx hb dX1_trade_112 ?_
      refine zi_st hx hb hK hP hnd hAd hS 3 (by decide) 0 rfl rfl (by decide) (i := t) (by omega) (wmE ad cI (mup (mup (M) 3 (f) ((M 3 (f)) - (u))) 3 (t) ((M 3 t) + (gt M (f) (t) (u)))) (nI (cd3 (ixB ((nI f)) (M 0 0) && ixB ((nI t)) (M 0 0)) (decide ((nI f) ≠ (nI t)) && rgB ((nI u)) (nI (1)) (nI (5000))) ((ixB ((nI f)) (M 0 0) && ixB ((nI t)) (M 0 0)) && (decide ((nI f) ≠ (nI t)) && rgB ((nI u)) (nI (1)) (nI (5000))) && cn M (clN (nI f)) (clN (nI t)) (clN (nI u)))))) wmS_li dX1_trade_113 (fun H locs hP hS => ?_)
      refine lv_iload hx hb dX1_trade_114 (lv_at hl 0 rfl) ?_
      exact hret (u := ()) (fun _ => by rw [cl_f, cl_t, cl_u]) hS (fun t ht hA => ⟨_, ⟨va_K.moved hA hK, by rw [ht]; exact hP⟩, fun _ => by rw [cl_f, cl_t, cl_u]; rfl, (fun h => absurd h (by rw [c_1]; decide))⟩) dX1_trade_116
    · skip
      refine lv_iconst (v := nI 0) hx hb dX1_trade_82 (by decide) ?_
      exact hret (u := ()) (fun h => absurd h (by rw [c_1]; decide)) hS (fun t ht hA => ⟨M, ⟨va_K.moved hA hK, by rw [ht]; exact hP⟩, (fun h => absurd h (by rw [c_1]; decide)), fun _ => rfl⟩) dX1_trade_83
  have cut44 : ∀ ls : Array Slot, lv_has ls 7 [(0, .ref (ad 0)), (1, .int (p0)), (2, .int (p1)), (3, .int (p2)), (4, .int (bB (ixB (p0) (M 0 0) && ixB (p1) (M 0 0))))] → W p l e (rmP 3) s m args below meth c s.heap [] 0 0 Q (F0 m 44 ls [.int (bB (decide (p0 ≠ p1) && rgB (p2) (nI (1)) (nI (5000))))]) := by
    intro ls hl
    refine lv_istore (lv' := [(5, .int (bB (decide (p0 ≠ p1) && rgB (p2) (nI (1)) (nI (5000))))), (0, .ref (ad 0)), (1, .int (p0)), (2, .int (p1)), (3, .int (p2)), (4, .int (bB (ixB (p0) (M 0 0) && ixB (p1) (M 0 0))))]) hx hb dX1_trade_44 hl (by decide) rfl (fun ls hl => ?_)
    refine lv_aload_n hx hb dX1_trade_46 rfl (lv_at hl 1 rfl) ?_
    refine lv_iload hx hb dX1_trade_47 (lv_at hl 5 rfl) ?_
    refine lv_iload hx hb dX1_trade_49 (lv_at hl 0 rfl) ?_
    refine lv_iload hx hb dX1_trade_51 (lv_at hl 5 rfl) ?_
    refine zb_Beq (tgt := 75) hx hb dX1_trade_53 (by decide) (fun c_5 => ?_) (fun c_5 => ?_)
    · skip
      refine lv_iconst (v := nI 0) hx hb dX1_trade_75 (by decide) ?_
      refine zt_i (y := bB ((ixB (p0) (M 0 0) && ixB (p1) (M 0 0)) && (decide (p0 ≠ p1) && rgB (p2) (nI (1)) (nI (5000))) && cn M (clN p0) (clN p1) (clN p2))) (bB_0.trans (congrArg bB (by rw [c_5]; simp))) ?_
      exact cut76 _ (lv_sub hl [1, 2, 3, 4, 5, 0] rfl)
    · skip
      refine lv_iload hx hb dX1_trade_56 (lv_at hl 0 rfl) ?_
      refine zb_Beq (tgt := 75) hx hb dX1_trade_58 (by decide) (fun c_6 => ?_) (fun c_6 => ?_)
      · skip
        refine lv_iconst (v := nI 0) hx hb dX1_trade_75 (by decide) ?_
        refine zt_i (y := bB ((ixB (p0) (M 0 0) && ixB (p1) (M 0 0)) && (decide (p0 ≠ p1) && rgB (p2) (nI (1)) (nI (5000))) && cn M (clN p0) (clN p1) (clN p2))) (bB_0.trans (congrArg bB (by rw [c_6]; simp))) ?_
        exact cut76 _ (lv_sub hl [1, 2, 3, 4, 5, 0] rfl)
      · skip
        have g_are := c_5
        have g_fine := c_6
        obtain ⟨f, h_f, rfl⟩ := ixB_of (by omega) (Bool.and_eq_true_iff.mp g_are).1
        have cl_f : clN (nI f) = f := clN_nI (by omega)
        obtain ⟨t, h_t, rfl⟩ := ixB_of (by omega) (Bool.and_eq_true_iff.mp g_are).2
        have cl_t : clN (nI t) = t := clN_nI (by omega)
        obtain ⟨u, gu, h_u, rfl⟩ := rgB_of (by decide) (Bool.and_eq_true_iff.mp g_fine).2 (by decide)
        have cl_u : clN (nI u) = u := clN_nI (by omega)
        refine lv_aload_n hx hb dX1_trade_61 rfl (lv_at hl 1 rfl) ?_
        refine lv_iload_n hx hb dX1_trade_62 rfl (lv_at hl 2 rfl) ?_
        refine lv_iload_n hx hb dX1_trade_63 rfl (lv_at hl 3 rfl) ?_
        refine lv_iload_n hx hb dX1_trade_64 rfl (lv_at hl 4 rfl) ?_
        refine vp_callSi (W.runV (As := [.int (nI (f)), .int (nI (t)), .int (nI (u))]) (rest := [.int (bB (decide ((nI f) ≠ (nI t)) && rgB ((nI u)) (nI (1)) (nI (5000)))), .int (bB (ixB ((nI f)) (M 0 0) && ixB ((nI t)) (M 0 0))), .ref (ad 0)]) ⟨hx, hb, hml, hown, hts⟩ (c1_can l hI (f := f) (t := t) (u := u) (by omega) (by omega) (by omega)) (cwV 3 hts gX1_trade_X1_can rfl rfl rfl (by decide +kernel) (by decide)) (pv1 hK hP) rfl rfl hl.1 rfl (lv_room (Nat.le_of_ble_eq_true rfl)) dX1_trade_65 (by decide)) (fun r_7 hr_7 => ?_)
        obtain ⟨b_8, rfl, hb_8⟩ := hr_7
        subst hb_8
        refine zb_Beq (tgt := 75) hx hb dX1_trade_68 (by decide) (fun c_9 => ?_) (fun c_9 => ?_)
        · skip
          refine lv_iconst (v := nI 0) hx hb dX1_trade_75 (by decide) ?_
          refine zt_i (y := bB ((ixB ((nI f)) (M 0 0) && ixB ((nI t)) (M 0 0)) && (decide ((nI f) ≠ (nI t)) && rgB ((nI u)) (nI (1)) (nI (5000))) && cn M (clN (nI f)) (clN (nI t)) (clN (nI u)))) (bB_0.trans (congrArg bB (by rw [g_are, g_fine, cl_f, cl_t, cl_u, c_9]; rfl))) ?_
          exact cut76 _ (lv_sub hl [1, 2, 3, 4, 5, 0] rfl)
        · skip
          refine lv_iconst (v := nI 1) hx hb dX1_trade_71 (by decide) ?_
          refine lv_goto (tgt := 76) hx hb dX1_trade_72 (by decide) ?_
          refine zt_i (y := bB ((ixB ((nI f)) (M 0 0) && ixB ((nI t)) (M 0 0)) && (decide ((nI f) ≠ (nI t)) && rgB ((nI u)) (nI (1)) (nI (5000))) && cn M (clN (nI f)) (clN (nI t)) (clN (nI u)))) (bB_1.trans (congrArg bB (by rw [g_are, g_fine, cl_f, cl_t, cl_u, c_9]; rfl))) ?_
          exact cut76 _ (lv_sub hl [1, 2, 3, 4, 5, 0] rfl)
  have cut21 : ∀ ls : Array Slot, lv_has ls 7 [(0, .ref (ad 0)), (1, .int (p0)), (2, .int (p1)), (3, .int (p2))] → W p l e (rmP 3) s m args below meth c s.heap [] 0 0 Q (F0 m 21 ls [.int (bB (ixB (p0) (M 0 0) && ixB (p1) (M 0 0)))]) := by
    intro ls hl
    refine lv_istore (lv' := [(4, .int (bB (ixB (p0) (M 0 0) && ixB (p1) (M 0 0)))), (0, .ref (ad 0)), (1, .int (p0)), (2, .int (p1)), (3, .int (p2))]) hx hb dX1_trade_21 hl (by decide) rfl (fun ls hl => ?_)
    refine lv_iload_n hx hb dX1_trade_23 rfl (lv_at hl 2 rfl) ?_
    refine lv_iload_n hx hb dX1_trade_24 rfl (lv_at hl 3 rfl) ?_
    refine lv_icmp_eq (tgt := 43) hx hb dX1_trade_25 (by decide) (fun c_10 => ?_) (fun c_10 => ?_)
    · skip
      refine lv_iconst (v := nI 0) hx hb dX1_trade_43 (by decide) ?_
      refine zt_i (y := bB (decide (p0 ≠ p1) && rgB (p2) (nI (1)) (nI (5000)))) (bB_0.trans (congrArg bB (by simp [c_10]))) ?_
      exact cut44 _ (lv_sub hl [1, 2, 3, 4, 0] rfl)
    · skip
      refine lv_iload_n hx hb dX1_trade_28 rfl (lv_at hl 4 rfl) ?_
      refine lv_iconst (v := nI 1) hx hb dX1_trade_29 (by decide) ?_
      refine lv_sipush (v := nI 5000) hx hb dX1_trade_30 (by decide) ?_
      refine vp_callSi (W.runS (As := [.int (p2), .int (nI (1)), .int (nI (5000))]) (rest := []) ⟨hx, hb, hml, hown, hts⟩ (c1_isIn l (p2) (nI (1)) (nI (5000))) (va_cwS 3 hts gX1_trade_X1_isIn rfl rfl rfl (by decide +kernel) (by decide)) psN rfl rfl hl.1 rfl (lv_room (Nat.le_of_ble_eq_true rfl)) dX1_trade_33 (by decide)) (fun r_11 hr_11 => ?_)
      obtain ⟨b_12, rfl, hb_12⟩ := hr_11
      subst hb_12
      refine zb_Beq (tgt := 43) hx hb dX1_trade_36 (by decide) (fun c_13 => ?_) (fun c_13 => ?_)
      · skip
        refine lv_iconst (v := nI 0) hx hb dX1_trade_43 (by decide) ?_
        refine zt_i (y := bB (decide (p0 ≠ p1) && rgB (p2) (nI (1)) (nI (5000)))) (bB_0.trans (congrArg bB (by simp [c_10, c_13]))) ?_
        exact cut44 _ (lv_sub hl [1, 2, 3, 4, 0] rfl)
      · skip
        refine lv_iconst (v := nI 1) hx hb dX1_trade_39 (by decide) ?_
        refine lv_goto (tgt := 44) hx hb dX1_trade_40 (by decide) ?_
        refine zt_i (y := bB (decide (p0 ≠ p1) && rgB (p2) (nI (1)) (nI (5000)))) (bB_1.trans (congrArg bB (by simp [c_10, c_13]))) ?_
        exact cut44 _ (lv_sub hl [1, 2, 3, 4, 0] rfl)
  refine lv_aload_n hx hb dX1_trade_0 rfl (lv_at hl 0 rfl) ?_
  refine lv_iload_n hx hb dX1_trade_1 rfl (lv_at hl 1 rfl) ?_
  refine vp_callSi (W.runV (As := [.int (p0)]) (rest := []) ⟨hx, hb, hml, hown, hts⟩ (c1_isWell l hI (p0)) (cwV 1 hts gX1_trade_X1_isWell rfl rfl rfl (by decide +kernel) (by decide)) (pv1 hK hP) rfl rfl hl.1 rfl (lv_room (Nat.le_of_ble_eq_true rfl)) dX1_trade_2 (by decide)) (fun r_14 hr_14 => ?_)
  obtain ⟨b_15, rfl, hb_15⟩ := hr_14
  subst hb_15
  refine zb_Beq (tgt := 20) hx hb dX1_trade_5 (by decide) (fun c_16 => ?_) (fun c_16 => ?_)
  · skip
    refine lv_iconst (v := nI 0) hx hb dX1_trade_20 (by decide) ?_
    refine zt_i (y := bB (ixB (p0) (M 0 0) && ixB (p1) (M 0 0))) (bB_0.trans (congrArg bB (by simp [c_16]))) ?_
    exact cut21 _ (lv_sub hl [0, 1, 2, 3] rfl)
  · skip
    refine lv_aload_n hx hb dX1_trade_8 rfl (lv_at hl 0 rfl) ?_
    refine lv_iload_n hx hb dX1_trade_9 rfl (lv_at hl 2 rfl) ?_
    refine vp_callSi (W.runV (As := [.int (p1)]) (rest := []) ⟨hx, hb, hml, hown, hts⟩ (c1_isWell l hI (p1)) (cwV 1 hts gX1_trade_X1_isWell rfl rfl rfl (by decide +kernel) (by decide)) (pv1 hK hP) rfl rfl hl.1 rfl (lv_room (Nat.le_of_ble_eq_true rfl)) dX1_trade_10 (by decide)) (fun r_17 hr_17 => ?_)
    obtain ⟨b_18, rfl, hb_18⟩ := hr_17
    subst hb_18
    refine zb_Beq (tgt := 20) hx hb dX1_trade_13 (by decide) (fun c_19 => ?_) (fun c_19 => ?_)
    · skip
      refine lv_iconst (v := nI 0) hx hb dX1_trade_20 (by decide) ?_
      refine zt_i (y := bB (ixB (p0) (M 0 0) && ixB (p1) (M 0 0))) (bB_0.trans (congrArg bB (by simp [c_16, c_19]))) ?_
      exact cut21 _ (lv_sub hl [0, 1, 2, 3] rfl)
    · skip
      refine lv_iconst (v := nI 1) hx hb dX1_trade_16 (by decide) ?_
      refine lv_goto (tgt := 21) hx hb dX1_trade_17 (by decide) ?_
      refine zt_i (y := bB (ixB (p0) (M 0 0) && ixB (p1) (M 0 0))) (bB_1.trans (congrArg bB (by simp [c_16, c_19]))) ?_
      exact cut21 _ (lv_sub hl [0, 1, 2, 3] rfl)
set_option maxHeartbeats 4000000 in
set_option maxRecDepth 100000 in
/-- mostTraded -/
theorem r0_mostTraded (l : Launch) {D : va_G} {ad : Nat → Nat} {cI : ClassId} {M : Mdl} {th : Int32} {sz : Nat} (hI : Inv M) (hnd : ndz 9 ad)  (p0 p1 : Int32) : Met l yX1_mostTraded wsX1_mostTraded (rmP 3) (va_Pc [.ref (ad 0), .int (p0), .int (p1)] (KP1S D ad cI M th sz)) (va_Qi (fun r_ (u_ : Unit) => ((ixB (p0) (M 0 0) && ixB (p1) (M 0 0)) && (decide (p0 ≠ p1))) = true → r_ = nI (mtr M (clN p0) (clN p1) 5000)) (fun (u_ : Unit) t_ => KP1 D ad cI M (nI (cd2 (ixB (p0) (M 0 0) && ixB (p1) (M 0 0)) (decide (p0 ≠ p1)))) t_) (azs 9 ad sz)) 0 0 (azs 9 ad sz) := by
  refine mk_Qi (S := Unit) (post := fun r_ u_ => ((ixB (p0) (M 0 0) && ixB (p1) (M 0 0)) && (decide (p0 ≠ p1))) = true → r_ = nI (mtr M (clN p0) (clN p1) 5000)) (BQ := fun u_ t_ => KP1 D ad cI M (nI (cd2 (ixB (p0) (M 0 0) && ixB (p1) (M 0 0)) (decide (p0 ≠ p1)))) t_) (cc := cX1_mostTraded) (maxL := 4) (by decide) rfl (Nat.le_of_ble_eq_true rfl) ?_
  intro p e s m args below meth c Q C0 B0 hret ls hl
  obtain ⟨hx, hb, hr, hml, hown, hts, hlocks⟩ := C0
  have hown : s.vm.findClass RX1 = some m.cls := hown
  obtain ⟨hsz, hK, hP⟩ := B0
  have hw0 : ∀ w ∈ wsX10, w.before args s = true := fun w h => hts w ((by decide +kernel : ∀ w ∈ wsX10, w ∈ wsX1_mostTraded) w h)
  subst hsz
  have hAd : ∀ i, i < 9 → azs 9 ad s.heap.size (ad i) := fun i h => azs_i h
  have hS : va_S (azs 9 ad s.heap.size) s.heap s.heap [] := va_S.rf
  have b_nw := hI.nw
  have b_nv := hI.nv
  have hl : lv_has ls 4 [(0, .ref (ad 0)), (1, .int (p0)), (2, .int (p1))] := hl
  have cut32 : ∀ ls : Array Slot, lv_has ls 4 [(0, .ref (ad 0)), (1, .int (p0)), (2, .int (p1))] → W p l e (rmP 3) s m args below meth c s.heap [] 0 0 Q (F0 m 32 ls [.int (bB (decide (p0 ≠ p1))), .int (bB (ixB (p0) (M 0 0) && ixB (p1) (M 0 0))), .ref (ad 0)]) := by
    intro ls hl
    have hz9 := hS.1
    refine va_calli (va_runV (As := [.int (bB (ixB (p0) (M 0 0) && ixB (p1) (M 0 0))), .int (bB (decide (p0 ≠ p1)))]) (rest := []) ⟨hx, hb, hml, hown, hts⟩ (c1_mayBoth l (D := D) (ad := ad) (cI := cI) (M := M) (th := th) (sz := s.heap.size) hnd (ixB (p0) (M 0 0) && ixB (p1) (M 0 0)) (decide (p0 ≠ p1))) (cwV 2 hts gX1_mostTraded_X1_mayBoth rfl rfl rfl (by decide +kernel) (by decide)) (pv1S hK hP) rfl rfl hl.1 rfl (lv_room (Nat.le_of_ble_eq_true rfl)) dX1_mostTraded_32 (by decide)) hS (fun q _ h => azs_mono hz9 h) (fun q h => azs_mono hz9 h) (fun r9 u9 t9 H1 locs1 ht9 hv9 hp9 hB9 hz1 hk1 hS1 => ?_)
    obtain ⟨b9, rfl, hb9⟩ := hp9
    subst hb9
    have hP1 := hB9.2
    rw [ht9] at hP1
    clear hP hS hB9 ht9 hv9 hz1 hk1 hz9
    have hP := hP1
    have hS := hS1
    clear hP1 hS1
    generalize H1 = H at hP hS ⊢
    generalize locs1 = locs at hS ⊢
    refine zb_Bne (tgt := 40) hx hb dX1_mostTraded_35 (by decide) (fun c_1 => ?_) (fun c_1 => ?_)
    · skip
      obtain ⟨f, h_f, rfl⟩ := ixB_of (by omega) (Bool.and_eq_true_iff.mp (Bool.and_eq_true_iff.mp c_1).1).1
      have cl_f : clN (nI f) = f := clN_nI (by omega)
      obtain ⟨t, h_t, rfl⟩ := ixB_of (by omega) (Bool.and_eq_true_iff.mp (Bool.and_eq_true_iff.mp c_1).1).2
      have cl_t : clN (nI t) = t := clN_nI (by omega)
      refine lv_sipush (v := nI 5000) hx hb dX1_mostTraded_40 (by decide) ?_
      refine lv_istore_n (lv' := [(3, .int (nI (5000))), (0, .ref (ad 0)), (1, .int (nI (f))), (2, .int (nI (t)))]) hx hb dX1_mostTraded_43 rfl hl (by decide) rfl (fun ls hl => ?_)
      have lp44 : ∀ (n u : Nat), u < n → u ≤ 5000 → mtr M f t u = mtr M f t 5000 → ∀ ls : Array Slot, lv_has ls 4 [(0, .ref (ad 0)), (1, .int (nI (f))), (2, .int (nI (t))), (3, .int (nI (u)))] → W p l e (rmP 3) s m args below meth c H locs 0 0 Q (F0 m 44 ls []) := by
        intro n
        induction n with
        | zero => intro u q1; omega
        | succ n ih44 =>
          intro u q1_44 q2_44 hm ls hl
          refine lv_iload_n hx hb dX1_mostTraded_44 rfl (lv_at hl 3 rfl) ?_
          refine zb_0le (tgt := 64) hx hb (by omega) dX1_mostTraded_45 (by decide) (fun c_2 => ?_) (fun c_2 => ?_)
          · skip
            have hm3 : u = mtr M f t 5000 := by rw [← hm, c_2]; rfl
            refine lv_iload_n hx hb dX1_mostTraded_64 rfl (lv_at hl 3 rfl) ?_
            exact hret (u := ()) (fun _ => by rw [cl_f, cl_t, ← hm3]) hS (fun t ht hA => ⟨va_K.moved hA hK, by rw [ht]; exact hP⟩) dX1_mostTraded_65
          · skip
            obtain ⟨u2, rfl⟩ : ∃ u2, u = u2 + 1 := ⟨u - 1, by omega⟩
            refine lv_aload_n hx hb dX1_mostTraded_48 rfl (lv_at hl 0 rfl) ?_
            refine lv_iload_n hx hb dX1_mostTraded_49 rfl (lv_at hl 1 rfl) ?_
            refine lv_iload_n hx hb dX1_mostTraded_50 rfl (lv_at hl 2 rfl) ?_
            refine lv_iload_n hx hb dX1_mostTraded_51 rfl (lv_at hl 3 rfl) ?_
            refine vp_callSi (W.runV (As := [.int (nI (f)), .int (nI (t)), .int (nI (u2 + 1))]) (rest := []) ⟨hx, hb, hml, hown, hts⟩ (c1_can l hI (f := f) (t := t) (u := u2 + 1) (by omega) (by omega) (by omega)) (cwV 3 hts gX1_mostTraded_X1_can rfl rfl rfl (by decide +kernel) (by decide)) (pv1 hK hP) rfl rfl hl.1 rfl (lv_room (Nat.le_of_ble_eq_true rfl)) dX1_mostTraded_52 (by decide)) (fun r_3 hr_3 => ?_)
            obtain ⟨b_4, rfl, hb_4⟩ := hr_3
            subst hb_4
            refine zb_Bne (tgt := 64) hx hb dX1_mostTraded_55 (by decide) (fun c_5 => ?_) (fun c_5 => ?_)
            · skip
              have hm3 : u2 + 1 = mtr M f t 5000 := by rw [← hm]; show _ = (if cn M f t (u2 + 1) = true then _ else _); rw [if_pos c_5]
              refine lv_iload_n hx hb dX1_mostTraded_64 rfl (lv_at hl 3 rfl) ?_
              exact hret (u := ()) (fun _ => by rw [cl_f, cl_t, ← hm3]) hS (fun t ht hA => ⟨va_K.moved hA hK, by rw [ht]; exact hP⟩) dX1_mostTraded_65
            · skip
              have hm2 : mtr M f t u2 = mtr M f t 5000 := by rw [← hm]; show _ = (if cn M f t (u2 + 1) = true then _ else _); rw [if_neg (by rw [c_5]; decide)]
              refine lv_iinc (v := nI (u2)) (lv' := [(3, .int (nI (u2))), (0, .ref (ad 0)), (1, .int (nI (f))), (2, .int (nI (t)))]) hx hb dX1_mostTraded_58 hl (k := 3) rfl (zn_dec (u2)) (by decide) rfl (fun ls hl => ?_)
              refine lv_goto (tgt := 44) hx hb dX1_mostTraded_61 (by decide) ?_
              exact ih44 u2 (by omega) (by omega) hm2 _ (lv_sub hl [1, 2, 3, 0] rfl)
      exact lp44 5001 5000 (by omega) (by omega) rfl _ (lv_sub hl [1, 2, 3, 0] rfl)
    · skip
      refine lv_iconst (v := nI 0) hx hb dX1_mostTraded_38 (by decide) ?_
      exact hret (u := ()) (fun h => absurd h (by rw [c_1]; decide)) hS (fun t ht hA => ⟨va_K.moved hA hK, by rw [ht]; exact hP⟩) dX1_mostTraded_39
  have cut22 : ∀ ls : Array Slot, lv_has ls 4 [(0, .ref (ad 0)), (1, .int (p0)), (2, .int (p1))] → W p l e (rmP 3) s m args below meth c s.heap [] 0 0 Q (F0 m 22 ls [.int (bB (ixB (p0) (M 0 0) && ixB (p1) (M 0 0))), .ref (ad 0)]) := by
    intro ls hl
    refine lv_iload_n hx hb dX1_mostTraded_22 rfl (lv_at hl 1 rfl) ?_
    refine lv_iload_n hx hb dX1_mostTraded_23 rfl (lv_at hl 2 rfl) ?_
    refine lv_icmp_eq (tgt := 31) hx hb dX1_mostTraded_24 (by decide) (fun c_6 => ?_) (fun c_6 => ?_)
    · skip
      refine lv_iconst (v := nI 0) hx hb dX1_mostTraded_31 (by decide) ?_
      refine zt_i (y := bB (decide (p0 ≠ p1))) (bB_0.trans (congrArg bB (by simp [c_6]))) ?_
      exact cut32 _ (lv_sub hl [0, 1, 2] rfl)
    · skip
      refine lv_iconst (v := nI 1) hx hb dX1_mostTraded_27 (by decide) ?_
      refine lv_goto (tgt := 32) hx hb dX1_mostTraded_28 (by decide) ?_
      refine zt_i (y := bB (decide (p0 ≠ p1))) (bB_1.trans (congrArg bB (by simp [c_6]))) ?_
      exact cut32 _ (lv_sub hl [0, 1, 2] rfl)
  refine lv_aload_n hx hb dX1_mostTraded_0 rfl (lv_at hl 0 rfl) ?_
  refine lv_aload_n hx hb dX1_mostTraded_1 rfl (lv_at hl 0 rfl) ?_
  refine lv_iload_n hx hb dX1_mostTraded_2 rfl (lv_at hl 1 rfl) ?_
  refine vp_callSi (W.runV (As := [.int (p0)]) (rest := [.ref (ad 0)]) ⟨hx, hb, hml, hown, hts⟩ (c1_isWell l hI (p0)) (cwV 1 hts gX1_mostTraded_X1_isWell rfl rfl rfl (by decide +kernel) (by decide)) (pv1 hK hP) rfl rfl hl.1 rfl (lv_room (Nat.le_of_ble_eq_true rfl)) dX1_mostTraded_3 (by decide)) (fun r_7 hr_7 => ?_)
  obtain ⟨b_8, rfl, hb_8⟩ := hr_7
  subst hb_8
  refine zb_Beq (tgt := 21) hx hb dX1_mostTraded_6 (by decide) (fun c_9 => ?_) (fun c_9 => ?_)
  · skip
    refine lv_iconst (v := nI 0) hx hb dX1_mostTraded_21 (by decide) ?_
    refine zt_i (y := bB (ixB (p0) (M 0 0) && ixB (p1) (M 0 0))) (bB_0.trans (congrArg bB (by simp [c_9]))) ?_
    exact cut22 _ (lv_sub hl [0, 1, 2] rfl)
  · skip
    refine lv_aload_n hx hb dX1_mostTraded_9 rfl (lv_at hl 0 rfl) ?_
    refine lv_iload_n hx hb dX1_mostTraded_10 rfl (lv_at hl 2 rfl) ?_
    refine vp_callSi (W.runV (As := [.int (p1)]) (rest := [.ref (ad 0)]) ⟨hx, hb, hml, hown, hts⟩ (c1_isWell l hI (p1)) (cwV 1 hts gX1_mostTraded_X1_isWell rfl rfl rfl (by decide +kernel) (by decide)) (pv1 hK hP) rfl rfl hl.1 rfl (lv_room (Nat.le_of_ble_eq_true rfl)) dX1_mostTraded_11 (by decide)) (fun r_10 hr_10 => ?_)
    obtain ⟨b_11, rfl, hb_11⟩ := hr_10
    subst hb_11
    refine zb_Beq (tgt := 21) hx hb dX1_mostTraded_14 (by decide) (fun c_12 => ?_) (fun c_12 => ?_)
    · skip
      refine lv_iconst (v := nI 0) hx hb dX1_mostTraded_21 (by decide) ?_
      refine zt_i (y := bB (ixB (p0) (M 0 0) && ixB (p1) (M 0 0))) (bB_0.trans (congrArg bB (by simp [c_9, c_12]))) ?_
      exact cut22 _ (lv_sub hl [0, 1, 2] rfl)
    · skip
      refine lv_iconst (v := nI 1) hx hb dX1_mostTraded_17 (by decide) ?_
      refine lv_goto (tgt := 22) hx hb dX1_mostTraded_18 (by decide) ?_
      refine zt_i (y := bB (ixB (p0) (M 0 0) && ixB (p1) (M 0 0))) (bB_1.trans (congrArg bB (by simp [c_9, c_12]))) ?_
      exact cut22 _ (lv_sub hl [0, 1, 2] rfl)
