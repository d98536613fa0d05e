set_option maxHeartbeats 4000000 in
set_option maxRecDepth 100000 in
/-- pumped -/
theorem r0_pumped (l : Launch) {D : va_G} {ad : Nat → Nat} {cI : ClassId} {M : Mdl} {th : Int32} {sz : Nat} (hI : Inv M) (hnd : ndz 9 ad)  (p0 p1 : Int32) : Met l yX1_pumped wsX1_pumped (rmP 3) (va_Pc [.ref (ad 0), .int (p0), .int (p1)] (KP1S D ad cI M th sz)) (va_Qi (fun r_ (u_ : Unit) => (ixB (p0) (M 0 0) && ixB (p1) 3) = true → r_ = nI (yr M (clN p0) (clN p1))) (fun (u_ : Unit) t_ => KP1 D ad cI M (nI (cd1 (ixB (p0) (M 0 0) && ixB (p1) 3))) t_) (azs 9 ad sz)) 0 0 (azs 9 ad sz) := by
  refine mk_Qi (S := Unit) (post := fun r_ u_ => (ixB (p0) (M 0 0) && ixB (p1) 3) = true → r_ = nI (yr M (clN p0) (clN p1))) (BQ := fun u_ t_ => KP1 D ad cI M (nI (cd1 (ixB (p0) (M 0 0) && ixB (p1) 3))) t_) (cc := cX1_pumped) (maxL := 3) (by decide) rfl (Nat.le_of_ble_eq_true rfl) ?_
  intro p e s m args below meth c Q C0 B0 hret ls hl
  obtain ⟨hx, hb, hr, hml, hown, hts, hlocks⟩ := C0
  have hown : s.vm.findClass RX1 = some m.cls := hown
  obtain ⟨hsz, hK, hP⟩ := B0
  have hw0 : ∀ w ∈ wsX10, w.before args s = true := fun w h => hts w ((by decide +kernel : ∀ w ∈ wsX10, w ∈ wsX1_pumped) w h)
  subst hsz
  have hAd : ∀ i, i < 9 → azs 9 ad s.heap.size (ad i) := fun i h => azs_i h
  have hS : va_S (azs 9 ad s.heap.size) s.heap s.heap [] := va_S.rf
  have b_nw := hI.nw
  have b_nv := hI.nv
  have hl : lv_has ls 3 [(0, .ref (ad 0)), (1, .int (p0)), (2, .int (p1))] := hl
  have cut21 : ∀ ls : Array Slot, lv_has ls 3 [(0, .ref (ad 0)), (1, .int (p0)), (2, .int (p1))] → W p l e (rmP 3) s m args below meth c s.heap [] 0 0 Q (F0 m 21 ls [.int (bB (ixB (p0) (M 0 0) && ixB (p1) 3)), .ref (ad 0)]) := by
    intro ls hl
    have hz9 := hS.1
    refine va_calli (va_runV (As := [.int (bB (ixB (p0) (M 0 0) && ixB (p1) 3))]) (rest := []) ⟨hx, hb, hml, hown, hts⟩ (c1_may l (D := D) (ad := ad) (cI := cI) (M := M) (th := th) (sz := s.heap.size) hnd (ixB (p0) (M 0 0) && ixB (p1) 3)) (cwV 1 hts gX1_pumped_X1_may rfl rfl rfl (by decide +kernel) (by decide)) (pv1S hK hP) rfl rfl hl.1 rfl (lv_room (Nat.le_of_ble_eq_true rfl)) dX1_pumped_21 (by decide)) hS (fun q _ h => azs_mono hz9 h) (fun q h => azs_mono hz9 h) (fun r9 u9 t9 H1 locs1 ht9 hv9 hp9 hB9 hz1 hk1 hS1 => ?_)
    obtain ⟨b9, rfl, hb9⟩ := hp9
    subst hb9
    have hP1 := hB9.2
    rw [ht9] at hP1
    clear hP hS hB9 ht9 hv9 hz1 hk1 hz9
    have hP := hP1
    have hS := hS1
    clear hP1 hS1
    generalize H1 = H at hP hS ⊢
    generalize locs1 = locs at hS ⊢
    refine zb_Beq (tgt := 36) hx hb dX1_pumped_24 (by decide) (fun c_1 => ?_) (fun c_1 => ?_)
    · skip
      refine lv_iconst (v := nI 0) hx hb dX1_pumped_36 (by decide) ?_
      exact hret (u := ()) (fun h => absurd h (by rw [c_1]; decide)) hS (fun t ht hA => ⟨va_K.moved hA hK, by rw [ht]; exact hP⟩) dX1_pumped_37
    · skip
      obtain ⟨a, h_a, rfl⟩ := ixB_of (by omega) (Bool.and_eq_true_iff.mp c_1).1
      have cl_a : clN (nI a) = a := clN_nI (by omega)
      obtain ⟨b2, h_b2, rfl⟩ := ixB_of (by omega) (Bool.and_eq_true_iff.mp c_1).2
      have cl_b2 : clN (nI b2) = b2 := clN_nI (by omega)
      refine lv_aload_n hx hb dX1_pumped_27 rfl (lv_at hl 0 rfl) ?_
      refine lv_iload_n hx hb dX1_pumped_28 rfl (lv_at hl 1 rfl) ?_
      refine lv_iload_n hx hb dX1_pumped_29 rfl (lv_at hl 2 rfl) ?_
      refine vp_callSi (W.runV (As := [.int (nI (a)), .int (nI (b2))]) (rest := []) ⟨hx, hb, hml, hown, hts⟩ (c1_pumpedIn l hI (w := a) (y := b2) (by omega) (by omega)) (cwV 2 hts gX1_pumped_X1_pumpedIn rfl rfl rfl (by decide +kernel) (by decide)) (pv1 hK hP) rfl rfl hl.1 rfl (lv_room (Nat.le_of_ble_eq_true rfl)) dX1_pumped_30 (by decide)) (fun r_2 hr_2 => ?_)
      subst hr_2
      have f_3 := yr_le hI (w := a) (by omega) (b2)
      refine lv_goto (tgt := 37) hx hb dX1_pumped_33 (by decide) ?_
      exact hret (u := ()) (fun _ => by rw [cl_a, cl_b2]) hS (fun t ht hA => ⟨va_K.moved hA hK, by rw [ht]; exact hP⟩) dX1_pumped_37
  refine lv_aload_n hx hb dX1_pumped_0 rfl (lv_at hl 0 rfl) ?_
  refine lv_aload_n hx hb dX1_pumped_1 rfl (lv_at hl 0 rfl) ?_
  refine lv_iload_n hx hb dX1_pumped_2 rfl (lv_at hl 1 rfl) ?_
  refine vp_callSi (W.runV (As := [.int (p0)]) (rest := [.ref (ad 0)]) ⟨hx, hb, hml, hown, hts⟩ (c1_isWell l hI (p0)) (cwV 1 hts gX1_pumped_X1_isWell rfl rfl rfl (by decide +kernel) (by decide)) (pv1 hK hP) rfl rfl hl.1 rfl (lv_room (Nat.le_of_ble_eq_true rfl)) dX1_pumped_3 (by decide)) (fun r_4 hr_4 => ?_)
  obtain ⟨b_5, rfl, hb_5⟩ := hr_4
  subst hb_5
  refine zb_Beq (tgt := 20) hx hb dX1_pumped_6 (by decide) (fun c_6 => ?_) (fun c_6 => ?_)
  · skip
    refine lv_iconst (v := nI 0) hx hb dX1_pumped_20 (by decide) ?_
    refine zt_i (y := bB (ixB (p0) (M 0 0) && ixB (p1) 3)) (bB_0.trans (congrArg bB (by simp [c_6]))) ?_
    exact cut21 _ (lv_sub hl [0, 1, 2] rfl)
  · skip
    refine lv_iload_n hx hb dX1_pumped_9 rfl (lv_at hl 2 rfl) ?_
    refine vp_callSi (W.runS (As := [.int (p1)]) (rest := [.ref (ad 0)]) ⟨hx, hb, hml, hown, hts⟩ (c1_isYear l (p1)) (va_cwS 1 hts gX1_pumped_X1_isYear rfl rfl rfl (by decide +kernel) (by decide)) psN rfl rfl hl.1 rfl (lv_room (Nat.le_of_ble_eq_true rfl)) dX1_pumped_10 (by decide)) (fun r_7 hr_7 => ?_)
    obtain ⟨b_8, rfl, hb_8⟩ := hr_7
    subst hb_8
    refine zb_Beq (tgt := 20) hx hb dX1_pumped_13 (by decide) (fun c_9 => ?_) (fun c_9 => ?_)
    · skip
      refine lv_iconst (v := nI 0) hx hb dX1_pumped_20 (by decide) ?_
      refine zt_i (y := bB (ixB (p0) (M 0 0) && ixB (p1) 3)) (bB_0.trans (congrArg bB (by simp [c_6, c_9]))) ?_
      exact cut21 _ (lv_sub hl [0, 1, 2] rfl)
    · skip
      refine lv_iconst (v := nI 1) hx hb dX1_pumped_16 (by decide) ?_
      refine lv_goto (tgt := 21) hx hb dX1_pumped_17 (by decide) ?_
      refine zt_i (y := bB (ixB (p0) (M 0 0) && ixB (p1) 3)) (bB_1.trans (congrArg bB (by simp [c_6, c_9]))) ?_
      exact cut21 _ (lv_sub hl [0, 1, 2] rfl)
set_option maxHeartbeats 4000000 in
set_option maxRecDepth 100000 in
/-- beyond -/
theorem r0_beyond (l : Launch) {D : va_G} {ad : Nat → Nat} {cI : ClassId} {M : Mdl} {th : Int32} {sz : Nat} (hI : Inv M) (hnd : ndz 9 ad)  (p0 : Int32) : Met l yX1_beyond wsX1_beyond (rmP 3) (va_Pc [.ref (ad 0), .int (p0)] (KP1S D ad cI M th sz)) (va_Qi (fun r_ (u_ : Unit) => (ixB (p0) 3) = true → r_ = nI (byd M (clN p0))) (fun (u_ : Unit) t_ => KP1 D ad cI M (nI (cd1 (ixB (p0) 3))) t_) (azs 9 ad sz)) 0 0 (azs 9 ad sz) := by
  refine mk_Qi (S := Unit) (post := fun r_ u_ => (ixB (p0) 3) = true → r_ = nI (byd M (clN p0))) (BQ := fun u_ t_ => KP1 D ad cI M (nI (cd1 (ixB (p0) 3))) t_) (cc := cX1_beyond) (maxL := 5) (by decide) rfl (Nat.le_of_ble_eq_true rfl) ?_
  intro p e s m args below meth c Q C0 B0 hret ls hl
  obtain ⟨hx, hb, hr, hml, hown, hts, hlocks⟩ := C0
  have hown : s.vm.findClass RX1 = some m.cls := hown
  obtain ⟨hsz, hK, hP⟩ := B0
  have hw0 : ∀ w ∈ wsX10, w.before args s = true := fun w h => hts w ((by decide +kernel : ∀ w ∈ wsX10, w ∈ wsX1_beyond) w h)
  subst hsz
  have hAd : ∀ i, i < 9 → azs 9 ad s.heap.size (ad i) := fun i h => azs_i h
  have hS : va_S (azs 9 ad s.heap.size) s.heap s.heap [] := va_S.rf
  have b_nw := hI.nw
  have b_nv := hI.nv
  have hl : lv_has ls 5 [(0, .ref (ad 0)), (1, .int (p0))] := hl
  refine lv_aload_n hx hb dX1_beyond_0 rfl (lv_at hl 0 rfl) ?_
  refine lv_iload_n hx hb dX1_beyond_1 rfl (lv_at hl 1 rfl) ?_
  refine vp_callSi (W.runS (As := [.int (p0)]) (rest := [.ref (ad 0)]) ⟨hx, hb, hml, hown, hts⟩ (c1_isYear l (p0)) (va_cwS 1 hts gX1_beyond_X1_isYear rfl rfl rfl (by decide +kernel) (by decide)) psN rfl rfl hl.1 rfl (lv_room (Nat.le_of_ble_eq_true rfl)) dX1_beyond_2 (by decide)) (fun r_1 hr_1 => ?_)
  obtain ⟨b_2, rfl, hb_2⟩ := hr_1
  subst hb_2
  have hz9 := hS.1
  refine va_calli (va_runV (As := [.int (bB (ixB (p0) 3))]) (rest := []) ⟨hx, hb, hml, hown, hts⟩ (c1_may l (D := D) (ad := ad) (cI := cI) (M := M) (th := th) (sz := s.heap.size) hnd (ixB (p0) 3)) (cwV 1 hts gX1_beyond_X1_may rfl rfl rfl (by decide +kernel) (by decide)) (pv1S hK hP) rfl rfl hl.1 rfl (lv_room (Nat.le_of_ble_eq_true rfl)) dX1_beyond_5 (by decide)) hS (fun q _ h => azs_mono hz9 h) (fun q h => azs_mono hz9 h) (fun r9 u9 t9 H1 locs1 ht9 hv9 hp9 hB9 hz1 hk1 hS1 => ?_)
  obtain ⟨b9, rfl, hb9⟩ := hp9
  subst hb9
  have hP1 := hB9.2
  rw [ht9] at hP1
  clear hP hS hB9 ht9 hv9 hz1 hk1 hz9
  have hP := hP1
  have hS := hS1
  clear hP1 hS1
  generalize H1 = H at hP hS ⊢
  generalize locs1 = locs at hS ⊢
  refine zb_Bne (tgt := 13) hx hb dX1_beyond_8 (by decide) (fun c_3 => ?_) (fun c_3 => ?_)
  · skip
    obtain ⟨y, h_y, rfl⟩ := ixB_of (by omega) c_3
    have cl_y : clN (nI y) = y := clN_nI (by omega)
    refine lv_iconst (v := nI 0) hx hb dX1_beyond_13 (by decide) ?_
    refine lv_istore_n (lv' := [(2, .int (nI (0))), (0, .ref (ad 0)), (1, .int (nI (y)))]) hx hb dX1_beyond_14 rfl hl (by decide) rfl (fun ls hl => ?_)
    refine lv_iconst (v := nI 0) hx hb dX1_beyond_15 (by decide) ?_
    refine lv_istore_n (lv' := [(3, .int (nI (0))), (2, .int (nI (0))), (0, .ref (ad 0)), (1, .int (nI (y)))]) hx hb dX1_beyond_16 rfl hl (by decide) rfl (fun ls hl => ?_)
    have lp17 : ∀ (n w : Nat), w ≤ M 0 0 → M 0 0 - w < n → ∀ ls : Array Slot, lv_has ls 5 [(0, .ref (ad 0)), (1, .int (nI (y))), (2, .int (nI (ssum (fun w => yr M w y - M 3 w) (w)))), (3, .int (nI (w)))] → W p l e (rmP 3) s m args below meth c H locs 0 0 Q (F0 m 17 ls []) := by
      intro n
      induction n with
      | zero => intro w q1 q2; omega
      | succ n ih17 =>
        intro w q1_17 q2_17 ls hl
        refine lv_iload_n hx hb dX1_beyond_17 rfl (lv_at hl 3 rfl) ?_
        refine lv_aload_n hx hb dX1_beyond_18 rfl (lv_at hl 0 rfl) ?_
        refine zg1 hx hb hw0 hown hK hP (by decide) rfl 0 (by decide) (hts (.fieldLink RX1 38 "WellFieldModel" "wells" "I") (by decide +kernel)) rfl rfl dX1_beyond_19 ?_
        refine zb_ge (tgt := 60) hx hb (by omega) (by omega) dX1_beyond_22 (by decide) (fun c_4 => ?_) (fun c_4 => ?_)
        · skip
          have q_5 : w = M 0 0 := by omega
          subst q_5
          refine lv_iload_n hx hb dX1_beyond_60 rfl (lv_at hl 2 rfl) ?_
          exact hret (u := ()) (fun _ => by rw [cl_y]; rfl) hS (fun t ht hA => ⟨va_K.moved hA hK, by rw [ht]; exact hP⟩) dX1_beyond_61
        · skip
          refine lv_aload_n hx hb dX1_beyond_25 rfl (lv_at hl 0 rfl) ?_
          refine lv_iload_n hx hb dX1_beyond_26 rfl (lv_at hl 3 rfl) ?_
          refine lv_iload_n hx hb dX1_beyond_27 rfl (lv_at hl 1 rfl) ?_
          refine vp_callSi (W.runV (As := [.int (nI (w)), .int (nI (y))]) (rest := []) ⟨hx, hb, hml, hown, hts⟩ (c1_pumpedIn l hI (w := w) (y := y) (by omega) (by omega)) (cwV 2 hts gX1_beyond_X1_pumpedIn rfl rfl rfl (by decide +kernel) (by decide)) (pv1 hK hP) rfl rfl hl.1 rfl (lv_room (Nat.le_of_ble_eq_true rfl)) dX1_beyond_28 (by decide)) (fun r_6 hr_6 => ?_)
          subst hr_6
          have f_7 := yr_le hI (w := w) (by omega) (y)
          refine lv_aload_n hx hb dX1_beyond_31 rfl (lv_at hl 0 rfl) ?_
          refine zg1 hx hb hw0 hown hK hP (by decide) rfl 3 (by decide) (hts (.fieldLink RX1 16 "WellFieldModel" "licence" "[I") (by decide +kernel)) rfl rfl dX1_beyond_32 ?_
          refine lv_iload_n hx hb dX1_beyond_35 rfl (lv_at hl 3 rfl) ?_
          refine zi_ld hx hb hK hP 3 (by decide) 0 rfl rfl (by decide) (i := w) (by omega) (v := nI (M 3 (w))) rfl dX1_beyond_36 ?_
          have f_8 := hI.li (w)
          refine lv_isub hx hb dX1_beyond_37 ?_
          refine lv_istore (lv' := [(4, .int (nI (yr M (w) (y)) - nI (M 3 (w)))), (0, .ref (ad 0)), (1, .int (nI (y))), (2, .int (nI (ssum (fun w => yr M w y - M 3 w) (w)))), (3, .int (nI (w)))]) hx hb dX1_beyond_38 hl (by decide) rfl (fun ls hl => ?_)
          refine lv_iload_n hx hb dX1_beyond_40 rfl (lv_at hl 3 rfl) ?_
          refine lv_iload hx hb dX1_beyond_41 (lv_at hl 0 rfl) ?_
          refine lv_if_le (tgt := 51) hx hb dX1_beyond_43 (by decide) (fun c_9 => ?_) (fun c_9 => ?_)
          · skip
            refine lv_iconst (v := nI 0) hx hb dX1_beyond_51 (by decide) ?_
            refine zt_i (y := nI (yr M w y - M 3 w)) (nsub_n (by omega) (by omega) c_9) ?_
            refine zr_iadd hx hb dX1_beyond_52 ?_
            refine lv_istore_n (lv' := [(2, .int (nI ((ssum (fun w => yr M w y - M 3 w) (w)) + (yr M w y - M 3 w)))), (4, .int (nI (yr M (w) (y)) - nI (M 3 (w)))), (0, .ref (ad 0)), (1, .int (nI (y))), (3, .int (nI (w)))]) hx hb dX1_beyond_53 rfl hl (by decide) rfl (fun ls hl => ?_)
            refine lv_iinc (v := nI (w + 1)) (lv' := [(3, .int (nI (w + 1))), (2, .int (nI ((ssum (fun w => yr M w y - M 3 w) (w)) + (yr M w y - M 3 w)))), (4, .int (nI (yr M (w) (y)) - nI (M 3 (w)))), (0, .ref (ad 0)), (1, .int (nI (y)))]) hx hb dX1_beyond_54 hl (k := 4) rfl (zn_inc (w)) (by decide) rfl (fun ls hl => ?_)
            refine lv_goto (tgt := 17) hx hb dX1_beyond_57 (by decide) ?_
            exact ih17 (w + 1) (by omega) (by omega) _ (lv_sub hl [3, 4, 1, 0] rfl)
          · skip
            refine lv_iload hx hb dX1_beyond_46 (lv_at hl 0 rfl) ?_
            refine lv_goto (tgt := 52) hx hb dX1_beyond_48 (by decide) ?_
            refine zt_i (y := nI (yr M w y - M 3 w)) (nsub_p (by omega) (by omega) c_9) ?_
            refine zr_iadd hx hb dX1_beyond_52 ?_
            refine lv_istore_n (lv' := [(2, .int (nI ((ssum (fun w => yr M w y - M 3 w) (w)) + (yr M w y - M 3 w)))), (4, .int (nI (yr M (w) (y)) - nI (M 3 (w)))), (0, .ref (ad 0)), (1, .int (nI (y))), (3, .int (nI (w)))]) hx hb dX1_beyond_53 rfl hl (by decide) rfl (fun ls hl => ?_)
            refine lv_iinc (v := nI (w + 1)) (lv' := [(3, .int (nI (w + 1))), (2, .int (nI ((ssum (fun w => yr M w y - M 3 w) (w)) + (yr M w y - M 3 w)))), (4, .int (nI (yr M (w) (y)) - nI (M 3 (w)))), (0, .ref (ad 0)), (1, .int (nI (y)))]) hx hb dX1_beyond_54 hl (k := 4) rfl (zn_inc (w)) (by decide) rfl (fun ls hl => ?_)
            refine lv_goto (tgt := 17) hx hb dX1_beyond_57 (by decide) ?_
            exact ih17 (w + 1) (by omega) (by omega) _ (lv_sub hl [3, 4, 1, 0] rfl)
    exact lp17 (M 0 0 - (0) + 1) (0) (by omega) (by omega) _ (lv_sub hl [2, 3, 1, 0] rfl)
  · skip
    refine lv_iconst (v := nI 0) hx hb dX1_beyond_11 (by decide) ?_
    exact hret (u := ()) (fun h => absurd h (by rw [c_3]; decide)) hS (fun t ht hA => ⟨va_K.moved hA hK, by rw [ht]; exact hP⟩) dX1_beyond_12
set_option maxHeartbeats 4000000 in
set_option maxRecDepth 100000 in
/-- drawdown -/
theorem r0_drawdown (l : Launch) {D : va_G} {ad : Nat → Nat} {cI : ClassId} {M : Mdl} {th : Int32} {sz : Nat} (hI : Inv M) (hnd : ndz 9 ad)  (p0 p1 : Int32) : Met l yX1_drawdown wsX1_drawdown (rmP 3) (va_Pc [.ref (ad 0), .int (p0), .int (p1)] (KP1S D ad cI M th sz)) (va_Ql (fun r_ (u_ : Unit) => (ixB (p0) (M 5 0) && ixB (p1) 36) = true → r_ = lN (dd M (clN p0) (clN p1))) (fun (u_ : Unit) t_ => KP1 D ad cI M (nI (cd1 (ixB (p0) (M 5 0) && ixB (p1) 36))) t_) (azs 9 ad sz)) 0 0 (azs 9 ad sz) := by
  refine mk_Ql (S := Unit) (post := fun r_ u_ => (ixB (p0) (M 5 0) && ixB (p1) 36) = true → r_ = lN (dd M (clN p0) (clN p1))) (BQ := fun u_ t_ => KP1 D ad cI M (nI (cd1 (ixB (p0) (M 5 0) && ixB (p1) 36))) t_) (cc := cX1_drawdown) (maxL := 3) (by decide) rfl (Nat.le_of_ble_eq_true rfl) ?_
  intro p e s m args below meth c Q C0 B0 hret ls hl
  obtain ⟨hx, hb, hr, hml, hown, hts, hlocks⟩ := C0
  have hown : s.vm.findClass RX1 = some m.cls := hown
  obtain ⟨hsz, hK, hP⟩ := B0
  have hw0 : ∀ w ∈ wsX10, w.before args s = true := fun w h => hts w ((by decide +kernel : ∀ w ∈ wsX10, w ∈ wsX1_drawdown) w h)
  subst hsz
  have hAd : ∀ i, i < 9 → azs 9 ad s.heap.size (ad i) := fun i h => azs_i h
  have hS : va_S (azs 9 ad s.heap.size) s.heap s.heap [] := va_S.rf
  have b_nw := hI.nw
  have b_nv := hI.nv
  have hl : lv_has ls 3 [(0, .ref (ad 0)), (1, .int (p0)), (2, .int (p1))] := hl
  have cut21 : ∀ ls : Array Slot, lv_has ls 3 [(0, .ref (ad 0)), (1, .int (p0)), (2, .int (p1))] → W p l e (rmP 3) s m args below meth c s.heap [] 0 0 Q (F0 m 21 ls [.int (bB (ixB (p0) (M 5 0) && ixB (p1) 36)), .ref (ad 0)]) := by
    intro ls hl
    have hz9 := hS.1
    refine va_calli (va_runV (As := [.int (bB (ixB (p0) (M 5 0) && ixB (p1) 36))]) (rest := []) ⟨hx, hb, hml, hown, hts⟩ (c1_may l (D := D) (ad := ad) (cI := cI) (M := M) (th := th) (sz := s.heap.size) hnd (ixB (p0) (M 5 0) && ixB (p1) 36)) (cwV 1 hts gX1_drawdown_X1_may rfl rfl rfl (by decide +kernel) (by decide)) (pv1S hK hP) rfl rfl hl.1 rfl (lv_room (Nat.le_of_ble_eq_true rfl)) dX1_drawdown_21 (by decide)) hS (fun q _ h => azs_mono hz9 h) (fun q h => azs_mono hz9 h) (fun r9 u9 t9 H1 locs1 ht9 hv9 hp9 hB9 hz1 hk1 hS1 => ?_)
    obtain ⟨b9, rfl, hb9⟩ := hp9
    subst hb9
    have hP1 := hB9.2
    rw [ht9] at hP1
    clear hP hS hB9 ht9 hv9 hz1 hk1 hz9
    have hP := hP1
    have hS := hS1
    clear hP1 hS1
    generalize H1 = H at hP hS ⊢
    generalize locs1 = locs at hS ⊢
    refine zb_Beq (tgt := 36) hx hb dX1_drawdown_24 (by decide) (fun c_1 => ?_) (fun c_1 => ?_)
    · skip
      refine lv_lconst (v := lN 0) hx hb dX1_drawdown_36 (by decide) ?_
      exact hret (u := ()) (fun h => absurd h (by rw [c_1]; decide)) hS (fun t ht hA => ⟨va_K.moved hA hK, by rw [ht]; exact hP⟩) dX1_drawdown_37
    · skip
      obtain ⟨a, h_a, rfl⟩ := ixB_of (by omega) (Bool.and_eq_true_iff.mp c_1).1
      have cl_a : clN (nI a) = a := clN_nI (by omega)
      obtain ⟨b2, h_b2, rfl⟩ := ixB_of (by omega) (Bool.and_eq_true_iff.mp c_1).2
      have cl_b2 : clN (nI b2) = b2 := clN_nI (by omega)
      refine lv_aload_n hx hb dX1_drawdown_27 rfl (lv_at hl 0 rfl) ?_
      refine lv_iload_n hx hb dX1_drawdown_28 rfl (lv_at hl 1 rfl) ?_
      refine lv_iload_n hx hb dX1_drawdown_29 rfl (lv_at hl 2 rfl) ?_
      refine vp_callSl (W.runV (As := [.int (nI (a)), .int (nI (b2))]) (rest := []) ⟨hx, hb, hml, hown, hts⟩ (c1_drawdownOf l hI (v := a) (mo := b2) (by omega) (by omega)) (cwV 2 hts gX1_drawdown_X1_drawdownOf rfl rfl rfl (by decide +kernel) (by decide)) (pv1 hK hP) rfl rfl hl.1 rfl (lv_room (Nat.le_of_ble_eq_true rfl)) dX1_drawdown_30 (by decide)) (fun r_2 hr_2 => ?_)
      subst hr_2
      have f_3 := dd_le hI (a) (b2)
      refine lv_goto (tgt := 37) hx hb dX1_drawdown_33 (by decide) ?_
      exact hret (u := ()) (fun _ => by rw [cl_a, cl_b2]) hS (fun t ht hA => ⟨va_K.moved hA hK, by rw [ht]; exact hP⟩) dX1_drawdown_37
  refine lv_aload_n hx hb dX1_drawdown_0 rfl (lv_at hl 0 rfl) ?_
  refine lv_aload_n hx hb dX1_drawdown_1 rfl (lv_at hl 0 rfl) ?_
  refine lv_iload_n hx hb dX1_drawdown_2 rfl (lv_at hl 1 rfl) ?_
  refine vp_callSi (W.runV (As := [.int (p0)]) (rest := [.ref (ad 0)]) ⟨hx, hb, hml, hown, hts⟩ (c1_isWatch l hI (p0)) (cwV 1 hts gX1_drawdown_X1_isWatch rfl rfl rfl (by decide +kernel) (by decide)) (pv1 hK hP) rfl rfl hl.1 rfl (lv_room (Nat.le_of_ble_eq_true rfl)) dX1_drawdown_3 (by decide)) (fun r_4 hr_4 => ?_)
  obtain ⟨b_5, rfl, hb_5⟩ := hr_4
  subst hb_5
  refine zb_Beq (tgt := 20) hx hb dX1_drawdown_6 (by decide) (fun c_6 => ?_) (fun c_6 => ?_)
  · skip
    refine lv_iconst (v := nI 0) hx hb dX1_drawdown_20 (by decide) ?_
    refine zt_i (y := bB (ixB (p0) (M 5 0) && ixB (p1) 36)) (bB_0.trans (congrArg bB (by simp [c_6]))) ?_
    exact cut21 _ (lv_sub hl [0, 1, 2] rfl)
  · skip
    refine lv_iload_n hx hb dX1_drawdown_9 rfl (lv_at hl 2 rfl) ?_
    refine vp_callSi (W.runS (As := [.int (p1)]) (rest := [.ref (ad 0)]) ⟨hx, hb, hml, hown, hts⟩ (c1_isMonth l (p1)) (va_cwS 1 hts gX1_drawdown_X1_isMonth rfl rfl rfl (by decide +kernel) (by decide)) psN rfl rfl hl.1 rfl (lv_room (Nat.le_of_ble_eq_true rfl)) dX1_drawdown_10 (by decide)) (fun r_7 hr_7 => ?_)
    obtain ⟨b_8, rfl, hb_8⟩ := hr_7
    subst hb_8
    refine zb_Beq (tgt := 20) hx hb dX1_drawdown_13 (by decide) (fun c_9 => ?_) (fun c_9 => ?_)
    · skip
      refine lv_iconst (v := nI 0) hx hb dX1_drawdown_20 (by decide) ?_
      refine zt_i (y := bB (ixB (p0) (M 5 0) && ixB (p1) 36)) (bB_0.trans (congrArg bB (by simp [c_6, c_9]))) ?_
      exact cut21 _ (lv_sub hl [0, 1, 2] rfl)
    · skip
      refine lv_iconst (v := nI 1) hx hb dX1_drawdown_16 (by decide) ?_
      refine lv_goto (tgt := 21) hx hb dX1_drawdown_17 (by decide) ?_
      refine zt_i (y := bB (ixB (p0) (M 5 0) && ixB (p1) 36)) (bB_1.trans (congrArg bB (by simp [c_6, c_9]))) ?_
      exact cut21 _ (lv_sub hl [0, 1, 2] rfl)
set_option maxHeartbeats 4000000 in
set_option maxRecDepth 100000 in
theorem r0_drawdownByPulses (l : Launch) {D : va_G} {ad : Nat → Nat} {cI : ClassId} {M : Mdl} {th : Int32} {sz : Nat} (hI : Inv M) (hnd : ndz 9 ad) (p0 p1 : Int32) : Met l yX1_drawdownByPulses wsX1_drawdownByPulses (rmP 4) (va_Pc [.ref (ad 0), .int (p0), .int (p1)] (KP1S D ad cI M th sz)) (va_Ql (fun r_ (u_ : Unit) => (ixB (p0) (M 5 0) && ixB (p1) 36) = true → r_ = lN (dd M (clN p0) (clN p1))) (fun (u_ : Unit) t_ => KP1 D ad cI M (nI (cd1 (ixB (p0) (M 5 0) && ixB (p1) 36))) t_) (azs 9 ad sz)) 0 0 (azs 9 ad sz) := by
  refine mk_Ql (S := Unit) (post := fun r_ u_ => (ixB (p0) (M 5 0) && ixB (p1) 36) = true → r_ = lN (dd M (clN p0) (clN p1))) (BQ := fun u_ t_ => KP1 D ad cI M (nI (cd1 (ixB (p0) (M 5 0) && ixB (p1) 36))) t_) (cc := cX1_drawdownByPulses) (maxL := 3) (by decide) rfl (Nat.le_of_ble_eq_true rfl) ?_
  intro p e s m args below meth c Q C0 B0 hret ls hl
  obtain ⟨hx, hb, hr, hml, hown, hts, hlocks⟩ := C0
  have hown : s.vm.findClass RX1 = some m.cls := hown
  obtain ⟨hsz, hK, hP⟩ := B0
  have hw0 : ∀ w ∈ wsX10, w.before args s = true := fun w h => hts w ((by decide +kernel : ∀ w ∈ wsX10, w ∈ wsX1_drawdownByPulses) w h)
  subst hsz
  have hAd : ∀ i, i < 9 → azs 9 ad s.heap.size (ad i) := fun i h => azs_i h
  have hS : va_S (azs 9 ad s.heap.size) s.heap s.heap [] := va_S.rf
  have hl : lv_has ls 3 [(0, .ref (ad 0)), (1, .int (p0)), (2, .int (p1))] := hl
  refine lv_aload_n hx hb dX1_drawdownByPulses_0 rfl (lv_at hl 0 rfl) ?_
  refine lv_iload_n hx hb dX1_drawdownByPulses_1 rfl (lv_at hl 1 rfl) ?_
  refine lv_iload_n hx hb dX1_drawdownByPulses_2 rfl (lv_at hl 2 rfl) ?_
  have hz9 := hS.1
  refine va_calll (va_runV (As := [.int (p0), .int (p1)]) (rest := []) ⟨hx, hb, hml, hown, hts⟩ (r0_drawdown l (D := D) (ad := ad) (cI := cI) (M := M) (th := th) (sz := s.heap.size) hI hnd p0 p1) (cwV 2 hts gX1_drawdownByPulses_X1_drawdown rfl rfl rfl (by decide +kernel) (by decide)) (pv1S hK hP) rfl rfl hl.1 rfl (lv_room (Nat.le_of_ble_eq_true rfl)) dX1_drawdownByPulses_3 (by decide)) hS (fun q _ h => azs_mono hz9 h) (fun q h => azs_mono hz9 h) (fun r9 u9 t9 H1 locs1 ht9 hv9 hp9 hB9 hz1 hk1 hS1 => ?_)
  have hP1 := hB9.2
  rw [ht9] at hP1
  exact hret (u := ()) hp9 hS1 (fun t ht hA => ⟨va_K.moved hA hK, by rw [ht]; exact hP1⟩) dX1_drawdownByPulses_6
set_option maxHeartbeats 4000000 in
set_option maxRecDepth 100000 in
/-- worstMonth -/
theorem r0_worstMonth (l : Launch) {D : va_G} {ad : Nat → Nat} {cI : ClassId} {M : Mdl} {th : Int32} {sz : Nat} (hI : Inv M) (hnd : ndz 9 ad)  (p0 : Int32) : Met l yX1_worstMonth wsX1_worstMonth (rmP 3) (va_Pc [.ref (ad 0), .int (p0)] (KP1S D ad cI M th sz)) (va_Qi (fun r_ (u_ : Unit) => (ixB (p0) (M 5 0)) = true → r_ = nI (wst M (clN p0) 35)) (fun (u_ : Unit) t_ => KP1 D ad cI M (nI (cd1 (ixB (p0) (M 5 0)))) t_) (azs 9 ad sz)) 0 0 (azs 9 ad sz) := by
  refine mk_Qi (S := Unit) (post := fun r_ u_ => (ixB (p0) (M 5 0)) = true → r_ = nI (wst M (clN p0) 35)) (BQ := fun u_ t_ => KP1 D ad cI M (nI (cd1 (ixB (p0) (M 5 0)))) t_) (cc := cX1_worstMonth) (maxL := 4) (by decide) rfl (Nat.le_of_ble_eq_true rfl) ?_
  intro p e s m args below meth c Q C0 B0 hret ls hl
  obtain ⟨hx, hb, hr, hml, hown, hts, hlocks⟩ := C0
  have hown : s.vm.findClass RX1 = some m.cls := hown
  obtain ⟨hsz, hK, hP⟩ := B0
  have hw0 : ∀ w ∈ wsX10, w.before args s = true := fun w h => hts w ((by decide +kernel : ∀ w ∈ wsX10, w ∈ wsX1_worstMonth) w h)
  subst hsz
  have hAd : ∀ i, i < 9 → azs 9 ad s.heap.size (ad i) := fun i h => azs_i h
  have hS : va_S (azs 9 ad s.heap.size) s.heap s.heap [] := va_S.rf
  have b_nw := hI.nw
  have b_nv := hI.nv
  have hl : lv_has ls 4 [(0, .ref (ad 0)), (1, .int (p0))] := hl
  refine lv_aload_n hx hb dX1_worstMonth_0 rfl (lv_at hl 0 rfl) ?_
  refine lv_aload_n hx hb dX1_worstMonth_1 rfl (lv_at hl 0 rfl) ?_
  refine lv_iload_n hx hb dX1_worstMonth_2 rfl (lv_at hl 1 rfl) ?_
  refine vp_callSi (W.runV (As := [.int (p0)]) (rest := [.ref (ad 0)]) ⟨hx, hb, hml, hown, hts⟩ (c1_isWatch l hI (p0)) (cwV 1 hts gX1_worstMonth_X1_isWatch rfl rfl rfl (by decide +kernel) (by decide)) (pv1 hK hP) rfl rfl hl.1 rfl (lv_room (Nat.le_of_ble_eq_true rfl)) dX1_worstMonth_3 (by decide)) (fun r_1 hr_1 => ?_)
  obtain ⟨b_2, rfl, hb_2⟩ := hr_1
  subst hb_2
  have hz9 := hS.1
  refine va_calli (va_runV (As := [.int (bB (ixB (p0) (M 5 0)))]) (rest := []) ⟨hx, hb, hml, hown, hts⟩ (c1_may l (D := D) (ad := ad) (cI := cI) (M := M) (th := th) (sz := s.heap.size) hnd (ixB (p0) (M 5 0))) (cwV 1 hts gX1_worstMonth_X1_may rfl rfl rfl (by decide +kernel) (by decide)) (pv1S hK hP) rfl rfl hl.1 rfl (lv_room (Nat.le_of_ble_eq_true rfl)) dX1_worstMonth_6 (by decide)) hS (fun q _ h => azs_mono hz9 h) (fun q h => azs_mono hz9 h) (fun r9 u9 t9 H1 locs1 ht9 hv9 hp9 hB9 hz1 hk1 hS1 => ?_)
  obtain ⟨b9, rfl, hb9⟩ := hp9
  subst hb9
  have hP1 := hB9.2
  rw [ht9] at hP1
  clear hP hS hB9 ht9 hv9 hz1 hk1 hz9
  have hP := hP1
  have hS := hS1
  clear hP1 hS1
  generalize H1 = H at hP hS ⊢
  generalize locs1 = locs at hS ⊢
  refine zb_Bne (tgt := 14) hx hb dX1_worstMonth_9 (by decide) (fun c_3 => ?_) (fun c_3 => ?_)
  · skip
    obtain ⟨v, h_v, rfl⟩ := ixB_of (by omega) c_3
    have cl_v : clN (nI v) = v := clN_nI (by omega)
    refine lv_iconst (v := nI 0) hx hb dX1_worstMonth_14 (by decide) ?_
    refine lv_istore_n (lv' := [(2, .int (nI (0))), (0, .ref (ad 0)), (1, .int (nI (v)))]) hx hb dX1_worstMonth_15 rfl hl (by decide) rfl (fun ls hl => ?_)
    refine lv_iconst (v := nI 1) hx hb dX1_worstMonth_16 (by decide) ?_
    refine lv_istore_n (lv' := [(3, .int (nI (1))), (2, .int (nI (0))), (0, .ref (ad 0)), (1, .int (nI (v)))]) hx hb dX1_worstMonth_17 rfl hl (by decide) rfl (fun ls hl => ?_)
    have lp18 : ∀ (n k : Nat), k ≤ 35 → 35 - k < n → ∀ ls : Array Slot, lv_has ls 4 [(0, .ref (ad 0)), (1, .int (nI (v))), (2, .int (nI (wst M v (k)))), (3, .int (nI ((k) + 1)))] → W p l e (rmP 3) s m args below meth c H locs 0 0 Q (F0 m 18 ls []) := by
      intro n
      induction n with
      | zero => intro k q1 q2; omega
      | succ n ih18 =>
        intro k q1_18 q2_18 ls hl
        have u_k := wst_le M v k
        have u_m := dd_le hI v (wst M v k)
        refine lv_iload_n hx hb dX1_worstMonth_18 rfl (lv_at hl 3 rfl) ?_
        refine lv_bipush (v := nI 36) hx hb dX1_worstMonth_19 (by decide) ?_
        refine zb_ge (tgt := 52) hx hb (by omega) (by omega) dX1_worstMonth_21 (by decide) (fun c_4 => ?_) (fun c_4 => ?_)
        · skip
          have q_5 : k = 35 := by omega
          subst q_5
          refine lv_iload_n hx hb dX1_worstMonth_52 rfl (lv_at hl 2 rfl) ?_
          exact hret (u := ()) (fun _ => by rw [cl_v]) hS (fun t ht hA => ⟨va_K.moved hA hK, by rw [ht]; exact hP⟩) dX1_worstMonth_53
        · skip
          refine lv_aload_n hx hb dX1_worstMonth_24 rfl (lv_at hl 0 rfl) ?_
          refine lv_iload_n hx hb dX1_worstMonth_25 rfl (lv_at hl 1 rfl) ?_
          refine lv_iload_n hx hb dX1_worstMonth_26 rfl (lv_at hl 3 rfl) ?_
          refine vp_callSl (W.runV (As := [.int (nI (v)), .int (nI ((k) + 1))]) (rest := []) ⟨hx, hb, hml, hown, hts⟩ (c1_drawdownOf l hI (v := v) (mo := (k) + 1) (by omega) (by omega)) (cwV 2 hts gX1_worstMonth_X1_drawdownOf rfl rfl rfl (by decide +kernel) (by decide)) (pv1 hK hP) rfl rfl hl.1 rfl (lv_room (Nat.le_of_ble_eq_true rfl)) dX1_worstMonth_27 (by decide)) (fun r_6 hr_6 => ?_)
          subst hr_6
          have f_7 := dd_le hI (v) ((k) + 1)
          refine lv_aload_n hx hb dX1_worstMonth_30 rfl (lv_at hl 0 rfl) ?_
          refine lv_iload_n hx hb dX1_worstMonth_31 rfl (lv_at hl 1 rfl) ?_
          refine lv_iload_n hx hb dX1_worstMonth_32 rfl (lv_at hl 2 rfl) ?_
          refine vp_callSl (W.runV (As := [.int (nI (v)), .int (nI (wst M v (k)))]) (rest := [.long (lN (dd M (v) ((k) + 1)))]) ⟨hx, hb, hml, hown, hts⟩ (c1_drawdownOf l hI (v := v) (mo := wst M v (k)) (by omega) (by omega)) (cwV 2 hts gX1_worstMonth_X1_drawdownOf rfl rfl rfl (by decide +kernel) (by decide)) (pv1 hK hP) rfl rfl hl.1 rfl (lv_room (Nat.le_of_ble_eq_true rfl)) dX1_worstMonth_33 (by decide)) (fun r_8 hr_8 => ?_)
          subst hr_8
          have f_9 := dd_le hI (v) (wst M v (k))
          refine zbL_le (tgt := 44) hx hb (by omega) (by omega) dX1_worstMonth_36 dX1_worstMonth_37 (by decide) (fun c_10 => ?_) (fun c_10 => ?_)
          · skip
            refine lv_iload_n hx hb dX1_worstMonth_44 rfl (lv_at hl 2 rfl) ?_
            refine zt_i (y := nI (wst M v (k + 1))) (congrArg nI (by show _ = (if dd M v (wst M v k) < dd M v (k + 1) then _ else _); split <;> first | rfl | omega)) ?_
            refine lv_istore_n (lv' := [(2, .int (nI (wst M v (k + 1)))), (0, .ref (ad 0)), (1, .int (nI (v))), (3, .int (nI ((k) + 1)))]) hx hb dX1_worstMonth_45 rfl hl (by decide) rfl (fun ls hl => ?_)
            refine lv_iinc (v := nI ((k) + 1 + 1)) (lv' := [(3, .int (nI ((k) + 1 + 1))), (2, .int (nI (wst M v (k + 1)))), (0, .ref (ad 0)), (1, .int (nI (v)))]) hx hb dX1_worstMonth_46 hl (k := 3) rfl (zn_inc ((k) + 1)) (by decide) rfl (fun ls hl => ?_)
            refine lv_goto (tgt := 18) hx hb dX1_worstMonth_49 (by decide) ?_
            exact ih18 (k + 1) (by omega) (by omega) _ (lv_sub hl [2, 3, 1, 0] rfl)
          · skip
            refine lv_iload_n hx hb dX1_worstMonth_40 rfl (lv_at hl 3 rfl) ?_
            refine lv_goto (tgt := 45) hx hb dX1_worstMonth_41 (by decide) ?_
            refine zt_i (y := nI (wst M v (k + 1))) (congrArg nI (by show _ = (if dd M v (wst M v k) < dd M v (k + 1) then _ else _); split <;> first | rfl | omega)) ?_
            refine lv_istore_n (lv' := [(2, .int (nI (wst M v (k + 1)))), (0, .ref (ad 0)), (1, .int (nI (v))), (3, .int (nI ((k) + 1)))]) hx hb dX1_worstMonth_45 rfl hl (by decide) rfl (fun ls hl => ?_)
            refine lv_iinc (v := nI ((k) + 1 + 1)) (lv' := [(3, .int (nI ((k) + 1 + 1))), (2, .int (nI (wst M v (k + 1)))), (0, .ref (ad 0)), (1, .int (nI (v)))]) hx hb dX1_worstMonth_46 hl (k := 3) rfl (zn_inc ((k) + 1)) (by decide) rfl (fun ls hl => ?_)
            refine lv_goto (tgt := 18) hx hb dX1_worstMonth_49 (by decide) ?_
            exact ih18 (k + 1) (by omega) (by omega) _ (lv_sub hl [2, 3, 1, 0] rfl)
    exact lp18 (35 - (0) + 1) (0) (by omega) (by omega) _ (lv_sub hl [2, 3, 1, 0] rfl)
  · skip
    refine lv_iconst (v := nI 0) hx hb dX1_worstMonth_12 (by decide) ?_
    exact hret (u := ()) (fun h => absurd h (by rw [c_3]; decide)) hS (fun t ht hA => ⟨va_K.moved hA hK, by rw [ht]; exact hP⟩) dX1_worstMonth_13
set_option maxHeartbeats 4000000 in
set_option maxRecDepth 100000 in
/-- over -/
theorem r0_over (l : Launch) {D : va_G} {ad : Nat → Nat} {cI : ClassId} {M : Mdl} {th : Int32} {sz : Nat} (hI : Inv M) (hnd : ndz 9 ad)  (p0 : Int32) : Met l yX1_over wsX1_over (rmP 3) (va_Pc [.ref (ad 0), .int (p0)] (KP1S D ad cI M th sz)) (va_Qi (fun r_ (u_ : Unit) => (ixB (p0) (M 5 0)) = true → r_ = nI (ovr M (clN p0))) (fun (u_ : Unit) t_ => KP1 D ad cI M (nI (cd1 (ixB (p0) (M 5 0)))) t_) (azs 9 ad sz)) 0 0 (azs 9 ad sz) := by
  refine mk_Qi (S := Unit) (post := fun r_ u_ => (ixB (p0) (M 5 0)) = true → r_ = nI (ovr M (clN p0))) (BQ := fun u_ t_ => KP1 D ad cI M (nI (cd1 (ixB (p0) (M 5 0)))) t_) (cc := cX1_over) (maxL := 4) (by decide) rfl (Nat.le_of_ble_eq_true rfl) ?_
  intro p e s m args below meth c Q C0 B0 hret ls hl
  obtain ⟨hx, hb, hr, hml, hown, hts, hlocks⟩ := C0
  have hown : s.vm.findClass RX1 = some m.cls := hown
  obtain ⟨hsz, hK, hP⟩ := B0
  have hw0 : ∀ w ∈ wsX10, w.before args s = true := fun w h => hts w ((by decide +kernel : ∀ w ∈ wsX10, w ∈ wsX1_over) w h)
  subst hsz
  have hAd : ∀ i, i < 9 → azs 9 ad s.heap.size (ad i) := fun i h => azs_i h
  have hS : va_S (azs 9 ad s.heap.size) s.heap s.heap [] := va_S.rf
  have b_nw := hI.nw
  have b_nv := hI.nv
  have hl : lv_has ls 4 [(0, .ref (ad 0)), (1, .int (p0))] := hl
  refine lv_aload_n hx hb dX1_over_0 rfl (lv_at hl 0 rfl) ?_
  refine lv_aload_n hx hb dX1_over_1 rfl (lv_at hl 0 rfl) ?_
  refine lv_iload_n hx hb dX1_over_2 rfl (lv_at hl 1 rfl) ?_
  refine vp_callSi (W.runV (As := [.int (p0)]) (rest := [.ref (ad 0)]) ⟨hx, hb, hml, hown, hts⟩ (c1_isWatch l hI (p0)) (cwV 1 hts gX1_over_X1_isWatch rfl rfl rfl (by decide +kernel) (by decide)) (pv1 hK hP) rfl rfl hl.1 rfl (lv_room (Nat.le_of_ble_eq_true rfl)) dX1_over_3 (by decide)) (fun r_1 hr_1 => ?_)
  obtain ⟨b_2, rfl, hb_2⟩ := hr_1
  subst hb_2
  have hz9 := hS.1
  refine va_calli (va_runV (As := [.int (bB (ixB (p0) (M 5 0)))]) (rest := []) ⟨hx, hb, hml, hown, hts⟩ (c1_may l (D := D) (ad := ad) (cI := cI) (M := M) (th := th) (sz := s.heap.size) hnd (ixB (p0) (M 5 0))) (cwV 1 hts gX1_over_X1_may rfl rfl rfl (by decide +kernel) (by decide)) (pv1S hK hP) rfl rfl hl.1 rfl (lv_room (Nat.le_of_ble_eq_true rfl)) dX1_over_6 (by decide)) hS (fun q _ h => azs_mono hz9 h) (fun q h => azs_mono hz9 h) (fun r9 u9 t9 H1 locs1 ht9 hv9 hp9 hB9 hz1 hk1 hS1 => ?_)
  obtain ⟨b9, rfl, hb9⟩ := hp9
  subst hb9
  have hP1 := hB9.2
  rw [ht9] at hP1
  clear hP hS hB9 ht9 hv9 hz1 hk1 hz9
  have hP := hP1
  have hS := hS1
  clear hP1 hS1
  generalize H1 = H at hP hS ⊢
  generalize locs1 = locs at hS ⊢
  refine zb_Bne (tgt := 14) hx hb dX1_over_9 (by decide) (fun c_3 => ?_) (fun c_3 => ?_)
  · skip
    obtain ⟨v, h_v, rfl⟩ := ixB_of (by omega) c_3
    have cl_v : clN (nI v) = v := clN_nI (by omega)
    refine lv_iconst (v := nI 0) hx hb dX1_over_14 (by decide) ?_
    refine lv_istore_n (lv' := [(2, .int (nI (0))), (0, .ref (ad 0)), (1, .int (nI (v)))]) hx hb dX1_over_15 rfl hl (by decide) rfl (fun ls hl => ?_)
    refine lv_iconst (v := nI 0) hx hb dX1_over_16 (by decide) ?_
    refine lv_istore_n (lv' := [(3, .int (nI (0))), (2, .int (nI (0))), (0, .ref (ad 0)), (1, .int (nI (v)))]) hx hb dX1_over_17 rfl hl (by decide) rfl (fun ls hl => ?_)
    have lp18 : ∀ (n k : Nat), k ≤ 36 → 36 - k < n → ∀ ls : Array Slot, lv_has ls 4 [(0, .ref (ad 0)), (1, .int (nI (v))), (2, .int (nI (ssum (fun m => ovc M v m) (k)))), (3, .int (nI (k)))] → W p l e (rmP 3) s m args below meth c H locs 0 0 Q (F0 m 18 ls []) := by
      intro n
      induction n with
      | zero => intro k q1 q2; omega
      | succ n ih18 =>
        intro k q1_18 q2_18 ls hl
        refine lv_iload_n hx hb dX1_over_18 rfl (lv_at hl 3 rfl) ?_
        refine lv_bipush (v := nI 36) hx hb dX1_over_19 (by decide) ?_
        refine zb_ge (tgt := 59) hx hb (by omega) (by omega) dX1_over_21 (by decide) (fun c_4 => ?_) (fun c_4 => ?_)
        · skip
          have q_5 : k = 36 := by omega
          subst q_5
          refine lv_iload_n hx hb dX1_over_59 rfl (lv_at hl 2 rfl) ?_
          exact hret (u := ()) (fun _ => by rw [cl_v]; rfl) hS (fun t ht hA => ⟨va_K.moved hA hK, by rw [ht]; exact hP⟩) dX1_over_60
        · skip
          refine lv_iload_n hx hb dX1_over_24 rfl (lv_at hl 2 rfl) ?_
          refine lv_aload_n hx hb dX1_over_25 rfl (lv_at hl 0 rfl) ?_
          refine lv_iload_n hx hb dX1_over_26 rfl (lv_at hl 1 rfl) ?_
          refine lv_iload_n hx hb dX1_over_27 rfl (lv_at hl 3 rfl) ?_
          refine vp_callSl (W.runV (As := [.int (nI (v)), .int (nI (k))]) (rest := [.int (nI (ssum (fun m => ovc M v m) (k)))]) ⟨hx, hb, hml, hown, hts⟩ (c1_drawdownOf l hI (v := v) (mo := k) (by omega) (by omega)) (cwV 2 hts gX1_over_X1_drawdownOf rfl rfl rfl (by decide +kernel) (by decide)) (pv1 hK hP) rfl rfl hl.1 rfl (lv_room (Nat.le_of_ble_eq_true rfl)) dX1_over_28 (by decide)) (fun r_6 hr_6 => ?_)
          subst hr_6
          have f_7 := dd_le hI (v) (k)
          refine lv_ldc2 (own := RX1) (v := 1000) hx hb hown (hts (.constantLong RX1 84 1000) (by decide +kernel)) dX1_over_31 ?_
          refine zt_l (y := lN 1000) rfl ?_
          refine lv_aload_n hx hb dX1_over_34 rfl (lv_at hl 0 rfl) ?_
          refine zg1 hx hb hw0 hown hK hP (by decide) rfl 7 (by decide) (hts (.fieldLink RX1 25 "WellFieldModel" "limit" "[I") (by decide +kernel)) rfl rfl dX1_over_35 ?_
          refine lv_iload_n hx hb dX1_over_38 rfl (lv_at hl 1 rfl) ?_
          refine zi_ld hx hb hK hP 6 (by decide) 0 rfl rfl (by decide) (i := v) (by omega) (v := nI (M 7 (v))) rfl dX1_over_39 ?_
          have f_8 := hI.lm (v)
          refine zr_i2l hx hb (by omega) dX1_over_40 ?_
          refine zr_lmul hx hb dX1_over_41 ?_
          refine zbL_le (tgt := 50) hx hb (by omega) (by omega) dX1_over_42 dX1_over_43 (by decide) (fun c_9 => ?_) (fun c_9 => ?_)
          · skip
            refine lv_iconst (v := nI 0) hx hb dX1_over_50 (by decide) ?_
            refine zt_i (y := nI (ovc M v k)) (congrArg nI (by unfold ovc; split <;> omega)) ?_
            refine zr_iadd hx hb dX1_over_51 ?_
            refine lv_istore_n (lv' := [(2, .int (nI ((ssum (fun m => ovc M v m) (k)) + (ovc M v k)))), (0, .ref (ad 0)), (1, .int (nI (v))), (3, .int (nI (k)))]) hx hb dX1_over_52 rfl hl (by decide) rfl (fun ls hl => ?_)
            refine lv_iinc (v := nI (k + 1)) (lv' := [(3, .int (nI (k + 1))), (2, .int (nI ((ssum (fun m => ovc M v m) (k)) + (ovc M v k)))), (0, .ref (ad 0)), (1, .int (nI (v)))]) hx hb dX1_over_53 hl (k := 3) rfl (zn_inc (k)) (by decide) rfl (fun ls hl => ?_)
            refine lv_goto (tgt := 18) hx hb dX1_over_56 (by decide) ?_
            exact ih18 (k + 1) (by omega) (by omega) _ (lv_sub hl [2, 3, 1, 0] rfl)
          · skip
            refine lv_iconst (v := nI 1) hx hb dX1_over_46 (by decide) ?_
            refine lv_goto (tgt := 51) hx hb dX1_over_47 (by decide) ?_
            refine zt_i (y := nI (ovc M v k)) (congrArg nI (by unfold ovc; split <;> omega)) ?_
            refine zr_iadd hx hb dX1_over_51 ?_
            refine lv_istore_n (lv' := [(2, .int (nI ((ssum (fun m => ovc M v m) (k)) + (ovc M v k)))), (0, .ref (ad 0)), (1, .int (nI (v))), (3, .int (nI (k)))]) hx hb dX1_over_52 rfl hl (by decide) rfl (fun ls hl => ?_)
            refine lv_iinc (v := nI (k + 1)) (lv' := [(3, .int (nI (k + 1))), (2, .int (nI ((ssum (fun m => ovc M v m) (k)) + (ovc M v k)))), (0, .ref (ad 0)), (1, .int (nI (v)))]) hx hb dX1_over_53 hl (k := 3) rfl (zn_inc (k)) (by decide) rfl (fun ls hl => ?_)
            refine lv_goto (tgt := 18) hx hb dX1_over_56 (by decide) ?_
            exact ih18 (k + 1) (by omega) (by omega) _ (lv_sub hl [2, 3, 1, 0] rfl)
    exact lp18 (36 - (0) + 1) (0) (by omega) (by omega) _ (lv_sub hl [2, 3, 1, 0] rfl)
  · skip
    refine lv_iconst (v := nI 0) hx hb dX1_over_12 (by decide) ?_
    exact hret (u := ()) (fun h => absurd h (by rw [c_3]; decide)) hS (fun t ht hA => ⟨va_K.moved hA hK, by rw [ht]; exact hP⟩) dX1_over_13
set_option maxHeartbeats 4000000 in
set_option maxRecDepth 100000 in
/-- headroom -/
theorem r0_headroom (l : Launch) {D : va_G} {ad : Nat → Nat} {cI : ClassId} {M : Mdl} {th : Int32} {sz : Nat} (hI : Inv M) (hnd : ndz 9 ad)  (p0 p1 : Int32) : Met l yX1_headroom wsX1_headroom (rmP 3) (va_Pc [.ref (ad 0), .int (p0), .int (p1)] (KP1S D ad cI M th sz)) (va_Qi (fun r_ (u_ : Unit) => (ixB (p0) (M 0 0) && ixB (p1) 36) = true → r_ = nI (hdr M (clN p0) (clN p1) (M 5 0))) (fun (u_ : Unit) t_ => KP1 D ad cI M (nI (cd1 (ixB (p0) (M 0 0) && ixB (p1) 36))) t_) (azs 9 ad sz)) 0 0 (azs 9 ad sz) := by
  refine mk_Qi (S := Unit) (post := fun r_ u_ => (ixB (p0) (M 0 0) && ixB (p1) 36) = true → r_ = nI (hdr M (clN p0) (clN p1) (M 5 0))) (BQ := fun u_ t_ => KP1 D ad cI M (nI (cd1 (ixB (p0) (M 0 0) && ixB (p1) 36))) t_) (cc := cX1_headroom) (maxL := 12) (by decide) rfl (Nat.le_of_ble_eq_true rfl) ?_
  intro p e s m args below meth c Q C0 B0 hret ls hl
  obtain ⟨hx, hb, hr, hml, hown, hts, hlocks⟩ := C0
  have hown : s.vm.findClass RX1 = some m.cls := hown
  obtain ⟨hsz, hK, hP⟩ := B0
  have hw0 : ∀ w ∈ wsX10, w.before args s = true := fun w h => hts w ((by decide +kernel : ∀ w ∈ wsX10, w ∈ wsX1_headroom) w h)
  subst hsz
  have hAd : ∀ i, i < 9 → azs 9 ad s.heap.size (ad i) := fun i h => azs_i h
  have hS : va_S (azs 9 ad s.heap.size) s.heap s.heap [] := va_S.rf
  have b_nw := hI.nw
  have b_nv := hI.nv
  have hl : lv_has ls 12 [(0, .ref (ad 0)), (1, .int (p0)), (2, .int (p1))] := hl
  have cut21 : ∀ ls : Array Slot, lv_has ls 12 [(0, .ref (ad 0)), (1, .int (p0)), (2, .int (p1))] → W p l e (rmP 3) s m args below meth c s.heap [] 0 0 Q (F0 m 21 ls [.int (bB (ixB (p0) (M 0 0) && ixB (p1) 36)), .ref (ad 0)]) := by
    intro ls hl
    have hz9 := hS.1
    refine va_calli (va_runV (As := [.int (bB (ixB (p0) (M 0 0) && ixB (p1) 36))]) (rest := []) ⟨hx, hb, hml, hown, hts⟩ (c1_may l (D := D) (ad := ad) (cI := cI) (M := M) (th := th) (sz := s.heap.size) hnd (ixB (p0) (M 0 0) && ixB (p1) 36)) (cwV 1 hts gX1_headroom_X1_may rfl rfl rfl (by decide +kernel) (by decide)) (pv1S hK hP) rfl rfl hl.1 rfl (lv_room (Nat.le_of_ble_eq_true rfl)) dX1_headroom_21 (by decide)) hS (fun q _ h => azs_mono hz9 h) (fun q h => azs_mono hz9 h) (fun r9 u9 t9 H1 locs1 ht9 hv9 hp9 hB9 hz1 hk1 hS1 => ?_)
    obtain ⟨b9, rfl, hb9⟩ := hp9
    subst hb9
    have hP1 := hB9.2
    rw [ht9] at hP1
    clear hP hS hB9 ht9 hv9 hz1 hk1 hz9
    have hP := hP1
    have hS := hS1
    clear hP1 hS1
    generalize H1 = H at hP hS ⊢
    generalize locs1 = locs at hS ⊢
    refine zb_Bne (tgt := 29) hx hb dX1_headroom_24 (by decide) (fun c_1 => ?_) (fun c_1 => ?_)
    · skip
      obtain ⟨w, h_w, rfl⟩ := ixB_of (by omega) (Bool.and_eq_true_iff.mp c_1).1
      have cl_w : clN (nI w) = w := clN_nI (by omega)
      obtain ⟨mo, h_mo, rfl⟩ := ixB_of (by omega) (Bool.and_eq_true_iff.mp c_1).2
      have cl_mo : clN (nI mo) = mo := clN_nI (by omega)
      have hD := d12_s (36 - mo)
      refine lv_sipush (v := nI 1000) hx hb dX1_headroom_29 (by decide) ?_
      refine lv_aload_n hx hb dX1_headroom_32 rfl (lv_at hl 0 rfl) ?_
      refine zg1 hx hb hw0 hown hK hP (by decide) rfl 4 (by decide) (hts (.fieldLink RX1 19 "WellFieldModel" "units" "[I") (by decide +kernel)) rfl rfl dX1_headroom_33 ?_
      refine lv_bipush (v := nI 36) hx hb dX1_headroom_36 (by decide) ?_
      refine lv_iload_n hx hb dX1_headroom_38 rfl (lv_at hl 1 rfl) ?_
      refine zr_imul hx hb dX1_headroom_39 ?_
      refine lv_iload_n hx hb dX1_headroom_40 rfl (lv_at hl 2 rfl) ?_
      refine zr_iadd hx hb dX1_headroom_41 ?_
      refine zi_ld hx hb hK hP 4 (by decide) 0 rfl rfl (by decide) (i := ((36) * (w)) + (mo)) (by omega) (v := nI (M (10 + 3 * (w)) (mo))) (fl_un (by omega)) dX1_headroom_42 ?_
      have f_2 := hI.un (w) (by omega) (mo)
      refine zr_isub hx hb (by omega) dX1_headroom_43 ?_
      refine zr_i2l hx hb (by omega) dX1_headroom_44 ?_
      refine lv_lstore_n (lv' := [(3, .long (lN ((1000) - (M (10 + 3 * (w)) (mo))))), (0, .ref (ad 0)), (1, .int (nI (w))), (2, .int (nI (mo)))]) hx hb dX1_headroom_45 rfl hl (by decide) rfl (fun ls hl => ?_)
      refine lv_iconst (v := nI 0) hx hb dX1_headroom_46 (by decide) ?_
      refine lv_istore (lv' := [(5, .int (nI (0))), (3, .long (lN ((1000) - (M (10 + 3 * (w)) (mo))))), (0, .ref (ad 0)), (1, .int (nI (w))), (2, .int (nI (mo)))]) hx hb dX1_headroom_47 hl (by decide) rfl (fun ls hl => ?_)
      have lp49 : ∀ (n v : Nat), v ≤ M 5 0 → M 5 0 - v < n → ∀ ls : Array Slot, lv_has ls 12 [(0, .ref (ad 0)), (1, .int (nI (w))), (2, .int (nI (mo))), (3, .long (lN (hdr M w mo (v)))), (5, .int (nI (v)))] → W p l e (rmP 3) s m args below meth c H locs 0 0 Q (F0 m 49 ls []) := by
        intro n
        induction n with
        | zero => intro v q1 q2; omega
        | succ n ih49 =>
          intro v q1_49 q2_49 ls hl
          have u_h := hdr_le M w mo v
          refine lv_iload hx hb dX1_headroom_49 (lv_at hl 4 rfl) ?_
          refine lv_aload_n hx hb dX1_headroom_51 rfl (lv_at hl 0 rfl) ?_
          refine zg1 hx hb hw0 hown hK hP (by decide) rfl 5 (by decide) (hts (.fieldLink RX1 45 "WellFieldModel" "watches" "I") (by decide +kernel)) rfl rfl dX1_headroom_52 ?_
          refine zb_ge (tgt := 163) hx hb (by omega) (by omega) dX1_headroom_55 (by decide) (fun c_3 => ?_) (fun c_3 => ?_)
          · skip
            have q_4 : v = M 5 0 := by omega
            subst q_4
            refine lv_lload_n hx hb dX1_headroom_163 rfl (lv_at hl 3 rfl) ?_
            refine zr_l2i hx hb dX1_headroom_164 ?_
            exact hret (u := ()) (fun _ => by rw [cl_w, cl_mo]) hS (fun t ht hA => ⟨va_K.moved hA hK, by rw [ht]; exact hP⟩) dX1_headroom_165
          · skip
            refine lv_iconst (v := nI 0) hx hb dX1_headroom_58 (by decide) ?_
            refine lv_istore (lv' := [(6, .int (nI (0))), (0, .ref (ad 0)), (1, .int (nI (w))), (2, .int (nI (mo))), (3, .long (lN (hdr M w mo (v)))), (5, .int (nI (v)))]) hx hb dX1_headroom_59 hl (by decide) rfl (fun ls hl => ?_)
            have lp61 : ∀ (n d : Nat), d ≤ d12 (36 - mo) → d12 (36 - mo) - d < n → ∀ ls : Array Slot, lv_has ls 12 [(0, .ref (ad 0)), (1, .int (nI (w))), (2, .int (nI (mo))), (3, .long (lN (hdi M w v mo (hdr M w mo v) (d)))), (5, .int (nI (v))), (6, .int (nI (d)))] → W p l e (rmP 3) s m args below meth c H locs 0 0 Q (F0 m 61 ls []) := by
              intro n
              induction n with
              | zero => intro d q1 q2; omega
              | succ n ih61 =>
                intro d q1_61 q2_61 ls hl
                have u_i := hdi_le M w v mo (hdr M w mo v) u_h d
                refine lv_iload hx hb dX1_headroom_61 (lv_at hl 5 rfl) ?_
                refine lv_bipush (v := nI 12) hx hb dX1_headroom_63 (by decide) ?_
                refine zb_ge (tgt := 157) hx hb (by omega) (by omega) dX1_headroom_65 (by decide) (fun c_5 => ?_) (fun c_5 => ?_)
                · skip
                  have q_6 : d = d12 (36 - mo) := by omega
                  subst q_6
                  have hl := lv_cast (l2 := [(0, .ref (ad 0)), (1, .int (nI (w))), (2, .int (nI (mo))), (3, .long (lN (hdr M w mo (v + 1)))), (5, .int (nI (v))), (6, .int (nI (d12 (36 - mo))))]) hl (by rw [show (hdr M w mo (v + 1)) = (hdi M w v mo (hdr M w mo v) (d12 (36 - mo))) from (by rw [hdi_eq _ _ _ _ _ (hdr_le M w mo v) _ hD.1]; rfl)])
                  refine lv_iinc (v := nI (v + 1)) (lv' := [(5, .int (nI (v + 1))), (0, .ref (ad 0)), (1, .int (nI (w))), (2, .int (nI (mo))), (3, .long (lN (hdr M w mo (v + 1)))), (6, .int (nI (d12 (36 - mo))))]) hx hb dX1_headroom_157 hl (k := 4) rfl (zn_inc (v)) (by decide) rfl (fun ls hl => ?_)
                  refine lv_goto (tgt := 49) hx hb dX1_headroom_160 (by decide) ?_
                  exact ih49 (v + 1) (by omega) (by omega) _ (lv_sub hl [1, 2, 3, 4, 0] rfl)
                · skip
                  refine lv_iload_n hx hb dX1_headroom_68 rfl (lv_at hl 2 rfl) ?_
                  refine lv_iload hx hb dX1_headroom_69 (lv_at hl 5 rfl) ?_
                  refine zr_iadd hx hb dX1_headroom_71 ?_
                  refine lv_bipush (v := nI 36) hx hb dX1_headroom_72 (by decide) ?_
                  refine zb_ge (tgt := 157) hx hb (by omega) (by omega) dX1_headroom_74 (by decide) (fun c_7 => ?_) (fun c_7 => ?_)
                  · skip
                    have q_8 : d = d12 (36 - mo) := by omega
                    subst q_8
                    have hl := lv_cast (l2 := [(0, .ref (ad 0)), (1, .int (nI (w))), (2, .int (nI (mo))), (3, .long (lN (hdr M w mo (v + 1)))), (5, .int (nI (v))), (6, .int (nI (d12 (36 - mo))))]) hl (by rw [show (hdr M w mo (v + 1)) = (hdi M w v mo (hdr M w mo v) (d12 (36 - mo))) from (by rw [hdi_eq _ _ _ _ _ (hdr_le M w mo v) _ hD.1]; rfl)])
                    refine lv_iinc (v := nI (v + 1)) (lv' := [(5, .int (nI (v + 1))), (0, .ref (ad 0)), (1, .int (nI (w))), (2, .int (nI (mo))), (3, .long (lN (hdr M w mo (v + 1)))), (6, .int (nI (d12 (36 - mo))))]) hx hb dX1_headroom_157 hl (k := 4) rfl (zn_inc (v)) (by decide) rfl (fun ls hl => ?_)
                    refine lv_goto (tgt := 49) hx hb dX1_headroom_160 (by decide) ?_
                    exact ih49 (v + 1) (by omega) (by omega) _ (lv_sub hl [1, 2, 3, 4, 0] rfl)
                  · skip
                    refine lv_aload_n hx hb dX1_headroom_77 rfl (lv_at hl 0 rfl) ?_
                    refine lv_iload_n hx hb dX1_headroom_78 rfl (lv_at hl 1 rfl) ?_
                    refine lv_iload hx hb dX1_headroom_79 (lv_at hl 4 rfl) ?_
                    refine lv_iload hx hb dX1_headroom_81 (lv_at hl 5 rfl) ?_
                    refine vp_callSi (W.runV (As := [.int (nI (w)), .int (nI (v)), .int (nI (d))]) (rest := []) ⟨hx, hb, hml, hown, hts⟩ (c1_answer l hI (w := w) (v := v) (d := d) (by omega) (by omega) (by omega)) (cwV 3 hts gX1_headroom_X1_answer rfl rfl rfl (by decide +kernel) (by decide)) (pv1 hK hP) rfl rfl hl.1 rfl (lv_room (Nat.le_of_ble_eq_true rfl)) dX1_headroom_83 (by decide)) (fun r_9 hr_9 => ?_)
                    subst hr_9
                    have f_10 := ans_le hI (w) (v) (d)
                    refine lv_istore (lv' := [(7, .int (nI (ans M (w) (v) (d)))), (0, .ref (ad 0)), (1, .int (nI (w))), (2, .int (nI (mo))), (3, .long (lN (hdi M w v mo (hdr M w mo v) (d)))), (5, .int (nI (v))), (6, .int (nI (d)))]) hx hb dX1_headroom_86 hl (by decide) rfl (fun ls hl => ?_)
                    refine lv_iload hx hb dX1_headroom_88 (lv_at hl 0 rfl) ?_
                    refine zb_0le (tgt := 151) hx hb (by omega) dX1_headroom_90 (by decide) (fun c_11 => ?_) (fun c_11 => ?_)
                    · skip
                      have hl := lv_cast (l2 := [(7, .int (nI (ans M (w) (v) (d)))), (0, .ref (ad 0)), (1, .int (nI (w))), (2, .int (nI (mo))), (3, .long (lN (hdi M w v mo (hdr M w mo v) (d + 1)))), (5, .int (nI (v))), (6, .int (nI (d)))]) hl (by rw [show (hdi M w v mo (hdr M w mo v) (d + 1)) = (hdi M w v mo (hdr M w mo v) (d)) from (by show (if 0 < ans M w v d then _ else _) = _; split <;> first | rfl | omega)])
                      refine lv_iinc (v := nI (d + 1)) (lv' := [(6, .int (nI (d + 1))), (7, .int (nI (ans M (w) (v) (d)))), (0, .ref (ad 0)), (1, .int (nI (w))), (2, .int (nI (mo))), (3, .long (lN (hdi M w v mo (hdr M w mo v) (d + 1)))), (5, .int (nI (v)))]) hx hb dX1_headroom_151 hl (k := 6) rfl (zn_inc (d)) (by decide) rfl (fun ls hl => ?_)
                      refine lv_goto (tgt := 61) hx hb dX1_headroom_154 (by decide) ?_
                      exact ih61 (d + 1) (by omega) (by omega) _ (lv_sub hl [2, 3, 4, 5, 6, 0] rfl)
                    · skip
                      refine lv_ldc2 (own := RX1) (v := 1000) hx hb hown (hts (.constantLong RX1 84 1000) (by decide +kernel)) dX1_headroom_93 ?_
                      refine zt_l (y := lN 1000) rfl ?_
                      refine lv_aload_n hx hb dX1_headroom_96 rfl (lv_at hl 1 rfl) ?_
                      refine zg1 hx hb hw0 hown hK hP (by decide) rfl 7 (by decide) (hts (.fieldLink RX1 25 "WellFieldModel" "limit" "[I") (by decide +kernel)) rfl rfl dX1_headroom_97 ?_
                      refine lv_iload hx hb dX1_headroom_100 (lv_at hl 5 rfl) ?_
                      refine zi_ld hx hb hK hP 6 (by decide) 0 rfl rfl (by decide) (i := v) (by omega) (v := nI (M 7 (v))) rfl dX1_headroom_102 ?_
                      have f_12 := hI.lm (v)
                      refine zr_i2l hx hb (by omega) dX1_headroom_103 ?_
                      refine zr_lmul hx hb dX1_headroom_104 ?_
                      refine lv_aload_n hx hb dX1_headroom_105 rfl (lv_at hl 1 rfl) ?_
                      refine lv_iload hx hb dX1_headroom_106 (lv_at hl 5 rfl) ?_
                      refine lv_iload_n hx hb dX1_headroom_108 rfl (lv_at hl 3 rfl) ?_
                      refine lv_iload hx hb dX1_headroom_109 (lv_at hl 6 rfl) ?_
                      refine zr_iadd hx hb dX1_headroom_111 ?_
                      refine vp_callSl (W.runV (As := [.int (nI (v)), .int (nI ((mo) + (d)))]) (rest := [.long (lN ((1000) * (M 7 (v))))]) ⟨hx, hb, hml, hown, hts⟩ (c1_drawdownOf l hI (v := v) (mo := (mo) + (d)) (by omega) (by omega)) (cwV 2 hts gX1_headroom_X1_drawdownOf rfl rfl rfl (by decide +kernel) (by decide)) (pv1 hK hP) rfl rfl hl.1 rfl (lv_room (Nat.le_of_ble_eq_true rfl)) dX1_headroom_112 (by decide)) (fun r_13 hr_13 => ?_)
                      subst hr_13
                      have f_14 := dd_le hI (v) ((mo) + (d))
                      refine lv_lsub hx hb dX1_headroom_115 ?_
                      refine lv_lstore (lv' := [(8, .long (lN ((1000) * (M 7 (v))) - lN (dd M (v) ((mo) + (d))))), (7, .int (nI (ans M (w) (v) (d)))), (0, .ref (ad 0)), (1, .int (nI (w))), (2, .int (nI (mo))), (3, .long (lN (hdi M w v mo (hdr M w mo v) (d)))), (5, .int (nI (v))), (6, .int (nI (d)))]) hx hb dX1_headroom_116 hl (by decide) rfl (fun ls hl => ?_)
                      refine lv_lload hx hb dX1_headroom_118 (lv_at hl 0 rfl) ?_
                      refine lv_lconst (v := lN 0) hx hb dX1_headroom_120 (by decide) ?_
                      refine zbS_ge (tgt := 129) hx hb (by omega) (by omega) dX1_headroom_121 dX1_headroom_122 (by decide) (fun c_15 => ?_) (fun c_15 => ?_)
                      · skip
                        refine lv_lload hx hb dX1_headroom_129 (lv_at hl 0 rfl) ?_
                        refine zt_l (y := lN ((1000 * M 7 v - dd M v (mo + d)))) (lN_sub (by omega)) ?_
                        refine lv_iload hx hb dX1_headroom_131 (lv_at hl 1 rfl) ?_
                        refine zr_i2l hx hb (by omega) dX1_headroom_133 ?_
                        refine zr_ldiv hx hb (by omega) (by omega) (by omega) dX1_headroom_134 ?_
                        have fdl := Nat.div_le_self (1000 * M 7 v - dd M v (mo + d)) (ans M w v d)
                        refine zt_l (y := lN ((1000 * M 7 v - dd M v (mo + d)) / ans M w v d)) rfl ?_
                        refine lv_lstore (lv' := [(10, .long (lN ((1000 * M 7 v - dd M v (mo + d)) / ans M w v d))), (8, .long (lN ((1000) * (M 7 (v))) - lN (dd M (v) ((mo) + (d))))), (7, .int (nI (ans M (w) (v) (d)))), (0, .ref (ad 0)), (1, .int (nI (w))), (2, .int (nI (mo))), (3, .long (lN (hdi M w v mo (hdr M w mo v) (d)))), (5, .int (nI (v))), (6, .int (nI (d)))]) hx hb dX1_headroom_135 hl (by decide) rfl (fun ls hl => ?_)
                        refine lv_lload hx hb dX1_headroom_137 (lv_at hl 0 rfl) ?_
                        refine lv_lload_n hx hb dX1_headroom_139 rfl (lv_at hl 6 rfl) ?_
                        refine zbL_ge (tgt := 149) hx hb (by omega) (by omega) dX1_headroom_140 dX1_headroom_141 (by decide) (fun c_16 => ?_) (fun c_16 => ?_)
                        · skip
                          refine lv_lload_n hx hb dX1_headroom_149 rfl (lv_at hl 6 rfl) ?_
                          refine lv_lstore_n (lv' := [(3, .long (lN (hdi M w v mo (hdr M w mo v) (d)))), (10, .long (lN ((1000 * M 7 v - dd M v (mo + d)) / ans M w v d))), (8, .long (lN ((1000) * (M 7 (v))) - lN (dd M (v) ((mo) + (d))))), (7, .int (nI (ans M (w) (v) (d)))), (0, .ref (ad 0)), (1, .int (nI (w))), (2, .int (nI (mo))), (5, .int (nI (v))), (6, .int (nI (d)))]) hx hb dX1_headroom_150 rfl hl (by decide) rfl (fun ls hl => ?_)
                          have hl := lv_cast (l2 := [(3, .long (lN (hdi M w v mo (hdr M w mo v) (d + 1)))), (10, .long (lN ((1000 * M 7 v - dd M v (mo + d)) / ans M w v d))), (8, .long (lN ((1000) * (M 7 (v))) - lN (dd M (v) ((mo) + (d))))), (7, .int (nI (ans M (w) (v) (d)))), (0, .ref (ad 0)), (1, .int (nI (w))), (2, .int (nI (mo))), (5, .int (nI (v))), (6, .int (nI (d)))]) hl (by rw [show (hdi M w v mo (hdr M w mo v) (d + 1)) = (hdi M w v mo (hdr M w mo v) (d)) from (by show (if 0 < ans M w v d then _ else _) = _; split <;> first | rfl | omega)])
                          refine lv_iinc (v := nI (d + 1)) (lv' := [(6, .int (nI (d + 1))), (3, .long (lN (hdi M w v mo (hdr M w mo v) (d + 1)))), (10, .long (lN ((1000 * M 7 v - dd M v (mo + d)) / ans M w v d))), (8, .long (lN ((1000) * (M 7 (v))) - lN (dd M (v) ((mo) + (d))))), (7, .int (nI (ans M (w) (v) (d)))), (0, .ref (ad 0)), (1, .int (nI (w))), (2, .int (nI (mo))), (5, .int (nI (v)))]) hx hb dX1_headroom_151 hl (k := 8) rfl (zn_inc (d)) (by decide) rfl (fun ls hl => ?_)
                          refine lv_goto (tgt := 61) hx hb dX1_headroom_154 (by decide) ?_
                          exact ih61 (d + 1) (by omega) (by omega) _ (lv_sub hl [5, 6, 7, 1, 8, 0] rfl)
                        · skip
                          refine lv_lload hx hb dX1_headroom_144 (lv_at hl 0 rfl) ?_
                          refine lv_goto (tgt := 150) hx hb dX1_headroom_146 (by decide) ?_
                          refine lv_lstore_n (lv' := [(3, .long (lN ((1000 * M 7 v - dd M v (mo + d)) / ans M w v d))), (10, .long (lN ((1000 * M 7 v - dd M v (mo + d)) / ans M w v d))), (8, .long (lN ((1000) * (M 7 (v))) - lN (dd M (v) ((mo) + (d))))), (7, .int (nI (ans M (w) (v) (d)))), (0, .ref (ad 0)), (1, .int (nI (w))), (2, .int (nI (mo))), (5, .int (nI (v))), (6, .int (nI (d)))]) hx hb dX1_headroom_150 rfl hl (by decide) rfl (fun ls hl => ?_)
                          have hl := lv_cast (l2 := [(3, .long (lN (hdi M w v mo (hdr M w mo v) (d + 1)))), (10, .long (lN ((1000 * M 7 v - dd M v (mo + d)) / ans M w v d))), (8, .long (lN ((1000) * (M 7 (v))) - lN (dd M (v) ((mo) + (d))))), (7, .int (nI (ans M (w) (v) (d)))), (0, .ref (ad 0)), (1, .int (nI (w))), (2, .int (nI (mo))), (5, .int (nI (v))), (6, .int (nI (d)))]) hl (by rw [show (hdi M w v mo (hdr M w mo v) (d + 1)) = ((1000 * M 7 v - dd M v (mo + d)) / ans M w v d) from (by show (if 0 < ans M w v d then _ else _) = _; split <;> first | rfl | omega)])
                          refine lv_iinc (v := nI (d + 1)) (lv' := [(6, .int (nI (d + 1))), (3, .long (lN (hdi M w v mo (hdr M w mo v) (d + 1)))), (10, .long (lN ((1000 * M 7 v - dd M v (mo + d)) / ans M w v d))), (8, .long (lN ((1000) * (M 7 (v))) - lN (dd M (v) ((mo) + (d))))), (7, .int (nI (ans M (w) (v) (d)))), (0, .ref (ad 0)), (1, .int (nI (w))), (2, .int (nI (mo))), (5, .int (nI (v)))]) hx hb dX1_headroom_151 hl (k := 8) rfl (zn_inc (d)) (by decide) rfl (fun ls hl => ?_)
                          refine lv_goto (tgt := 61) hx hb dX1_headroom_154 (by decide) ?_
                          exact ih61 (d + 1) (by omega) (by omega) _ (lv_sub hl [5, 6, 7, 1, 8, 0] rfl)
                      · skip
                        refine lv_lconst (v := lN 0) hx hb dX1_headroom_125 (by decide) ?_
                        refine lv_goto (tgt := 135) hx hb dX1_headroom_126 (by decide) ?_
                        have fdl := Nat.div_le_self (1000 * M 7 v - dd M v (mo + d)) (ans M w v d)
                        refine zt_l (y := lN ((1000 * M 7 v - dd M v (mo + d)) / ans M w v d)) (congrArg lN (by rw [show (1000 * M 7 v - dd M v (mo + d)) = 0 by omega, Nat.zero_div])) ?_
                        refine lv_lstore (lv' := [(10, .long (lN ((1000 * M 7 v - dd M v (mo + d)) / ans M w v d))), (8, .long (lN ((1000) * (M 7 (v))) - lN (dd M (v) ((mo) + (d))))), (7, .int (nI (ans M (w) (v) (d)))), (0, .ref (ad 0)), (1, .int (nI (w))), (2, .int (nI (mo))), (3, .long (lN (hdi M w v mo (hdr M w mo v) (d)))), (5, .int (nI (v))), (6, .int (nI (d)))]) hx hb dX1_headroom_135 hl (by decide) rfl (fun ls hl => ?_)
                        refine lv_lload hx hb dX1_headroom_137 (lv_at hl 0 rfl) ?_
                        refine lv_lload_n hx hb dX1_headroom_139 rfl (lv_at hl 6 rfl) ?_
                        refine zbL_ge (tgt := 149) hx hb (by omega) (by omega) dX1_headroom_140 dX1_headroom_141 (by decide) (fun c_17 => ?_) (fun c_17 => ?_)
                        · skip
                          refine lv_lload_n hx hb dX1_headroom_149 rfl (lv_at hl 6 rfl) ?_
                          refine lv_lstore_n (lv' := [(3, .long (lN (hdi M w v mo (hdr M w mo v) (d)))), (10, .long (lN ((1000 * M 7 v - dd M v (mo + d)) / ans M w v d))), (8, .long (lN ((1000) * (M 7 (v))) - lN (dd M (v) ((mo) + (d))))), (7, .int (nI (ans M (w) (v) (d)))), (0, .ref (ad 0)), (1, .int (nI (w))), (2, .int (nI (mo))), (5, .int (nI (v))), (6, .int (nI (d)))]) hx hb dX1_headroom_150 rfl hl (by decide) rfl (fun ls hl => ?_)
                          have hl := lv_cast (l2 := [(3, .long (lN (hdi M w v mo (hdr M w mo v) (d + 1)))), (10, .long (lN ((1000 * M 7 v - dd M v (mo + d)) / ans M w v d))), (8, .long (lN ((1000) * (M 7 (v))) - lN (dd M (v) ((mo) + (d))))), (7, .int (nI (ans M (w) (v) (d)))), (0, .ref (ad 0)), (1, .int (nI (w))), (2, .int (nI (mo))), (5, .int (nI (v))), (6, .int (nI (d)))]) hl (by rw [show (hdi M w v mo (hdr M w mo v) (d + 1)) = (hdi M w v mo (hdr M w mo v) (d)) from (by show (if 0 < ans M w v d then _ else _) = _; split <;> first | rfl | omega)])
                          refine lv_iinc (v := nI (d + 1)) (lv' := [(6, .int (nI (d + 1))), (3, .long (lN (hdi M w v mo (hdr M w mo v) (d + 1)))), (10, .long (lN ((1000 * M 7 v - dd M v (mo + d)) / ans M w v d))), (8, .long (lN ((1000) * (M 7 (v))) - lN (dd M (v) ((mo) + (d))))), (7, .int (nI (ans M (w) (v) (d)))), (0, .ref (ad 0)), (1, .int (nI (w))), (2, .int (nI (mo))), (5, .int (nI (v)))]) hx hb dX1_headroom_151 hl (k := 8) rfl (zn_inc (d)) (by decide) rfl (fun ls hl => ?_)
                          refine lv_goto (tgt := 61) hx hb dX1_headroom_154 (by decide) ?_
                          exact ih61 (d + 1) (by omega) (by omega) _ (lv_sub hl [5, 6, 7, 1, 8, 0] rfl)
                        · skip
                          refine lv_lload hx hb dX1_headroom_144 (lv_at hl 0 rfl) ?_
                          refine lv_goto (tgt := 150) hx hb dX1_headroom_146 (by decide) ?_
                          refine lv_lstore_n (lv' := [(3, .long (lN ((1000 * M 7 v - dd M v (mo + d)) / ans M w v d))), (10, .long (lN ((1000 * M 7 v - dd M v (mo + d)) / ans M w v d))), (8, .long (lN ((1000) * (M 7 (v))) - lN (dd M (v) ((mo) + (d))))), (7, .int (nI (ans M (w) (v) (d)))), (0, .ref (ad 0)), (1, .int (nI (w))), (2, .int (nI (mo))), (5, .int (nI (v))), (6, .int (nI (d)))]) hx hb dX1_headroom_150 rfl hl (by decide) rfl (fun ls hl => ?_)
                          have hl := lv_cast (l2 := [(3, .long (lN (hdi M w v mo (hdr M w mo v) (d + 1)))), (10, .long (lN ((1000 * M 7 v - dd M v (mo + d)) / ans M w v d))), (8, .long (lN ((1000) * (M 7 (v))) - lN (dd M (v) ((mo) + (d))))), (7, .int (nI (ans M (w) (v) (d)))), (0, .ref (ad 0)), (1, .int (nI (w))), (2, .int (nI (mo))), (5, .int (nI (v))), (6, .int (nI (d)))]) hl (by rw [show (hdi M w v mo (hdr M w mo v) (d + 1)) = ((1000 * M 7 v - dd M v (mo + d)) / ans M w v d) from (by show (if 0 < ans M w v d then _ else _) = _; split <;> first | rfl | omega)])
                          refine lv_iinc (v := nI (d + 1)) (lv' := [(6, .int (nI (d + 1))), (3, .long (lN (hdi M w v mo (hdr M w mo v) (d + 1)))), (10, .long (lN ((1000 * M 7 v - dd M v (mo + d)) / ans M w v d))), (8, .long (lN ((1000) * (M 7 (v))) - lN (dd M (v) ((mo) + (d))))), (7, .int (nI (ans M (w) (v) (d)))), (0, .ref (ad 0)), (1, .int (nI (w))), (2, .int (nI (mo))), (5, .int (nI (v)))]) hx hb dX1_headroom_151 hl (k := 8) rfl (zn_inc (d)) (by decide) rfl (fun ls hl => ?_)
                          refine lv_goto (tgt := 61) hx hb dX1_headroom_154 (by decide) ?_
                          exact ih61 (d + 1) (by omega) (by omega) _ (lv_sub hl [5, 6, 7, 1, 8, 0] rfl)
            exact lp61 (d12 (36 - mo) - (0) + 1) (0) (by omega) (by omega) _ (lv_sub hl [1, 2, 3, 4, 5, 0] rfl)
      exact lp49 (M 5 0 - (0) + 1) (0) (by omega) (by omega) _ (lv_sub hl [2, 3, 4, 1, 0] rfl)
    · skip
      refine lv_iconst (v := nI 0) hx hb dX1_headroom_27 (by decide) ?_
      exact hret (u := ()) (fun h => absurd h (by rw [c_1]; decide)) hS (fun t ht hA => ⟨va_K.moved hA hK, by rw [ht]; exact hP⟩) dX1_headroom_28
  refine lv_aload_n hx hb dX1_headroom_0 rfl (lv_at hl 0 rfl) ?_
  refine lv_aload_n hx hb dX1_headroom_1 rfl (lv_at hl 0 rfl) ?_
  refine lv_iload_n hx hb dX1_headroom_2 rfl (lv_at hl 1 rfl) ?_
  refine vp_callSi (W.runV (As := [.int (p0)]) (rest := [.ref (ad 0)]) ⟨hx, hb, hml, hown, hts⟩ (c1_isWell l hI (p0)) (cwV 1 hts gX1_headroom_X1_isWell rfl rfl rfl (by decide +kernel) (by decide)) (pv1 hK hP) rfl rfl hl.1 rfl (lv_room (Nat.le_of_ble_eq_true rfl)) dX1_headroom_3 (by decide)) (fun r_18 hr_18 => ?_)
  obtain ⟨b_19, rfl, hb_19⟩ := hr_18
  subst hb_19
  refine zb_Beq (tgt := 20) hx hb dX1_headroom_6 (by decide) (fun c_20 => ?_) (fun c_20 => ?_)
  · skip
    refine lv_iconst (v := nI 0) hx hb dX1_headroom_20 (by decide) ?_
    refine zt_i (y := bB (ixB (p0) (M 0 0) && ixB (p1) 36)) (bB_0.trans (congrArg bB (by simp [c_20]))) ?_
    exact cut21 _ (lv_sub hl [0, 1, 2] rfl)
  · skip
    refine lv_iload_n hx hb dX1_headroom_9 rfl (lv_at hl 2 rfl) ?_
    refine vp_callSi (W.runS (As := [.int (p1)]) (rest := [.ref (ad 0)]) ⟨hx, hb, hml, hown, hts⟩ (c1_isMonth l (p1)) (va_cwS 1 hts gX1_headroom_X1_isMonth rfl rfl rfl (by decide +kernel) (by decide)) psN rfl rfl hl.1 rfl (lv_room (Nat.le_of_ble_eq_true rfl)) dX1_headroom_10 (by decide)) (fun r_21 hr_21 => ?_)
    obtain ⟨b_22, rfl, hb_22⟩ := hr_21
    subst hb_22
    refine zb_Beq (tgt := 20) hx hb dX1_headroom_13 (by decide) (fun c_23 => ?_) (fun c_23 => ?_)
    · skip
      refine lv_iconst (v := nI 0) hx hb dX1_headroom_20 (by decide) ?_
      refine zt_i (y := bB (ixB (p0) (M 0 0) && ixB (p1) 36)) (bB_0.trans (congrArg bB (by simp [c_20, c_23]))) ?_
      exact cut21 _ (lv_sub hl [0, 1, 2] rfl)
    · skip
      refine lv_iconst (v := nI 1) hx hb dX1_headroom_16 (by decide) ?_
      refine lv_goto (tgt := 21) hx hb dX1_headroom_17 (by decide) ?_
      refine zt_i (y := bB (ixB (p0) (M 0 0) && ixB (p1) 36)) (bB_1.trans (congrArg bB (by simp [c_20, c_23]))) ?_
      exact cut21 _ (lv_sub hl [0, 1, 2] rfl)
set_option maxHeartbeats 4000000 in
set_option maxRecDepth 100000 in
/-- heaviest -/
theorem r0_heaviest (l : Launch) {D : va_G} {ad : Nat → Nat} {cI : ClassId} {M : Mdl} {th : Int32} {sz : Nat} (hI : Inv M) (hnd : ndz 9 ad)  (p0 p1 : Int32) : Met l yX1_heaviest wsX1_heaviest (rmP 3) (va_Pc [.ref (ad 0), .int (p0), .int (p1)] (KP1S D ad cI M th sz)) (va_Qi (fun r_ (u_ : Unit) => (ixB (p0) (M 5 0) && ixB (p1) 36) = true → r_ = hvb M (clN p0) (clN p1) (M 0 0)) (fun (u_ : Unit) t_ => KP1 D ad cI M (nI (cd1 (ixB (p0) (M 5 0) && ixB (p1) 36))) t_) (azs 9 ad sz)) 0 0 (azs 9 ad sz) := by
  refine mk_Qi (S := Unit) (post := fun r_ u_ => (ixB (p0) (M 5 0) && ixB (p1) 36) = true → r_ = hvb M (clN p0) (clN p1) (M 0 0)) (BQ := fun u_ t_ => KP1 D ad cI M (nI (cd1 (ixB (p0) (M 5 0) && ixB (p1) 36))) t_) (cc := cX1_heaviest) (maxL := 8) (by decide) rfl (Nat.le_of_ble_eq_true rfl) ?_
  intro p e s m args below meth c Q C0 B0 hret ls hl
  obtain ⟨hx, hb, hr, hml, hown, hts, hlocks⟩ := C0
  have hown : s.vm.findClass RX1 = some m.cls := hown
  obtain ⟨hsz, hK, hP⟩ := B0
  have hw0 : ∀ w ∈ wsX10, w.before args s = true := fun w h => hts w ((by decide +kernel : ∀ w ∈ wsX10, w ∈ wsX1_heaviest) w h)
  subst hsz
  have hAd : ∀ i, i < 9 → azs 9 ad s.heap.size (ad i) := fun i h => azs_i h
  have hS : va_S (azs 9 ad s.heap.size) s.heap s.heap [] := va_S.rf
  have b_nw := hI.nw
  have b_nv := hI.nv
  have hl : lv_has ls 8 [(0, .ref (ad 0)), (1, .int (p0)), (2, .int (p1))] := hl
  have cut21 : ∀ ls : Array Slot, lv_has ls 8 [(0, .ref (ad 0)), (1, .int (p0)), (2, .int (p1))] → W p l e (rmP 3) s m args below meth c s.heap [] 0 0 Q (F0 m 21 ls [.int (bB (ixB (p0) (M 5 0) && ixB (p1) 36)), .ref (ad 0)]) := by
    intro ls hl
    have hz9 := hS.1
    refine va_calli (va_runV (As := [.int (bB (ixB (p0) (M 5 0) && ixB (p1) 36))]) (rest := []) ⟨hx, hb, hml, hown, hts⟩ (c1_may l (D := D) (ad := ad) (cI := cI) (M := M) (th := th) (sz := s.heap.size) hnd (ixB (p0) (M 5 0) && ixB (p1) 36)) (cwV 1 hts gX1_heaviest_X1_may rfl rfl rfl (by decide +kernel) (by decide)) (pv1S hK hP) rfl rfl hl.1 rfl (lv_room (Nat.le_of_ble_eq_true rfl)) dX1_heaviest_21 (by decide)) hS (fun q _ h => azs_mono hz9 h) (fun q h => azs_mono hz9 h) (fun r9 u9 t9 H1 locs1 ht9 hv9 hp9 hB9 hz1 hk1 hS1 => ?_)
    obtain ⟨b9, rfl, hb9⟩ := hp9
    subst hb9
    have hP1 := hB9.2
    rw [ht9] at hP1
    clear hP hS hB9 ht9 hv9 hz1 hk1 hz9
    have hP := hP1
    have hS := hS1
    clear hP1 hS1
    generalize H1 = H at hP hS ⊢
    generalize locs1 = locs at hS ⊢
    refine zb_Bne (tgt := 29) hx hb dX1_heaviest_24 (by decide) (fun c_1 => ?_) (fun c_1 => ?_)
    · skip
      obtain ⟨v, h_v, rfl⟩ := ixB_of (by omega) (Bool.and_eq_true_iff.mp c_1).1
      have cl_v : clN (nI v) = v := clN_nI (by omega)
      obtain ⟨mo, h_mo, rfl⟩ := ixB_of (by omega) (Bool.and_eq_true_iff.mp c_1).2
      have cl_mo : clN (nI mo) = mo := clN_nI (by omega)
      have hD := d12_s (36 - mo)
      refine lv_iconst (v := (-1)) hx hb dX1_heaviest_29 (by decide) ?_
      refine lv_istore_n (lv' := [(3, .int (-1)), (0, .ref (ad 0)), (1, .int (nI (v))), (2, .int (nI (mo)))]) hx hb dX1_heaviest_30 rfl hl (by decide) rfl (fun ls hl => ?_)
      refine lv_iconst (v := nI 0) hx hb dX1_heaviest_31 (by decide) ?_
      refine lv_istore (lv' := [(4, .int (nI (0))), (3, .int (-1)), (0, .ref (ad 0)), (1, .int (nI (v))), (2, .int (nI (mo)))]) hx hb dX1_heaviest_32 hl (by decide) rfl (fun ls hl => ?_)
      refine lv_iconst (v := nI 0) hx hb dX1_heaviest_34 (by decide) ?_
      refine lv_istore (lv' := [(5, .int (nI (0))), (4, .int (nI (0))), (3, .int (-1)), (0, .ref (ad 0)), (1, .int (nI (v))), (2, .int (nI (mo)))]) hx hb dX1_heaviest_35 hl (by decide) rfl (fun ls hl => ?_)
      have lp37 : ∀ (n w : Nat), w ≤ M 0 0 → M 0 0 - w < n → ∀ ls : Array Slot, lv_has ls 8 [(0, .ref (ad 0)), (1, .int (nI (v))), (2, .int (nI (mo))), (3, .int (hvb M v mo (w))), (4, .int (nI (hvm M v mo (w)))), (5, .int (nI (w)))] → W p l e (rmP 3) s m args below meth c H locs 0 0 Q (F0 m 37 ls []) := by
        intro n
        induction n with
        | zero => intro w q1 q2; omega
        | succ n ih37 =>
          intro w q1_37 q2_37 ls hl
          have u_h := hvm_le hI v mo w (by omega)
          refine lv_iload hx hb dX1_heaviest_37 (lv_at hl 5 rfl) ?_
          refine lv_aload_n hx hb dX1_heaviest_39 rfl (lv_at hl 0 rfl) ?_
          refine zg1 hx hb hw0 hown hK hP (by decide) rfl 0 (by decide) (hts (.fieldLink RX1 38 "WellFieldModel" "wells" "I") (by decide +kernel)) rfl rfl dX1_heaviest_40 ?_
          refine zb_ge (tgt := 121) hx hb (by omega) (by omega) dX1_heaviest_43 (by decide) (fun c_2 => ?_) (fun c_2 => ?_)
          · skip
            have q_3 : w = M 0 0 := by omega
            subst q_3
            refine lv_iload_n hx hb dX1_heaviest_121 rfl (lv_at hl 3 rfl) ?_
            exact hret (u := ()) (fun _ => by rw [cl_v, cl_mo]) hS (fun t ht hA => ⟨va_K.moved hA hK, by rw [ht]; exact hP⟩) dX1_heaviest_122
          · skip
            refine lv_iconst (v := nI 0) hx hb dX1_heaviest_46 (by decide) ?_
            refine lv_istore (lv' := [(6, .int (nI (0))), (0, .ref (ad 0)), (1, .int (nI (v))), (2, .int (nI (mo))), (3, .int (hvb M v mo (w))), (4, .int (nI (hvm M v mo (w)))), (5, .int (nI (w)))]) hx hb dX1_heaviest_47 hl (by decide) rfl (fun ls hl => ?_)
            refine lv_iconst (v := nI 0) hx hb dX1_heaviest_49 (by decide) ?_
            refine lv_istore (lv' := [(7, .int (nI (0))), (6, .int (nI (0))), (0, .ref (ad 0)), (1, .int (nI (v))), (2, .int (nI (mo))), (3, .int (hvb M v mo (w))), (4, .int (nI (hvm M v mo (w)))), (5, .int (nI (w)))]) hx hb dX1_heaviest_50 hl (by decide) rfl (fun ls hl => ?_)
            have lp52 : ∀ (n d : Nat), d ≤ d12 (36 - mo) → d12 (36 - mo) - d < n → ∀ ls : Array Slot, lv_has ls 8 [(0, .ref (ad 0)), (1, .int (nI (v))), (2, .int (nI (mo))), (3, .int (hvb M v mo (w))), (4, .int (nI (hvm M v mo (w)))), (5, .int (nI (w))), (6, .int (nI (ssum (fun d => M (10 + 3 * w) mo * ans M w v d) (d)))), (7, .int (nI (d)))] → W p l e (rmP 3) s m args below meth c H locs 0 0 Q (F0 m 52 ls []) := by
              intro n
              induction n with
              | zero => intro d q1 q2; omega
              | succ n ih52 =>
                intro d q1_52 q2_52 ls hl
                refine lv_iload hx hb dX1_heaviest_52 (lv_at hl 7 rfl) ?_
                refine lv_bipush (v := nI 12) hx hb dX1_heaviest_54 (by decide) ?_
                refine zb_ge (tgt := 101) hx hb (by omega) (by omega) dX1_heaviest_56 (by decide) (fun c_4 => ?_) (fun c_4 => ?_)
                · skip
                  have q_5 : d = d12 (36 - mo) := by omega
                  subst q_5
                  have hl := lv_cast (l2 := [(0, .ref (ad 0)), (1, .int (nI (v))), (2, .int (nI (mo))), (3, .int (hvb M v mo (w))), (4, .int (nI (hvm M v mo (w)))), (5, .int (nI (w))), (6, .int (nI (lia M w v mo))), (7, .int (nI (d12 (36 - mo))))]) hl (by rw [show (lia M w v mo) = (ssum (fun d => M (10 + 3 * w) mo * ans M w v d) (d12 (36 - mo))) from (ssum_congr (fun d hd => by rw [ans_tb (by omega)]))])
                  have u_l := lia_le hI (w := w) (by omega) v mo
                  refine lv_iload hx hb dX1_heaviest_101 (lv_at hl 6 rfl) ?_
                  refine lv_iload hx hb dX1_heaviest_103 (lv_at hl 4 rfl) ?_
                  refine zb_le (tgt := 115) hx hb (by omega) (by omega) dX1_heaviest_105 (by decide) (fun c_6 => ?_) (fun c_6 => ?_)
                  · skip
                    have hl := lv_cast (l2 := [(0, .ref (ad 0)), (1, .int (nI (v))), (2, .int (nI (mo))), (3, .int (hvb M v mo (w + 1))), (4, .int (nI (hvm M v mo (w)))), (5, .int (nI (w))), (6, .int (nI (lia M w v mo))), (7, .int (nI (d12 (36 - mo))))]) hl (by rw [show (hvb M v mo (w + 1)) = (hvb M v mo (w)) from (by show (if hvm M v mo w < lia M w v mo then _ else _) = _; split <;> first | rfl | omega)])
                    have hl := lv_cast (l2 := [(0, .ref (ad 0)), (1, .int (nI (v))), (2, .int (nI (mo))), (3, .int (hvb M v mo (w + 1))), (4, .int (nI (hvm M v mo (w + 1)))), (5, .int (nI (w))), (6, .int (nI (lia M w v mo))), (7, .int (nI (d12 (36 - mo))))]) hl (by rw [show (hvm M v mo (w + 1)) = (hvm M v mo (w)) from (by show (if hvm M v mo w < lia M w v mo then _ else _) = _; split <;> first | rfl | omega)])
                    refine lv_iinc (v := nI (w + 1)) (lv' := [(5, .int (nI (w + 1))), (0, .ref (ad 0)), (1, .int (nI (v))), (2, .int (nI (mo))), (3, .int (hvb M v mo (w + 1))), (4, .int (nI (hvm M v mo (w + 1)))), (6, .int (nI (lia M w v mo))), (7, .int (nI (d12 (36 - mo))))]) hx hb dX1_heaviest_115 hl (k := 5) rfl (zn_inc (w)) (by decide) rfl (fun ls hl => ?_)
                    refine lv_goto (tgt := 37) hx hb dX1_heaviest_118 (by decide) ?_
                    exact ih37 (w + 1) (by omega) (by omega) _ (lv_sub hl [1, 2, 3, 4, 5, 0] rfl)
                  · skip
                    refine lv_iload hx hb dX1_heaviest_108 (lv_at hl 5 rfl) ?_
                    refine lv_istore_n (lv' := [(3, .int (nI (w))), (0, .ref (ad 0)), (1, .int (nI (v))), (2, .int (nI (mo))), (4, .int (nI (hvm M v mo (w)))), (5, .int (nI (w))), (6, .int (nI (lia M w v mo))), (7, .int (nI (d12 (36 - mo))))]) hx hb dX1_heaviest_110 rfl hl (by decide) rfl (fun ls hl => ?_)
                    refine lv_iload hx hb dX1_heaviest_111 (lv_at hl 6 rfl) ?_
                    refine lv_istore (lv' := [(4, .int (nI (lia M w v mo))), (3, .int (nI (w))), (0, .ref (ad 0)), (1, .int (nI (v))), (2, .int (nI (mo))), (5, .int (nI (w))), (6, .int (nI (lia M w v mo))), (7, .int (nI (d12 (36 - mo))))]) hx hb dX1_heaviest_113 hl (by decide) rfl (fun ls hl => ?_)
                    have hl := lv_cast (l2 := [(4, .int (nI (lia M w v mo))), (3, .int (hvb M v mo (w + 1))), (0, .ref (ad 0)), (1, .int (nI (v))), (2, .int (nI (mo))), (5, .int (nI (w))), (6, .int (nI (lia M w v mo))), (7, .int (nI (d12 (36 - mo))))]) hl (by rw [show (hvb M v mo (w + 1)) = nI (w) from (by show (if hvm M v mo w < lia M w v mo then _ else _) = _; split <;> first | rfl | omega)])
                    have hl := lv_cast (l2 := [(4, .int (nI (hvm M v mo (w + 1)))), (3, .int (hvb M v mo (w + 1))), (0, .ref (ad 0)), (1, .int (nI (v))), (2, .int (nI (mo))), (5, .int (nI (w))), (6, .int (nI (lia M w v mo))), (7, .int (nI (d12 (36 - mo))))]) hl (by rw [show (hvm M v mo (w + 1)) = (lia M w v mo) from (by show (if hvm M v mo w < lia M w v mo then _ else _) = _; split <;> first | rfl | omega)])
                    refine lv_iinc (v := nI (w + 1)) (lv' := [(5, .int (nI (w + 1))), (4, .int (nI (hvm M v mo (w + 1)))), (3, .int (hvb M v mo (w + 1))), (0, .ref (ad 0)), (1, .int (nI (v))), (2, .int (nI (mo))), (6, .int (nI (lia M w v mo))), (7, .int (nI (d12 (36 - mo))))]) hx hb dX1_heaviest_115 hl (k := 5) rfl (zn_inc (w)) (by decide) rfl (fun ls hl => ?_)
                    refine lv_goto (tgt := 37) hx hb dX1_heaviest_118 (by decide) ?_
                    exact ih37 (w + 1) (by omega) (by omega) _ (lv_sub hl [3, 4, 5, 2, 1, 0] rfl)
                · skip
                  refine lv_iload_n hx hb dX1_heaviest_59 rfl (lv_at hl 2 rfl) ?_
                  refine lv_iload hx hb dX1_heaviest_60 (lv_at hl 7 rfl) ?_
                  refine zr_iadd hx hb dX1_heaviest_62 ?_
                  refine lv_bipush (v := nI 36) hx hb dX1_heaviest_63 (by decide) ?_
                  refine zb_ge (tgt := 101) hx hb (by omega) (by omega) dX1_heaviest_65 (by decide) (fun c_7 => ?_) (fun c_7 => ?_)
                  · skip
                    have q_8 : d = d12 (36 - mo) := by omega
                    subst q_8
                    have hl := lv_cast (l2 := [(0, .ref (ad 0)), (1, .int (nI (v))), (2, .int (nI (mo))), (3, .int (hvb M v mo (w))), (4, .int (nI (hvm M v mo (w)))), (5, .int (nI (w))), (6, .int (nI (lia M w v mo))), (7, .int (nI (d12 (36 - mo))))]) hl (by rw [show (lia M w v mo) = (ssum (fun d => M (10 + 3 * w) mo * ans M w v d) (d12 (36 - mo))) from (ssum_congr (fun d hd => by rw [ans_tb (by omega)]))])
                    have u_l := lia_le hI (w := w) (by omega) v mo
                    refine lv_iload hx hb dX1_heaviest_101 (lv_at hl 6 rfl) ?_
                    refine lv_iload hx hb dX1_heaviest_103 (lv_at hl 4 rfl) ?_
                    refine zb_le (tgt := 115) hx hb (by omega) (by omega) dX1_heaviest_105 (by decide) (fun c_9 => ?_) (fun c_9 => ?_)
                    · skip
                      have hl := lv_cast (l2 := [(0, .ref (ad 0)), (1, .int (nI (v))), (2, .int (nI (mo))), (3, .int (hvb M v mo (w + 1))), (4, .int (nI (hvm M v mo (w)))), (5, .int (nI (w))), (6, .int (nI (lia M w v mo))), (7, .int (nI (d12 (36 - mo))))]) hl (by rw [show (hvb M v mo (w + 1)) = (hvb M v mo (w)) from (by show (if hvm M v mo w < lia M w v mo then _ else _) = _; split <;> first | rfl | omega)])
                      have hl := lv_cast (l2 := [(0, .ref (ad 0)), (1, .int (nI (v))), (2, .int (nI (mo))), (3, .int (hvb M v mo (w + 1))), (4, .int (nI (hvm M v mo (w + 1)))), (5, .int (nI (w))), (6, .int (nI (lia M w v mo))), (7, .int (nI (d12 (36 - mo))))]) hl (by rw [show (hvm M v mo (w + 1)) = (hvm M v mo (w)) from (by show (if hvm M v mo w < lia M w v mo then _ else _) = _; split <;> first | rfl | omega)])
                      refine lv_iinc (v := nI (w + 1)) (lv' := [(5, .int (nI (w + 1))), (0, .ref (ad 0)), (1, .int (nI (v))), (2, .int (nI (mo))), (3, .int (hvb M v mo (w + 1))), (4, .int (nI (hvm M v mo (w + 1)))), (6, .int (nI (lia M w v mo))), (7, .int (nI (d12 (36 - mo))))]) hx hb dX1_heaviest_115 hl (k := 5) rfl (zn_inc (w)) (by decide) rfl (fun ls hl => ?_)
                      refine lv_goto (tgt := 37) hx hb dX1_heaviest_118 (by decide) ?_
                      exact ih37 (w + 1) (by omega) (by omega) _ (lv_sub hl [1, 2, 3, 4, 5, 0] rfl)
                    · skip
                      refine lv_iload hx hb dX1_heaviest_108 (lv_at hl 5 rfl) ?_
                      refine lv_istore_n (lv' := [(3, .int (nI (w))), (0, .ref (ad 0)), (1, .int (nI (v))), (2, .int (nI (mo))), (4, .int (nI (hvm M v mo (w)))), (5, .int (nI (w))), (6, .int (nI (lia M w v mo))), (7, .int (nI (d12 (36 - mo))))]) hx hb dX1_heaviest_110 rfl hl (by decide) rfl (fun ls hl => ?_)
                      refine lv_iload hx hb dX1_heaviest_111 (lv_at hl 6 rfl) ?_
                      refine lv_istore (lv' := [(4, .int (nI (lia M w v mo))), (3, .int (nI (w))), (0, .ref (ad 0)), (1, .int (nI (v))), (2, .int (nI (mo))), (5, .int (nI (w))), (6, .int (nI (lia M w v mo))), (7, .int (nI (d12 (36 - mo))))]) hx hb dX1_heaviest_113 hl (by decide) rfl (fun ls hl => ?_)
                      have hl := lv_cast (l2 := [(4, .int (nI (lia M w v mo))), (3, .int (hvb M v mo (w + 1))), (0, .ref (ad 0)), (1, .int (nI (v))), (2, .int (nI (mo))), (5, .int (nI (w))), (6, .int (nI (lia M w v mo))), (7, .int (nI (d12 (36 - mo))))]) hl (by rw [show (hvb M v mo (w + 1)) = nI (w) from (by show (if hvm M v mo w < lia M w v mo then _ else _) = _; split <;> first | rfl | omega)])
                      have hl := lv_cast (l2 := [(4, .int (nI (hvm M v mo (w + 1)))), (3, .int (hvb M v mo (w + 1))), (0, .ref (ad 0)), (1, .int (nI (v))), (2, .int (nI (mo))), (5, .int (nI (w))), (6, .int (nI (lia M w v mo))), (7, .int (nI (d12 (36 - mo))))]) hl (by rw [show (hvm M v mo (w + 1)) = (lia M w v mo) from (by show (if hvm M v mo w < lia M w v mo then _ else _) = _; split <;> first | rfl | omega)])
                      refine lv_iinc (v := nI (w + 1)) (lv' := [(5, .int (nI (w + 1))), (4, .int (nI (hvm M v mo (w + 1)))), (3, .int (hvb M v mo (w + 1))), (0, .ref (ad 0)), (1, .int (nI (v))), (2, .int (nI (mo))), (6, .int (nI (lia M w v mo))), (7, .int (nI (d12 (36 - mo))))]) hx hb dX1_heaviest_115 hl (k := 5) rfl (zn_inc (w)) (by decide) rfl (fun ls hl => ?_)
                      refine lv_goto (tgt := 37) hx hb dX1_heaviest_118 (by decide) ?_
                      exact ih37 (w + 1) (by omega) (by omega) _ (lv_sub hl [3, 4, 5, 2, 1, 0] rfl)
                  · skip
                    refine lv_iload hx hb dX1_heaviest_68 (lv_at hl 6 rfl) ?_
                    refine lv_aload_n hx hb dX1_heaviest_70 rfl (lv_at hl 0 rfl) ?_
                    refine zg1 hx hb hw0 hown hK hP (by decide) rfl 4 (by decide) (hts (.fieldLink RX1 19 "WellFieldModel" "units" "[I") (by decide +kernel)) rfl rfl dX1_heaviest_71 ?_
                    refine lv_bipush (v := nI 36) hx hb dX1_heaviest_74 (by decide) ?_
                    refine lv_iload hx hb dX1_heaviest_76 (lv_at hl 5 rfl) ?_
                    refine zr_imul hx hb dX1_heaviest_78 ?_
                    refine lv_iload_n hx hb dX1_heaviest_79 rfl (lv_at hl 2 rfl) ?_
                    refine zr_iadd hx hb dX1_heaviest_80 ?_
                    refine zi_ld hx hb hK hP 4 (by decide) 0 rfl rfl (by decide) (i := ((36) * (w)) + (mo)) (by omega) (v := nI (M (10 + 3 * (w)) (mo))) (fl_un (by omega)) dX1_heaviest_81 ?_
                    have f_10 := hI.un (w) (by omega) (mo)
                    refine lv_aload_n hx hb dX1_heaviest_82 rfl (lv_at hl 0 rfl) ?_
                    refine lv_iload hx hb dX1_heaviest_83 (lv_at hl 5 rfl) ?_
                    refine lv_iload_n hx hb dX1_heaviest_85 rfl (lv_at hl 1 rfl) ?_
                    refine lv_iload hx hb dX1_heaviest_86 (lv_at hl 7 rfl) ?_
                    refine vp_callSi (W.runV (As := [.int (nI (w)), .int (nI (v)), .int (nI (d))]) (rest := [.int (nI (M (10 + 3 * (w)) (mo))), .int (nI (ssum (fun d => M (10 + 3 * w) mo * ans M w v d) (d)))]) ⟨hx, hb, hml, hown, hts⟩ (c1_answer l hI (w := w) (v := v) (d := d) (by omega) (by omega) (by omega)) (cwV 3 hts gX1_heaviest_X1_answer rfl rfl rfl (by decide +kernel) (by decide)) (pv1 hK hP) rfl rfl hl.1 rfl (lv_room (Nat.le_of_ble_eq_true rfl)) dX1_heaviest_88 (by decide)) (fun r_11 hr_11 => ?_)
                    subst hr_11
                    have f_12 := ans_le hI (w) (v) (d)
                    refine zr_imul hx hb dX1_heaviest_91 ?_
                    refine zr_iadd hx hb dX1_heaviest_92 ?_
                    refine lv_istore (lv' := [(6, .int (nI ((ssum (fun d => M (10 + 3 * w) mo * ans M w v d) (d)) + ((M (10 + 3 * (w)) (mo)) * (ans M (w) (v) (d)))))), (0, .ref (ad 0)), (1, .int (nI (v))), (2, .int (nI (mo))), (3, .int (hvb M v mo (w))), (4, .int (nI (hvm M v mo (w)))), (5, .int (nI (w))), (7, .int (nI (d)))]) hx hb dX1_heaviest_93 hl (by decide) rfl (fun ls hl => ?_)
                    refine lv_iinc (v := nI (d + 1)) (lv' := [(7, .int (nI (d + 1))), (6, .int (nI ((ssum (fun d => M (10 + 3 * w) mo * ans M w v d) (d)) + ((M (10 + 3 * (w)) (mo)) * (ans M (w) (v) (d)))))), (0, .ref (ad 0)), (1, .int (nI (v))), (2, .int (nI (mo))), (3, .int (hvb M v mo (w))), (4, .int (nI (hvm M v mo (w)))), (5, .int (nI (w)))]) hx hb dX1_heaviest_95 hl (k := 7) rfl (zn_inc (d)) (by decide) rfl (fun ls hl => ?_)
                    refine lv_goto (tgt := 52) hx hb dX1_heaviest_98 (by decide) ?_
                    exact ih52 (d + 1) (by omega) (by omega) _ (lv_sub hl [2, 3, 4, 5, 6, 7, 1, 0] rfl)
            exact lp52 (d12 (36 - mo) - (0) + 1) (0) (by omega) (by omega) _ (lv_sub hl [2, 3, 4, 5, 6, 7, 1, 0] rfl)
      exact lp37 (M 0 0 - (0) + 1) (0) (by omega) (by omega) _ (lv_sub hl [3, 4, 5, 2, 1, 0] rfl)
    · skip
      refine lv_iconst (v := nI 0) hx hb dX1_heaviest_27 (by decide) ?_
      exact hret (u := ()) (fun h => absurd h (by rw [c_1]; decide)) hS (fun t ht hA => ⟨va_K.moved hA hK, by rw [ht]; exact hP⟩) dX1_heaviest_28
  refine lv_aload_n hx hb dX1_heaviest_0 rfl (lv_at hl 0 rfl) ?_
  refine lv_aload_n hx hb dX1_heaviest_1 rfl (lv_at hl 0 rfl) ?_
  refine lv_iload_n hx hb dX1_heaviest_2 rfl (lv_at hl 1 rfl) ?_
  refine vp_callSi (W.runV (As := [.int (p0)]) (rest := [.ref (ad 0)]) ⟨hx, hb, hml, hown, hts⟩ (c1_isWatch l hI (p0)) (cwV 1 hts gX1_heaviest_X1_isWatch rfl rfl rfl (by decide +kernel) (by decide)) (pv1 hK hP) rfl rfl hl.1 rfl (lv_room (Nat.le_of_ble_eq_true rfl)) dX1_heaviest_3 (by decide)) (fun r_13 hr_13 => ?_)
  obtain ⟨b_14, rfl, hb_14⟩ := hr_13
  subst hb_14
  refine zb_Beq (tgt := 20) hx hb dX1_heaviest_6 (by decide) (fun c_15 => ?_) (fun c_15 => ?_)
  · skip
    refine lv_iconst (v := nI 0) hx hb dX1_heaviest_20 (by decide) ?_
    refine zt_i (y := bB (ixB (p0) (M 5 0) && ixB (p1) 36)) (bB_0.trans (congrArg bB (by simp [c_15]))) ?_
    exact cut21 _ (lv_sub hl [0, 1, 2] rfl)
  · skip
    refine lv_iload_n hx hb dX1_heaviest_9 rfl (lv_at hl 2 rfl) ?_
    refine vp_callSi (W.runS (As := [.int (p1)]) (rest := [.ref (ad 0)]) ⟨hx, hb, hml, hown, hts⟩ (c1_isMonth l (p1)) (va_cwS 1 hts gX1_heaviest_X1_isMonth rfl rfl rfl (by decide +kernel) (by decide)) psN rfl rfl hl.1 rfl (lv_room (Nat.le_of_ble_eq_true rfl)) dX1_heaviest_10 (by decide)) (fun r_16 hr_16 => ?_)
    obtain ⟨b_17, rfl, hb_17⟩ := hr_16
    subst hb_17
    refine zb_Beq (tgt := 20) hx hb dX1_heaviest_13 (by decide) (fun c_18 => ?_) (fun c_18 => ?_)
    · skip
      refine lv_iconst (v := nI 0) hx hb dX1_heaviest_20 (by decide) ?_
      refine zt_i (y := bB (ixB (p0) (M 5 0) && ixB (p1) 36)) (bB_0.trans (congrArg bB (by simp [c_15, c_18]))) ?_
      exact cut21 _ (lv_sub hl [0, 1, 2] rfl)
    · skip
      refine lv_iconst (v := nI 1) hx hb dX1_heaviest_16 (by decide) ?_
      refine lv_goto (tgt := 21) hx hb dX1_heaviest_17 (by decide) ?_
      refine zt_i (y := bB (ixB (p0) (M 5 0) && ixB (p1) 36)) (bB_1.trans (congrArg bB (by simp [c_15, c_18]))) ?_
      exact cut21 _ (lv_sub hl [0, 1, 2] rfl)
set_option maxHeartbeats 4000000 in
set_option maxRecDepth 100000 in
/-- taken -/
theorem r0_taken (l : Launch) {D : va_G} {ad : Nat → Nat} {cI : ClassId} {M : Mdl} {th : Int32} {sz : Nat} (hI : Inv M) (hnd : ndz 9 ad)  (p0 : Int32) : Met l yX1_taken wsX1_taken (rmP 3) (va_Pc [.ref (ad 0), .int (p0)] (KP1S D ad cI M th sz)) (va_Qi (fun r_ (u_ : Unit) => (ixB (p0) 3) = true → r_ = nI (tka M (clN p0))) (fun (u_ : Unit) t_ => KP1 D ad cI M (nI (cd1 (ixB (p0) 3))) t_) (azs 9 ad sz)) 0 0 (azs 9 ad sz) := by
  refine mk_Qi (S := Unit) (post := fun r_ u_ => (ixB (p0) 3) = true → r_ = nI (tka M (clN p0))) (BQ := fun u_ t_ => KP1 D ad cI M (nI (cd1 (ixB (p0) 3))) t_) (cc := cX1_taken) (maxL := 4) (by decide) rfl (Nat.le_of_ble_eq_true rfl) ?_
  intro p e s m args below meth c Q C0 B0 hret ls hl
  obtain ⟨hx, hb, hr, hml, hown, hts, hlocks⟩ := C0
  have hown : s.vm.findClass RX1 = some m.cls := hown
  obtain ⟨hsz, hK, hP⟩ := B0
  have hw0 : ∀ w ∈ wsX10, w.before args s = true := fun w h => hts w ((by decide +kernel : ∀ w ∈ wsX10, w ∈ wsX1_taken) w h)
  subst hsz
  have hAd : ∀ i, i < 9 → azs 9 ad s.heap.size (ad i) := fun i h => azs_i h
  have hS : va_S (azs 9 ad s.heap.size) s.heap s.heap [] := va_S.rf
  have b_nw := hI.nw
  have b_nv := hI.nv
  have hl : lv_has ls 4 [(0, .ref (ad 0)), (1, .int (p0))] := hl
  refine lv_aload_n hx hb dX1_taken_0 rfl (lv_at hl 0 rfl) ?_
  refine lv_iload_n hx hb dX1_taken_1 rfl (lv_at hl 1 rfl) ?_
  refine vp_callSi (W.runS (As := [.int (p0)]) (rest := [.ref (ad 0)]) ⟨hx, hb, hml, hown, hts⟩ (c1_isYear l (p0)) (va_cwS 1 hts gX1_taken_X1_isYear rfl rfl rfl (by decide +kernel) (by decide)) psN rfl rfl hl.1 rfl (lv_room (Nat.le_of_ble_eq_true rfl)) dX1_taken_2 (by decide)) (fun r_1 hr_1 => ?_)
  obtain ⟨b_2, rfl, hb_2⟩ := hr_1
  subst hb_2
  have hz9 := hS.1
  refine va_calli (va_runV (As := [.int (bB (ixB (p0) 3))]) (rest := []) ⟨hx, hb, hml, hown, hts⟩ (c1_may l (D := D) (ad := ad) (cI := cI) (M := M) (th := th) (sz := s.heap.size) hnd (ixB (p0) 3)) (cwV 1 hts gX1_taken_X1_may rfl rfl rfl (by decide +kernel) (by decide)) (pv1S hK hP) rfl rfl hl.1 rfl (lv_room (Nat.le_of_ble_eq_true rfl)) dX1_taken_5 (by decide)) hS (fun q _ h => azs_mono hz9 h) (fun q h => azs_mono hz9 h) (fun r9 u9 t9 H1 locs1 ht9 hv9 hp9 hB9 hz1 hk1 hS1 => ?_)
  obtain ⟨b9, rfl, hb9⟩ := hp9
  subst hb9
  have hP1 := hB9.2
  rw [ht9] at hP1
  clear hP hS hB9 ht9 hv9 hz1 hk1 hz9
  have hP := hP1
  have hS := hS1
  clear hP1 hS1
  generalize H1 = H at hP hS ⊢
  generalize locs1 = locs at hS ⊢
  refine zb_Bne (tgt := 13) hx hb dX1_taken_8 (by decide) (fun c_3 => ?_) (fun c_3 => ?_)
  · skip
    obtain ⟨y, h_y, rfl⟩ := ixB_of (by omega) c_3
    have cl_y : clN (nI y) = y := clN_nI (by omega)
    refine lv_iconst (v := nI 0) hx hb dX1_taken_13 (by decide) ?_
    refine lv_istore_n (lv' := [(2, .int (nI (0))), (0, .ref (ad 0)), (1, .int (nI (y)))]) hx hb dX1_taken_14 rfl hl (by decide) rfl (fun ls hl => ?_)
    refine lv_iconst (v := nI 0) hx hb dX1_taken_15 (by decide) ?_
    refine lv_istore_n (lv' := [(3, .int (nI (0))), (2, .int (nI (0))), (0, .ref (ad 0)), (1, .int (nI (y)))]) hx hb dX1_taken_16 rfl hl (by decide) rfl (fun ls hl => ?_)
    have lp17 : ∀ (n w : Nat), w ≤ M 0 0 → M 0 0 - w < n → ∀ ls : Array Slot, lv_has ls 4 [(0, .ref (ad 0)), (1, .int (nI (y))), (2, .int (nI (ssum (fun w => tk M w y 36) (w)))), (3, .int (nI (w)))] → W p l e (rmP 3) s m args below meth c H locs 0 0 Q (F0 m 17 ls []) := by
      intro n
      induction n with
      | zero => intro w q1 q2; omega
      | succ n ih17 =>
        intro w q1_17 q2_17 ls hl
        refine lv_iload_n hx hb dX1_taken_17 rfl (lv_at hl 3 rfl) ?_
        refine lv_aload_n hx hb dX1_taken_18 rfl (lv_at hl 0 rfl) ?_
        refine zg1 hx hb hw0 hown hK hP (by decide) rfl 0 (by decide) (hts (.fieldLink RX1 38 "WellFieldModel" "wells" "I") (by decide +kernel)) rfl rfl dX1_taken_19 ?_
        refine zb_ge (tgt := 42) hx hb (by omega) (by omega) dX1_taken_22 (by decide) (fun c_4 => ?_) (fun c_4 => ?_)
        · skip
          have q_5 : w = M 0 0 := by omega
          subst q_5
          refine lv_iload_n hx hb dX1_taken_42 rfl (lv_at hl 2 rfl) ?_
          exact hret (u := ()) (fun _ => by rw [cl_y]; rfl) hS (fun t ht hA => ⟨va_K.moved hA hK, by rw [ht]; exact hP⟩) dX1_taken_43
        · skip
          refine lv_iload_n hx hb dX1_taken_25 rfl (lv_at hl 2 rfl) ?_
          refine lv_aload_n hx hb dX1_taken_26 rfl (lv_at hl 0 rfl) ?_
          refine lv_iload_n hx hb dX1_taken_27 rfl (lv_at hl 3 rfl) ?_
          refine lv_iload_n hx hb dX1_taken_28 rfl (lv_at hl 1 rfl) ?_
          refine lv_bipush (v := nI 36) hx hb dX1_taken_29 (by decide) ?_
          refine vp_callSi (W.runV (As := [.int (nI (w)), .int (nI (y)), .int (nI (36))]) (rest := [.int (nI (ssum (fun w => tk M w y 36) (w)))]) ⟨hx, hb, hml, hown, hts⟩ (c1_takenBy l hI (w := w) (y := y) (E := 36) (by omega) (by omega) (by omega)) (cwV 3 hts gX1_taken_X1_takenBy rfl rfl rfl (by decide +kernel) (by decide)) (pv1 hK hP) rfl rfl hl.1 rfl (lv_room (Nat.le_of_ble_eq_true rfl)) dX1_taken_31 (by decide)) (fun r_6 hr_6 => ?_)
          subst hr_6
          refine zr_iadd hx hb dX1_taken_34 ?_
          refine lv_istore_n (lv' := [(2, .int (nI ((ssum (fun w => tk M w y 36) (w)) + (tk M (w) (y) (36))))), (0, .ref (ad 0)), (1, .int (nI (y))), (3, .int (nI (w)))]) hx hb dX1_taken_35 rfl hl (by decide) rfl (fun ls hl => ?_)
          refine lv_iinc (v := nI (w + 1)) (lv' := [(3, .int (nI (w + 1))), (2, .int (nI ((ssum (fun w => tk M w y 36) (w)) + (tk M (w) (y) (36))))), (0, .ref (ad 0)), (1, .int (nI (y)))]) hx hb dX1_taken_36 hl (k := 3) rfl (zn_inc (w)) (by decide) rfl (fun ls hl => ?_)
          refine lv_goto (tgt := 17) hx hb dX1_taken_39 (by decide) ?_
          exact ih17 (w + 1) (by omega) (by omega) _ (lv_sub hl [2, 3, 1, 0] rfl)
    exact lp17 (M 0 0 - (0) + 1) (0) (by omega) (by omega) _ (lv_sub hl [2, 3, 1, 0] rfl)
  · skip
    refine lv_iconst (v := nI 0) hx hb dX1_taken_11 (by decide) ?_
    exact hret (u := ()) (fun h => absurd h (by rw [c_3]; decide)) hS (fun t ht hA => ⟨va_K.moved hA hK, by rw [ht]; exact hP⟩) dX1_taken_12
set_option maxHeartbeats 4000000 in
set_option maxRecDepth 100000 in
/-- takenLate -/
theorem r0_takenLate (l : Launch) {D : va_G} {ad : Nat → Nat} {cI : ClassId} {M : Mdl} {th : Int32} {sz : Nat} (hI : Inv M) (hnd : ndz 9 ad)  (p0 p1 : Int32) : Met l yX1_takenLate wsX1_takenLate (rmP 3) (va_Pc [.ref (ad 0), .int (p0), .int (p1)] (KP1S D ad cI M th sz)) (va_Qi (fun r_ (u_ : Unit) => (ixB (p0) (M 0 0) && ixB (p1) 3) = true → r_ = nI (tk M (clN p0) (clN p1) (clN p1 * 12))) (fun (u_ : Unit) t_ => KP1 D ad cI M (nI (cd1 (ixB (p0) (M 0 0) && ixB (p1) 3))) t_) (azs 9 ad sz)) 0 0 (azs 9 ad sz) := by
  refine mk_Qi (S := Unit) (post := fun r_ u_ => (ixB (p0) (M 0 0) && ixB (p1) 3) = true → r_ = nI (tk M (clN p0) (clN p1) (clN p1 * 12))) (BQ := fun u_ t_ => KP1 D ad cI M (nI (cd1 (ixB (p0) (M 0 0) && ixB (p1) 3))) t_) (cc := cX1_takenLate) (maxL := 3) (by decide) rfl (Nat.le_of_ble_eq_true rfl) ?_
  intro p e s m args below meth c Q C0 B0 hret ls hl
  obtain ⟨hx, hb, hr, hml, hown, hts, hlocks⟩ := C0
  have hown : s.vm.findClass RX1 = some m.cls := hown
  obtain ⟨hsz, hK, hP⟩ := B0
  have hw0 : ∀ w ∈ wsX10, w.before args s = true := fun w h => hts w ((by decide +kernel : ∀ w ∈ wsX10, w ∈ wsX1_takenLate) w h)
  subst hsz
  have hAd : ∀ i, i < 9 → azs 9 ad s.heap.size (ad i) := fun i h => azs_i h
  have hS : va_S (azs 9 ad s.heap.size) s.heap s.heap [] := va_S.rf
  have b_nw := hI.nw
  have b_nv := hI.nv
  have hl : lv_has ls 3 [(0, .ref (ad 0)), (1, .int (p0)), (2, .int (p1))] := hl
  have cut21 : ∀ ls : Array Slot, lv_has ls 3 [(0, .ref (ad 0)), (1, .int (p0)), (2, .int (p1))] → W p l e (rmP 3) s m args below meth c s.heap [] 0 0 Q (F0 m 21 ls [.int (bB (ixB (p0) (M 0 0) && ixB (p1) 3)), .ref (ad 0)]) := by
    intro ls hl
    have hz9 := hS.1
    refine va_calli (va_runV (As := [.int (bB (ixB (p0) (M 0 0) && ixB (p1) 3))]) (rest := []) ⟨hx, hb, hml, hown, hts⟩ (c1_may l (D := D) (ad := ad) (cI := cI) (M := M) (th := th) (sz := s.heap.size) hnd (ixB (p0) (M 0 0) && ixB (p1) 3)) (cwV 1 hts gX1_takenLate_X1_may rfl rfl rfl (by decide +kernel) (by decide)) (pv1S hK hP) rfl rfl hl.1 rfl (lv_room (Nat.le_of_ble_eq_true rfl)) dX1_takenLate_21 (by decide)) hS (fun q _ h => azs_mono hz9 h) (fun q h => azs_mono hz9 h) (fun r9 u9 t9 H1 locs1 ht9 hv9 hp9 hB9 hz1 hk1 hS1 => ?_)
    obtain ⟨b9, rfl, hb9⟩ := hp9
    subst hb9
    have hP1 := hB9.2
    rw [ht9] at hP1
    clear hP hS hB9 ht9 hv9 hz1 hk1 hz9
    have hP := hP1
    have hS := hS1
    clear hP1 hS1
    generalize H1 = H at hP hS ⊢
    generalize locs1 = locs at hS ⊢
    refine zb_Beq (tgt := 40) hx hb dX1_takenLate_24 (by decide) (fun c_1 => ?_) (fun c_1 => ?_)
    · skip
      refine lv_iconst (v := nI 0) hx hb dX1_takenLate_40 (by decide) ?_
      exact hret (u := ()) (fun h => absurd h (by rw [c_1]; decide)) hS (fun t ht hA => ⟨va_K.moved hA hK, by rw [ht]; exact hP⟩) dX1_takenLate_41
    · skip
      obtain ⟨w, h_w, rfl⟩ := ixB_of (by omega) (Bool.and_eq_true_iff.mp c_1).1
      have cl_w : clN (nI w) = w := clN_nI (by omega)
      obtain ⟨y, h_y, rfl⟩ := ixB_of (by omega) (Bool.and_eq_true_iff.mp c_1).2
      have cl_y : clN (nI y) = y := clN_nI (by omega)
      refine lv_aload_n hx hb dX1_takenLate_27 rfl (lv_at hl 0 rfl) ?_
      refine lv_iload_n hx hb dX1_takenLate_28 rfl (lv_at hl 1 rfl) ?_
      refine lv_iload_n hx hb dX1_takenLate_29 rfl (lv_at hl 2 rfl) ?_
      refine lv_bipush (v := nI 12) hx hb dX1_takenLate_30 (by decide) ?_
      refine lv_iload_n hx hb dX1_takenLate_32 rfl (lv_at hl 2 rfl) ?_
      refine zr_imul hx hb dX1_takenLate_33 ?_
      refine vp_callSi (W.runV (As := [.int (nI (w)), .int (nI (y)), .int (nI ((12) * (y)))]) (rest := []) ⟨hx, hb, hml, hown, hts⟩ (c1_takenBy l hI (w := w) (y := y) (E := (12) * (y)) (by omega) (by omega) (by omega)) (cwV 3 hts gX1_takenLate_X1_takenBy rfl rfl rfl (by decide +kernel) (by decide)) (pv1 hK hP) rfl rfl hl.1 rfl (lv_room (Nat.le_of_ble_eq_true rfl)) dX1_takenLate_34 (by decide)) (fun r_2 hr_2 => ?_)
      subst hr_2
      refine lv_goto (tgt := 41) hx hb dX1_takenLate_37 (by decide) ?_
      exact hret (u := ()) (fun _ => by rw [cl_w, cl_y, Nat.mul_comm y 12]) hS (fun t ht hA => ⟨va_K.moved hA hK, by rw [ht]; exact hP⟩) dX1_takenLate_41
  refine lv_aload_n hx hb dX1_takenLate_0 rfl (lv_at hl 0 rfl) ?_
  refine lv_aload_n hx hb dX1_takenLate_1 rfl (lv_at hl 0 rfl) ?_
  refine lv_iload_n hx hb dX1_takenLate_2 rfl (lv_at hl 1 rfl) ?_
  refine vp_callSi (W.runV (As := [.int (p0)]) (rest := [.ref (ad 0)]) ⟨hx, hb, hml, hown, hts⟩ (c1_isWell l hI (p0)) (cwV 1 hts gX1_takenLate_X1_isWell rfl rfl rfl (by decide +kernel) (by decide)) (pv1 hK hP) rfl rfl hl.1 rfl (lv_room (Nat.le_of_ble_eq_true rfl)) dX1_takenLate_3 (by decide)) (fun r_3 hr_3 => ?_)
  obtain ⟨b_4, rfl, hb_4⟩ := hr_3
  subst hb_4
  refine zb_Beq (tgt := 20) hx hb dX1_takenLate_6 (by decide) (fun c_5 => ?_) (fun c_5 => ?_)
  · skip
    refine lv_iconst (v := nI 0) hx hb dX1_takenLate_20 (by decide) ?_
    refine zt_i (y := bB (ixB (p0) (M 0 0) && ixB (p1) 3)) (bB_0.trans (congrArg bB (by simp [c_5]))) ?_
    exact cut21 _ (lv_sub hl [0, 1, 2] rfl)
  · skip
    refine lv_iload_n hx hb dX1_takenLate_9 rfl (lv_at hl 2 rfl) ?_
    refine vp_callSi (W.runS (As := [.int (p1)]) (rest := [.ref (ad 0)]) ⟨hx, hb, hml, hown, hts⟩ (c1_isYear l (p1)) (va_cwS 1 hts gX1_takenLate_X1_isYear rfl rfl rfl (by decide +kernel) (by decide)) psN rfl rfl hl.1 rfl (lv_room (Nat.le_of_ble_eq_true rfl)) dX1_takenLate_10 (by decide)) (fun r_6 hr_6 => ?_)
    obtain ⟨b_7, rfl, hb_7⟩ := hr_6
    subst hb_7
    refine zb_Beq (tgt := 20) hx hb dX1_takenLate_13 (by decide) (fun c_8 => ?_) (fun c_8 => ?_)
    · skip
      refine lv_iconst (v := nI 0) hx hb dX1_takenLate_20 (by decide) ?_
      refine zt_i (y := bB (ixB (p0) (M 0 0) && ixB (p1) 3)) (bB_0.trans (congrArg bB (by simp [c_5, c_8]))) ?_
      exact cut21 _ (lv_sub hl [0, 1, 2] rfl)
    · skip
      refine lv_iconst (v := nI 1) hx hb dX1_takenLate_16 (by decide) ?_
      refine lv_goto (tgt := 21) hx hb dX1_takenLate_17 (by decide) ?_
      refine zt_i (y := bB (ixB (p0) (M 0 0) && ixB (p1) 3)) (bB_1.trans (congrArg bB (by simp [c_5, c_8]))) ?_
      exact cut21 _ (lv_sub hl [0, 1, 2] rfl)
set_option maxHeartbeats 4000000 in
set_option maxRecDepth 100000 in
/-- licence -/
theorem r0_licence (l : Launch) {D : va_G} {ad : Nat → Nat} {cI : ClassId} {M : Mdl} {th : Int32} {sz : Nat} (hI : Inv M) (hnd : ndz 9 ad)  (p0 : Int32) : Met l yX1_licence wsX1_licence (rmP 3) (va_Pc [.ref (ad 0), .int (p0)] (KP1S D ad cI M th sz)) (va_Qi (fun r_ (u_ : Unit) => (ixB (p0) (M 0 0)) = true → r_ = nI (M 3 (clN p0))) (fun (u_ : Unit) t_ => KP1 D ad cI M (nI (cd1 (ixB (p0) (M 0 0)))) t_) (azs 9 ad sz)) 0 0 (azs 9 ad sz) := by
  refine mk_Qi (S := Unit) (post := fun r_ u_ => (ixB (p0) (M 0 0)) = true → r_ = nI (M 3 (clN p0))) (BQ := fun u_ t_ => KP1 D ad cI M (nI (cd1 (ixB (p0) (M 0 0)))) t_) (cc := cX1_licence) (maxL := 2) (by decide) rfl (Nat.le_of_ble_eq_true rfl) ?_
  intro p e s m args below meth c Q C0 B0 hret ls hl
  obtain ⟨hx, hb, hr, hml, hown, hts, hlocks⟩ := C0
  have hown : s.vm.findClass RX1 = some m.cls := hown
  obtain ⟨hsz, hK, hP⟩ := B0
  have hw0 : ∀ w ∈ wsX10, w.before args s = true := fun w h => hts w ((by decide +kernel : ∀ w ∈ wsX10, w ∈ wsX1_licence) w h)
  subst hsz
  have hAd : ∀ i, i < 9 → azs 9 ad s.heap.size (ad i) := fun i h => azs_i h
  have hS : va_S (azs 9 ad s.heap.size) s.heap s.heap [] := va_S.rf
  have b_nw := hI.nw
  have b_nv := hI.nv
  have hl : lv_has ls 2 [(0, .ref (ad 0)), (1, .int (p0))] := hl
  refine lv_aload_n hx hb dX1_licence_0 rfl (lv_at hl 0 rfl) ?_
  refine lv_aload_n hx hb dX1_licence_1 rfl (lv_at hl 0 rfl) ?_
  refine lv_iload_n hx hb dX1_licence_2 rfl (lv_at hl 1 rfl) ?_
  refine vp_callSi (W.runV (As := [.int (p0)]) (rest := [.ref (ad 0)]) ⟨hx, hb, hml, hown, hts⟩ (c1_isWell l hI (p0)) (cwV 1 hts gX1_licence_X1_isWell rfl rfl rfl (by decide +kernel) (by decide)) (pv1 hK hP) rfl rfl hl.1 rfl (lv_room (Nat.le_of_ble_eq_true rfl)) dX1_licence_3 (by decide)) (fun r_1 hr_1 => ?_)
  obtain ⟨b_2, rfl, hb_2⟩ := hr_1
  subst hb_2
  have hz9 := hS.1
  refine va_calli (va_runV (As := [.int (bB (ixB (p0) (M 0 0)))]) (rest := []) ⟨hx, hb, hml, hown, hts⟩ (c1_may l (D := D) (ad := ad) (cI := cI) (M := M) (th := th) (sz := s.heap.size) hnd (ixB (p0) (M 0 0))) (cwV 1 hts gX1_licence_X1_may rfl rfl rfl (by decide +kernel) (by decide)) (pv1S hK hP) rfl rfl hl.1 rfl (lv_room (Nat.le_of_ble_eq_true rfl)) dX1_licence_6 (by decide)) hS (fun q _ h => azs_mono hz9 h) (fun q h => azs_mono hz9 h) (fun r9 u9 t9 H1 locs1 ht9 hv9 hp9 hB9 hz1 hk1 hS1 => ?_)
  obtain ⟨b9, rfl, hb9⟩ := hp9
  subst hb9
  have hP1 := hB9.2
  rw [ht9] at hP1
  clear hP hS hB9 ht9 hv9 hz1 hk1 hz9
  have hP := hP1
  have hS := hS1
  clear hP1 hS1
  generalize H1 = H at hP hS ⊢
  generalize locs1 = locs at hS ⊢
  refine zb_Beq (tgt := 21) hx hb dX1_licence_9 (by decide) (fun c_3 => ?_) (fun c_3 => ?_)
  · skip
    refine lv_iconst (v := nI 0) hx hb dX1_licence_21 (by decide) ?_
    exact hret (u := ()) (fun h => absurd h (by rw [c_3]; decide)) hS (fun t ht hA => ⟨va_K.moved hA hK, by rw [ht]; exact hP⟩) dX1_licence_22
  · skip
    obtain ⟨w, h_w, rfl⟩ := ixB_of (by omega) c_3
    have cl_w : clN (nI w) = w := clN_nI (by omega)
    refine lv_aload_n hx hb dX1_licence_12 rfl (lv_at hl 0 rfl) ?_
    refine zg1 hx hb hw0 hown hK hP (by decide) rfl 3 (by decide) (hts (.fieldLink RX1 16 "WellFieldModel" "licence" "[I") (by decide +kernel)) rfl rfl dX1_licence_13 ?_
    refine lv_iload_n hx hb dX1_licence_16 rfl (lv_at hl 1 rfl) ?_
    refine zi_ld hx hb hK hP 3 (by decide) 0 rfl rfl (by decide) (i := w) (by omega) (v := nI (M 3 (w))) rfl dX1_licence_17 ?_
    have f_4 := hI.li (w)
    refine lv_goto (tgt := 22) hx hb dX1_licence_18 (by decide) ?_
    exact hret (u := ()) (fun _ => by rw [cl_w]) hS (fun t ht hA => ⟨va_K.moved hA hK, by rw [ht]; exact hP⟩) dX1_licence_22
set_option maxHeartbeats 4000000 in
set_option maxRecDepth 100000 in
/-- burden -/
theorem r0_burden (l : Launch) {D : va_G} {ad : Nat → Nat} {cI : ClassId} {M : Mdl} {th : Int32} {sz : Nat} (hI : Inv M) (hnd : ndz 9 ad)  (p0 : Int32) : Met l yX1_burden wsX1_burden (rmP 3) (va_Pc [.ref (ad 0), .int (p0)] (KP1S D ad cI M th sz)) (va_Ql (fun r_ (u_ : Unit) => (ixB (p0) (M 5 0)) = true → r_ = lN (bud M (clN p0))) (fun (u_ : Unit) t_ => KP1 D ad cI M (nI (cd1 (ixB (p0) (M 5 0)))) t_) (azs 9 ad sz)) 0 0 (azs 9 ad sz) := by
  refine mk_Ql (S := Unit) (post := fun r_ u_ => (ixB (p0) (M 5 0)) = true → r_ = lN (bud M (clN p0))) (BQ := fun u_ t_ => KP1 D ad cI M (nI (cd1 (ixB (p0) (M 5 0)))) t_) (cc := cX1_burden) (maxL := 5) (by decide) rfl (Nat.le_of_ble_eq_true rfl) ?_
  intro p e s m args below meth c Q C0 B0 hret ls hl
  obtain ⟨hx, hb, hr, hml, hown, hts, hlocks⟩ := C0
  have hown : s.vm.findClass RX1 = some m.cls := hown
  obtain ⟨hsz, hK, hP⟩ := B0
  have hw0 : ∀ w ∈ wsX10, w.before args s = true := fun w h => hts w ((by decide +kernel : ∀ w ∈ wsX10, w ∈ wsX1_burden) w h)
  subst hsz
  have hAd : ∀ i, i < 9 → azs 9 ad s.heap.size (ad i) := fun i h => azs_i h
  have hS : va_S (azs 9 ad s.heap.size) s.heap s.heap [] := va_S.rf
  have b_nw := hI.nw
  have b_nv := hI.nv
  have hl : lv_has ls 5 [(0, .ref (ad 0)), (1, .int (p0))] := hl
  refine lv_aload_n hx hb dX1_burden_0 rfl (lv_at hl 0 rfl) ?_
  refine lv_aload_n hx hb dX1_burden_1 rfl (lv_at hl 0 rfl) ?_
  refine lv_iload_n hx hb dX1_burden_2 rfl (lv_at hl 1 rfl) ?_
  refine vp_callSi (W.runV (As := [.int (p0)]) (rest := [.ref (ad 0)]) ⟨hx, hb, hml, hown, hts⟩ (c1_isWatch l hI (p0)) (cwV 1 hts gX1_burden_X1_isWatch rfl rfl rfl (by decide +kernel) (by decide)) (pv1 hK hP) rfl rfl hl.1 rfl (lv_room (Nat.le_of_ble_eq_true rfl)) dX1_burden_3 (by decide)) (fun r_1 hr_1 => ?_)
  obtain ⟨b_2, rfl, hb_2⟩ := hr_1
  subst hb_2
  have hz9 := hS.1
  refine va_calli (va_runV (As := [.int (bB (ixB (p0) (M 5 0)))]) (rest := []) ⟨hx, hb, hml, hown, hts⟩ (c1_may l (D := D) (ad := ad) (cI := cI) (M := M) (th := th) (sz := s.heap.size) hnd (ixB (p0) (M 5 0))) (cwV 1 hts gX1_burden_X1_may rfl rfl rfl (by decide +kernel) (by decide)) (pv1S hK hP) rfl rfl hl.1 rfl (lv_room (Nat.le_of_ble_eq_true rfl)) dX1_burden_6 (by decide)) hS (fun q _ h => azs_mono hz9 h) (fun q h => azs_mono hz9 h) (fun r9 u9 t9 H1 locs1 ht9 hv9 hp9 hB9 hz1 hk1 hS1 => ?_)
  obtain ⟨b9, rfl, hb9⟩ := hp9
  subst hb9
  have hP1 := hB9.2
  rw [ht9] at hP1
  clear hP hS hB9 ht9 hv9 hz1 hk1 hz9
  have hP := hP1
  have hS := hS1
  clear hP1 hS1
  generalize H1 = H at hP hS ⊢
  generalize locs1 = locs at hS ⊢
  refine zb_Bne (tgt := 14) hx hb dX1_burden_9 (by decide) (fun c_3 => ?_) (fun c_3 => ?_)
  · skip
    obtain ⟨v, h_v, rfl⟩ := ixB_of (by omega) c_3
    have cl_v : clN (nI v) = v := clN_nI (by omega)
    refine lv_lconst (v := lN 0) hx hb dX1_burden_14 (by decide) ?_
    refine lv_lstore_n (lv' := [(2, .long (lN (0))), (0, .ref (ad 0)), (1, .int (nI (v)))]) hx hb dX1_burden_15 rfl hl (by decide) rfl (fun ls hl => ?_)
    refine lv_iconst (v := nI 0) hx hb dX1_burden_16 (by decide) ?_
    refine lv_istore (lv' := [(4, .int (nI (0))), (2, .long (lN (0))), (0, .ref (ad 0)), (1, .int (nI (v)))]) hx hb dX1_burden_17 hl (by decide) rfl (fun ls hl => ?_)
    have lp19 : ∀ (n w : Nat), w ≤ M 0 0 → M 0 0 - w < n → ∀ ls : Array Slot, lv_has ls 5 [(0, .ref (ad 0)), (1, .int (nI (v))), (2, .long (lN (ssum (fun w => M 3 w * als M w v) (w)))), (4, .int (nI (w)))] → W p l e (rmP 3) s m args below meth c H locs 0 0 Q (F0 m 19 ls []) := by
      intro n
      induction n with
      | zero => intro w q1 q2; omega
      | succ n ih19 =>
        intro w q1_19 q2_19 ls hl
        refine lv_iload hx hb dX1_burden_19 (lv_at hl 3 rfl) ?_
        refine lv_aload_n hx hb dX1_burden_21 rfl (lv_at hl 0 rfl) ?_
        refine zg1 hx hb hw0 hown hK hP (by decide) rfl 0 (by decide) (hts (.fieldLink RX1 38 "WellFieldModel" "wells" "I") (by decide +kernel)) rfl rfl dX1_burden_22 ?_
        refine zb_ge (tgt := 54) hx hb (by omega) (by omega) dX1_burden_25 (by decide) (fun c_4 => ?_) (fun c_4 => ?_)
        · skip
          have q_5 : w = M 0 0 := by omega
          subst q_5
          refine lv_lload_n hx hb dX1_burden_54 rfl (lv_at hl 2 rfl) ?_
          exact hret (u := ()) (fun _ => by rw [cl_v]; rfl) hS (fun t ht hA => ⟨va_K.moved hA hK, by rw [ht]; exact hP⟩) dX1_burden_55
        · skip
          refine lv_lload_n hx hb dX1_burden_28 rfl (lv_at hl 2 rfl) ?_
          refine lv_aload_n hx hb dX1_burden_29 rfl (lv_at hl 0 rfl) ?_
          refine zg1 hx hb hw0 hown hK hP (by decide) rfl 3 (by decide) (hts (.fieldLink RX1 16 "WellFieldModel" "licence" "[I") (by decide +kernel)) rfl rfl dX1_burden_30 ?_
          refine lv_iload hx hb dX1_burden_33 (lv_at hl 3 rfl) ?_
          refine zi_ld hx hb hK hP 3 (by decide) 0 rfl rfl (by decide) (i := w) (by omega) (v := nI (M 3 (w))) rfl dX1_burden_35 ?_
          have f_6 := hI.li (w)
          refine zr_i2l hx hb (by omega) dX1_burden_36 ?_
          refine lv_aload_n hx hb dX1_burden_37 rfl (lv_at hl 0 rfl) ?_
          refine lv_iload hx hb dX1_burden_38 (lv_at hl 3 rfl) ?_
          refine lv_iload_n hx hb dX1_burden_40 rfl (lv_at hl 1 rfl) ?_
          refine vp_callSi (W.runV (As := [.int (nI (w)), .int (nI (v))]) (rest := [.long (lN (M 3 (w))), .long (lN (ssum (fun w => M 3 w * als M w v) (w)))]) ⟨hx, hb, hml, hown, hts⟩ (c1_allOf l hI (w := w) (v := v) (by omega) (by omega)) (cwV 2 hts gX1_burden_X1_allOf rfl rfl rfl (by decide +kernel) (by decide)) (pv1 hK hP) rfl rfl hl.1 rfl (lv_room (Nat.le_of_ble_eq_true rfl)) dX1_burden_41 (by decide)) (fun r_7 hr_7 => ?_)
          subst hr_7
          have f_8 := als_le hI (w) (v)
          refine zr_i2l hx hb (by omega) dX1_burden_44 ?_
          refine zr_lmul hx hb dX1_burden_45 ?_
          refine zr_ladd hx hb dX1_burden_46 ?_
          refine lv_lstore_n (lv' := [(2, .long (lN ((ssum (fun w => M 3 w * als M w v) (w)) + ((M 3 (w)) * (als M (w) (v)))))), (0, .ref (ad 0)), (1, .int (nI (v))), (4, .int (nI (w)))]) hx hb dX1_burden_47 rfl hl (by decide) rfl (fun ls hl => ?_)
          refine lv_iinc (v := nI (w + 1)) (lv' := [(4, .int (nI (w + 1))), (2, .long (lN ((ssum (fun w => M 3 w * als M w v) (w)) + ((M 3 (w)) * (als M (w) (v)))))), (0, .ref (ad 0)), (1, .int (nI (v)))]) hx hb dX1_burden_48 hl (k := 3) rfl (zn_inc (w)) (by decide) rfl (fun ls hl => ?_)
          refine lv_goto (tgt := 19) hx hb dX1_burden_51 (by decide) ?_
          exact ih19 (w + 1) (by omega) (by omega) _ (lv_sub hl [2, 3, 1, 0] rfl)
    exact lp19 (M 0 0 - (0) + 1) (0) (by omega) (by omega) _ (lv_sub hl [2, 3, 1, 0] rfl)
  · skip
    refine lv_lconst (v := lN 0) hx hb dX1_burden_12 (by decide) ?_
    exact hret (u := ()) (fun h => absurd h (by rw [c_3]; decide)) hS (fun t ht hA => ⟨va_K.moved hA hK, by rw [ht]; exact hP⟩) dX1_burden_13
