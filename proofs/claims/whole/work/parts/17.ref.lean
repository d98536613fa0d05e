set_option maxHeartbeats 4000000 in
set_option maxRecDepth 100000 in
/-- isIn -/
theorem c1_isIn (l : Launch)   (v lo hi : Int32) : Met l yX1_isIn wsX1_isIn (rmP 0) (va_Pc [.int (v), .int (lo), .int (hi)] (fun _ => True)) (vp_Si (fun r => ∃ b : Bool, r = bB b ∧ b = rgB v lo hi)) 0 0 (fun _ => False) := by
  refine mk_Sz (post := fun b => b = rgB v lo hi) (cc := cX1_isIn) (maxL := 3) (by decide) rfl (Nat.le_of_ble_eq_true rfl) ?_
  intro p e s m args below meth c Q C0 B0 hret ls hl
  obtain ⟨hx, hb, hr, hml, hown, hts, hlocks⟩ := C0
  have hown : s.vm.findClass RX1 = some m.cls := hown
  have hl : lv_has ls 3 [(0, .int (v)), (1, .int (lo)), (2, .int (hi))] := hl
  refine lv_iload_n hx hb dX1_isIn_0 rfl (lv_at hl 0 rfl) ?_
  refine lv_iload_n hx hb dX1_isIn_1 rfl (lv_at hl 1 rfl) ?_
  refine lv_icmp_lt (tgt := 14) hx hb dX1_isIn_2 (by decide) (fun c_1 => ?_) (fun c_1 => ?_)
  · skip
    refine lv_iconst (v := nI 0) hx hb dX1_isIn_14 (by decide) ?_
    exact hret (b := false) (decide_eq_false (fun z => absurd z.1 (Int32.not_le.mpr c_1))).symm rfl dX1_isIn_15
  · skip
    refine lv_iload_n hx hb dX1_isIn_5 rfl (lv_at hl 0 rfl) ?_
    refine lv_iload_n hx hb dX1_isIn_6 rfl (lv_at hl 2 rfl) ?_
    refine lv_icmp_gt (tgt := 14) hx hb dX1_isIn_7 (by decide) (fun c_2 => ?_) (fun c_2 => ?_)
    · skip
      refine lv_iconst (v := nI 0) hx hb dX1_isIn_14 (by decide) ?_
      exact hret (b := false) (decide_eq_false (fun z => absurd z.2 (Int32.not_le.mpr c_2))).symm rfl dX1_isIn_15
    · skip
      refine lv_iconst (v := nI 1) hx hb dX1_isIn_10 (by decide) ?_
      refine lv_goto (tgt := 15) hx hb dX1_isIn_11 (by decide) ?_
      exact hret (b := true) (decide_eq_true ⟨Int32.not_lt.mp c_1, Int32.not_lt.mp c_2⟩).symm rfl dX1_isIn_15
set_option maxHeartbeats 4000000 in
set_option maxRecDepth 100000 in
/-- isMonth -/
theorem c1_isMonth (l : Launch)   (v : Int32) : Met l yX1_isMonth wsX1_isMonth (rmP 1) (va_Pc [.int (v)] (fun _ => True)) (vp_Si (fun r => ∃ b : Bool, r = bB b ∧ b = ixB v 36)) 0 0 (fun _ => False) := by
  refine mk_Sz (post := fun b => b = ixB v 36) (cc := cX1_isMonth) (maxL := 1) (by decide) rfl (Nat.le_of_ble_eq_true rfl) ?_
  intro p e s m args below meth c Q C0 B0 hret ls hl
  obtain ⟨hx, hb, hr, hml, hown, hts, hlocks⟩ := C0
  have hown : s.vm.findClass RX1 = some m.cls := hown
  have hl : lv_has ls 1 [(0, .int (v))] := hl
  refine lv_iload_n hx hb dX1_isMonth_0 rfl (lv_at hl 0 rfl) ?_
  refine lv_iconst (v := nI 0) hx hb dX1_isMonth_1 (by decide) ?_
  refine lv_bipush (v := nI 35) hx hb dX1_isMonth_2 (by decide) ?_
  refine vp_callSi (W.runS (As := [.int (v), .int (nI (0)), .int (nI (35))]) (rest := []) ⟨hx, hb, hml, hown, hts⟩ (c1_isIn l (v) (nI (0)) (nI (35))) (va_cwS 3 hts gX1_isMonth_X1_isIn rfl rfl rfl (by decide +kernel) (by decide)) psN rfl rfl hl.1 rfl (lv_room (Nat.le_of_ble_eq_true rfl)) dX1_isMonth_4 (by decide)) (fun r_1 hr_1 => ?_)
  obtain ⟨b_2, rfl, hb_2⟩ := hr_1
  subst hb_2
  exact hret (b := rgB (v) (nI (0)) (nI (35))) (rg_ix (by decide)) rfl dX1_isMonth_7
set_option maxHeartbeats 4000000 in
set_option maxRecDepth 100000 in
/-- isYear -/
theorem c1_isYear (l : Launch)   (v : Int32) : Met l yX1_isYear wsX1_isYear (rmP 1) (va_Pc [.int (v)] (fun _ => True)) (vp_Si (fun r => ∃ b : Bool, r = bB b ∧ b = ixB v 3)) 0 0 (fun _ => False) := by
  refine mk_Sz (post := fun b => b = ixB v 3) (cc := cX1_isYear) (maxL := 1) (by decide) rfl (Nat.le_of_ble_eq_true rfl) ?_
  intro p e s m args below meth c Q C0 B0 hret ls hl
  obtain ⟨hx, hb, hr, hml, hown, hts, hlocks⟩ := C0
  have hown : s.vm.findClass RX1 = some m.cls := hown
  have hl : lv_has ls 1 [(0, .int (v))] := hl
  refine lv_iload_n hx hb dX1_isYear_0 rfl (lv_at hl 0 rfl) ?_
  refine lv_iconst (v := nI 0) hx hb dX1_isYear_1 (by decide) ?_
  refine lv_iconst (v := nI 2) hx hb dX1_isYear_2 (by decide) ?_
  refine vp_callSi (W.runS (As := [.int (v), .int (nI (0)), .int (nI (2))]) (rest := []) ⟨hx, hb, hml, hown, hts⟩ (c1_isIn l (v) (nI (0)) (nI (2))) (va_cwS 3 hts gX1_isYear_X1_isIn rfl rfl rfl (by decide +kernel) (by decide)) psN rfl rfl hl.1 rfl (lv_room (Nat.le_of_ble_eq_true rfl)) dX1_isYear_3 (by decide)) (fun r_1 hr_1 => ?_)
  obtain ⟨b_2, rfl, hb_2⟩ := hr_1
  subst hb_2
  exact hret (b := rgB (v) (nI (0)) (nI (2))) (rg_ix (by decide)) rfl dX1_isYear_6
set_option maxHeartbeats 4000000 in
set_option maxRecDepth 100000 in
/-- isWell -/
theorem c1_isWell (l : Launch) {D : va_G} {ad : Nat → Nat} {cI : ClassId} {M : Mdl} {th : Int32} (hI : Inv M)  (v : Int32) : Met l yX1_isWell wsX1_isWell (rmP 1) (va_Pc [.ref (ad 0), .int (v)] (KP1 D ad cI M th)) (vp_Si (fun r => ∃ b : Bool, r = bB b ∧ b = ixB v (M 0 0))) 0 0 (fun _ => False) := by
  refine mk_Sz (post := fun b => b = ixB v (M 0 0)) (cc := cX1_isWell) (maxL := 2) (by decide) rfl (Nat.le_of_ble_eq_true rfl) ?_
  intro p e s m args below meth c Q C0 B0 hret ls hl
  obtain ⟨hx, hb, hr, hml, hown, hts, hlocks⟩ := C0
  have hown : s.vm.findClass RX1 = some m.cls := hown
  obtain ⟨hK, hP⟩ := B0
  have hw0 : ∀ w ∈ wsX10, w.before args s = true := fun w h => hts w ((by decide +kernel : ∀ w ∈ wsX10, w ∈ wsX1_isWell) w h)
  have b_nw := hI.nw
  have b_nv := hI.nv
  have hl : lv_has ls 2 [(0, .ref (ad 0)), (1, .int (v))] := hl
  refine lv_iload_n hx hb dX1_isWell_0 rfl (lv_at hl 1 rfl) ?_
  refine lv_iconst (v := nI 0) hx hb dX1_isWell_1 (by decide) ?_
  refine lv_aload_n hx hb dX1_isWell_2 rfl (lv_at hl 0 rfl) ?_
  refine zg1 hx hb hw0 hown hK hP (by decide) rfl 0 (by decide) (hts (.fieldLink RX1 38 "WellFieldModel" "wells" "I") (by decide +kernel)) rfl rfl dX1_isWell_3 ?_
  refine lv_iconst (v := nI 1) hx hb dX1_isWell_6 (by decide) ?_
  refine lv_isub hx hb dX1_isWell_7 ?_
  refine vp_callSi (W.runS (As := [.int (v), .int (nI (0)), .int (nI (M 0 0) - nI (1))]) (rest := []) ⟨hx, hb, hml, hown, hts⟩ (c1_isIn l (v) (nI (0)) (nI (M 0 0) - nI (1))) (va_cwS 3 hts gX1_isWell_X1_isIn rfl rfl rfl (by decide +kernel) (by decide)) psN rfl rfl hl.1 rfl (lv_room (Nat.le_of_ble_eq_true rfl)) dX1_isWell_8 (by decide)) (fun r_1 hr_1 => ?_)
  obtain ⟨b_2, rfl, hb_2⟩ := hr_1
  subst hb_2
  exact hret (b := rgB (v) (nI (0)) (nI (M 0 0) - nI (1))) (rg_ixm (by omega)) rfl dX1_isWell_11
set_option maxHeartbeats 4000000 in
set_option maxRecDepth 100000 in
/-- isWatch -/
theorem c1_isWatch (l : Launch) {D : va_G} {ad : Nat → Nat} {cI : ClassId} {M : Mdl} {th : Int32} (hI : Inv M)  (v : Int32) : Met l yX1_isWatch wsX1_isWatch (rmP 1) (va_Pc [.ref (ad 0), .int (v)] (KP1 D ad cI M th)) (vp_Si (fun r => ∃ b : Bool, r = bB b ∧ b = ixB v (M 5 0))) 0 0 (fun _ => False) := by
  refine mk_Sz (post := fun b => b = ixB v (M 5 0)) (cc := cX1_isWatch) (maxL := 2) (by decide) rfl (Nat.le_of_ble_eq_true rfl) ?_
  intro p e s m args below meth c Q C0 B0 hret ls hl
  obtain ⟨hx, hb, hr, hml, hown, hts, hlocks⟩ := C0
  have hown : s.vm.findClass RX1 = some m.cls := hown
  obtain ⟨hK, hP⟩ := B0
  have hw0 : ∀ w ∈ wsX10, w.before args s = true := fun w h => hts w ((by decide +kernel : ∀ w ∈ wsX10, w ∈ wsX1_isWatch) w h)
  have b_nw := hI.nw
  have b_nv := hI.nv
  have hl : lv_has ls 2 [(0, .ref (ad 0)), (1, .int (v))] := hl
  refine lv_iload_n hx hb dX1_isWatch_0 rfl (lv_at hl 1 rfl) ?_
  refine lv_iconst (v := nI 0) hx hb dX1_isWatch_1 (by decide) ?_
  refine lv_aload_n hx hb dX1_isWatch_2 rfl (lv_at hl 0 rfl) ?_
  refine zg1 hx hb hw0 hown hK hP (by decide) rfl 5 (by decide) (hts (.fieldLink RX1 45 "WellFieldModel" "watches" "I") (by decide +kernel)) rfl rfl dX1_isWatch_3 ?_
  refine lv_iconst (v := nI 1) hx hb dX1_isWatch_6 (by decide) ?_
  refine lv_isub hx hb dX1_isWatch_7 ?_
  refine vp_callSi (W.runS (As := [.int (v), .int (nI (0)), .int (nI (M 5 0) - nI (1))]) (rest := []) ⟨hx, hb, hml, hown, hts⟩ (c1_isIn l (v) (nI (0)) (nI (M 5 0) - nI (1))) (va_cwS 3 hts gX1_isWatch_X1_isIn rfl rfl rfl (by decide +kernel) (by decide)) psN rfl rfl hl.1 rfl (lv_room (Nat.le_of_ble_eq_true rfl)) dX1_isWatch_8 (by decide)) (fun r_1 hr_1 => ?_)
  obtain ⟨b_2, rfl, hb_2⟩ := hr_1
  subst hb_2
  exact hret (b := rgB (v) (nI (0)) (nI (M 5 0) - nI (1))) (rg_ixm (by omega)) rfl dX1_isWatch_11
set_option maxHeartbeats 4000000 in
set_option maxRecDepth 100000 in
/-- thrown -/
theorem c1_thrown (l : Launch) {D : va_G} {ad : Nat → Nat} {cI : ClassId} {M : Mdl} {th : Int32} (hI : Inv M)   : Met l yX1_thrown wsX1_thrown (rmP 0) (va_Pc [.ref (ad 0)] (KP1 D ad cI M th)) (vp_Si (fun r_ => r_ = th)) 0 0 (fun _ => False) := by
  refine mk_Si (post := fun r_ => r_ = th) (cc := cX1_thrown) (maxL := 1) (by decide) rfl (Nat.le_of_ble_eq_true rfl) ?_
  intro p e s m args below meth c Q C0 B0 hret ls hl
  obtain ⟨hx, hb, hr, hml, hown, hts, hlocks⟩ := C0
  have hown : s.vm.findClass RX1 = some m.cls := hown
  obtain ⟨hK, hP⟩ := B0
  have hw0 : ∀ w ∈ wsX10, w.before args s = true := fun w h => hts w ((by decide +kernel : ∀ w ∈ wsX10, w ∈ wsX1_thrown) w h)
  have b_nw := hI.nw
  have b_nv := hI.nv
  have hl : lv_has ls 1 [(0, .ref (ad 0))] := hl
  refine lv_aload_n hx hb dX1_thrown_0 rfl (lv_at hl 0 rfl) ?_
  refine zg1 hx hb hw0 hown hK hP (by decide) rfl 10 (by decide) (hts (.fieldLink RX1 34 "WellFieldModel" "thrown" "I") (by decide +kernel)) rfl rfl dX1_thrown_1 ?_
  exact hret rfl dX1_thrown_4
set_option maxHeartbeats 4000000 in
set_option maxRecDepth 100000 in
/-- pumpedIn -/
theorem c1_pumpedIn (l : Launch) {D : va_G} {ad : Nat → Nat} {cI : ClassId} {M : Mdl} {th : Int32} (hI : Inv M) {w y : Nat} (hw : w < M 0 0) (hy : y < 3) : Met l yX1_pumpedIn wsX1_pumpedIn (rmP 0) (va_Pc [.ref (ad 0), .int (nI (w)), .int (nI (y))] (KP1 D ad cI M th)) (vp_Si (fun r_ => r_ = nI (yr M w y))) 0 0 (fun _ => False) := by
  refine mk_Si (post := fun r_ => r_ = nI (yr M w y)) (cc := cX1_pumpedIn) (maxL := 5) (by decide) rfl (Nat.le_of_ble_eq_true rfl) ?_
  intro p e s m args below meth c Q C0 B0 hret ls hl
  obtain ⟨hx, hb, hr, hml, hown, hts, hlocks⟩ := C0
  have hown : s.vm.findClass RX1 = some m.cls := hown
  obtain ⟨hK, hP⟩ := B0
  have hw0 : ∀ w ∈ wsX10, w.before args s = true := fun w h => hts w ((by decide +kernel : ∀ w ∈ wsX10, w ∈ wsX1_pumpedIn) w h)
  have b_nw := hI.nw
  have b_nv := hI.nv
  have hl : lv_has ls 5 [(0, .ref (ad 0)), (1, .int (nI (w))), (2, .int (nI (y)))] := hl
  refine lv_iconst (v := nI 0) hx hb dX1_pumpedIn_0 (by decide) ?_
  refine lv_istore_n (lv' := [(3, .int (nI (0))), (0, .ref (ad 0)), (1, .int (nI (w))), (2, .int (nI (y)))]) hx hb dX1_pumpedIn_1 rfl hl (by decide) rfl (fun ls hl => ?_)
  refine lv_bipush (v := nI 12) hx hb dX1_pumpedIn_2 (by decide) ?_
  refine lv_iload_n hx hb dX1_pumpedIn_4 rfl (lv_at hl 3 rfl) ?_
  refine zr_imul hx hb dX1_pumpedIn_5 ?_
  refine zt_i (congrArg nI (Nat.mul_comm 12 y)) ?_
  refine lv_istore (lv' := [(4, .int (nI ((y) * (12)))), (3, .int (nI (0))), (0, .ref (ad 0)), (1, .int (nI (w))), (2, .int (nI (y)))]) hx hb dX1_pumpedIn_6 hl (by decide) rfl (fun ls hl => ?_)
  have lp8 : ∀ (n k : Nat), k ≤ 12 → 12 - k < n → ∀ ls : Array Slot, lv_has ls 5 [(0, .ref (ad 0)), (1, .int (nI (w))), (2, .int (nI (y))), (3, .int (nI (ssum (fun k => M (10 + 3 * w) (y * 12 + k)) (k)))), (4, .int (nI ((y) * (12) + (k))))] → W p l e (rmP 0) s m args below meth c s.heap [] 0 0 Q (F0 m 8 ls []) := by
    intro n
    induction n with
    | zero => intro k q1 q2; omega
    | succ n ih8 =>
      intro k q1_8 q2_8 ls hl
      refine lv_iload hx hb dX1_pumpedIn_8 (lv_at hl 4 rfl) ?_
      refine lv_bipush (v := nI 12) hx hb dX1_pumpedIn_10 (by decide) ?_
      refine lv_iload_n hx hb dX1_pumpedIn_12 rfl (lv_at hl 2 rfl) ?_
      refine zr_imul hx hb dX1_pumpedIn_13 ?_
      refine zt_i (congrArg nI (Nat.mul_comm 12 y)) ?_
      refine lv_bipush (v := nI 12) hx hb dX1_pumpedIn_14 (by decide) ?_
      refine zr_iadd hx hb dX1_pumpedIn_16 ?_
      refine zb_ge (tgt := 41) hx hb (by omega) (by omega) dX1_pumpedIn_17 (by decide) (fun c_1 => ?_) (fun c_1 => ?_)
      · skip
        have q_2 : k = 12 := by omega
        subst q_2
        refine lv_iload_n hx hb dX1_pumpedIn_41 rfl (lv_at hl 3 rfl) ?_
        exact hret rfl dX1_pumpedIn_42
      · skip
        refine lv_iload_n hx hb dX1_pumpedIn_20 rfl (lv_at hl 3 rfl) ?_
        refine lv_aload_n hx hb dX1_pumpedIn_21 rfl (lv_at hl 0 rfl) ?_
        refine zg1 hx hb hw0 hown hK hP (by decide) rfl 4 (by decide) (hts (.fieldLink RX1 19 "WellFieldModel" "units" "[I") (by decide +kernel)) rfl rfl dX1_pumpedIn_22 ?_
        refine lv_bipush (v := nI 36) hx hb dX1_pumpedIn_25 (by decide) ?_
        refine lv_iload_n hx hb dX1_pumpedIn_27 rfl (lv_at hl 1 rfl) ?_
        refine zr_imul hx hb dX1_pumpedIn_28 ?_
        refine lv_iload hx hb dX1_pumpedIn_29 (lv_at hl 4 rfl) ?_
        refine zr_iadd hx hb dX1_pumpedIn_31 ?_
        refine zi_ld hx hb hK hP 4 (by decide) 0 rfl rfl (by decide) (i := ((36) * (w)) + ((y) * (12) + (k))) (by omega) (v := nI (M (10 + 3 * (w)) ((y) * (12) + (k)))) (fl_un (by omega)) dX1_pumpedIn_32 ?_
        have f_3 := hI.un (w) (by omega) ((y) * (12) + (k))
        refine zr_iadd hx hb dX1_pumpedIn_33 ?_
        refine lv_istore_n (lv' := [(3, .int (nI ((ssum (fun k => M (10 + 3 * w) (y * 12 + k)) (k)) + (M (10 + 3 * (w)) ((y) * (12) + (k)))))), (0, .ref (ad 0)), (1, .int (nI (w))), (2, .int (nI (y))), (4, .int (nI ((y) * (12) + (k))))]) hx hb dX1_pumpedIn_34 rfl hl (by decide) rfl (fun ls hl => ?_)
        refine lv_iinc (v := nI ((y) * (12) + (k) + 1)) (lv' := [(4, .int (nI ((y) * (12) + (k) + 1))), (3, .int (nI ((ssum (fun k => M (10 + 3 * w) (y * 12 + k)) (k)) + (M (10 + 3 * (w)) ((y) * (12) + (k)))))), (0, .ref (ad 0)), (1, .int (nI (w))), (2, .int (nI (y)))]) hx hb dX1_pumpedIn_35 hl (k := 4) rfl (zn_inc ((y) * (12) + (k))) (by decide) rfl (fun ls hl => ?_)
        refine lv_goto (tgt := 8) hx hb dX1_pumpedIn_38 (by decide) ?_
        exact ih8 (k + 1) (by omega) (by omega) _ (lv_sub hl [2, 3, 4, 1, 0] rfl)
  exact lp8 (12 - (0) + 1) (0) (by omega) (by omega) _ (lv_sub hl [2, 3, 4, 1, 0] rfl)
set_option maxHeartbeats 4000000 in
set_option maxRecDepth 100000 in
/-- answer -/
theorem c1_answer (l : Launch) {D : va_G} {ad : Nat → Nat} {cI : ClassId} {M : Mdl} {th : Int32} (hI : Inv M) {w v d : Nat} (hw : w < M 0 0) (hv : v < M 5 0) (hd : d < 2 ^ 30) : Met l yX1_answer wsX1_answer (rmP 0) (va_Pc [.ref (ad 0), .int (nI (w)), .int (nI (v)), .int (nI (d))] (KP1 D ad cI M th)) (vp_Si (fun r_ => r_ = nI (ans M w v d))) 0 0 (fun _ => False) := by
  refine mk_Si (post := fun r_ => r_ = nI (ans M w v d)) (cc := cX1_answer) (maxL := 6) (by decide) rfl (Nat.le_of_ble_eq_true rfl) ?_
  intro p e s m args below meth c Q C0 B0 hret ls hl
  obtain ⟨hx, hb, hr, hml, hown, hts, hlocks⟩ := C0
  have hown : s.vm.findClass RX1 = some m.cls := hown
  obtain ⟨hK, hP⟩ := B0
  have hw0 : ∀ w ∈ wsX10, w.before args s = true := fun w h => hts w ((by decide +kernel : ∀ w ∈ wsX10, w ∈ wsX1_answer) w h)
  have b_nw := hI.nw
  have b_nv := hI.nv
  have b_rch := rch_le hI w v
  have hl : lv_has ls 6 [(0, .ref (ad 0)), (1, .int (nI (w))), (2, .int (nI (v))), (3, .int (nI (d)))] := hl
  refine lv_aload_n hx hb dX1_answer_0 rfl (lv_at hl 0 rfl) ?_
  refine zg1 hx hb hw0 hown hK hP (by decide) rfl 1 (by decide) (hts (.fieldLink RX1 7 "WellFieldModel" "place" "[I") (by decide +kernel)) rfl rfl dX1_answer_1 ?_
  refine lv_iload_n hx hb dX1_answer_4 rfl (lv_at hl 1 rfl) ?_
  refine zi_ld hx hb hK hP 1 (by decide) 0 rfl rfl (by decide) (i := w) (by omega) (v := nI (M 1 (w))) rfl dX1_answer_5 ?_
  have f_1 := hI.pl (w)
  refine lv_aload_n hx hb dX1_answer_6 rfl (lv_at hl 0 rfl) ?_
  refine zg1 hx hb hw0 hown hK hP (by decide) rfl 6 (by decide) (hts (.fieldLink RX1 22 "WellFieldModel" "spot" "[I") (by decide +kernel)) rfl rfl dX1_answer_7 ?_
  refine lv_iload_n hx hb dX1_answer_10 rfl (lv_at hl 2 rfl) ?_
  refine zi_ld hx hb hK hP 5 (by decide) 0 rfl rfl (by decide) (i := v) (by omega) (v := nI (M 6 (v))) rfl dX1_answer_11 ?_
  have f_2 := hI.sp (v)
  refine lv_isub hx hb dX1_answer_12 ?_
  refine lv_istore (lv' := [(4, .int (nI (M 1 (w)) - nI (M 6 (v)))), (0, .ref (ad 0)), (1, .int (nI (w))), (2, .int (nI (v))), (3, .int (nI (d)))]) hx hb dX1_answer_13 hl (by decide) rfl (fun ls hl => ?_)
  refine lv_iload hx hb dX1_answer_15 (lv_at hl 0 rfl) ?_
  refine lv_if_ge (tgt := 26) hx hb dX1_answer_17 (by decide) (fun c_3 => ?_) (fun c_3 => ?_)
  · skip
    refine lv_iload hx hb dX1_answer_26 (lv_at hl 0 rfl) ?_
    refine zt_i (abs_p (by omega) (by omega) c_3) ?_
    refine lv_bipush (v := nI 10) hx hb dX1_answer_28 (by decide) ?_
    refine zr_idiv hx hb (by omega) (by omega) (by omega) dX1_answer_30 ?_
    refine lv_istore (lv' := [(5, .int (nI ((((M 1 (w)) - (M 6 (v))) + ((M 6 (v)) - (M 1 (w)))) / (10)))), (4, .int (nI (M 1 (w)) - nI (M 6 (v)))), (0, .ref (ad 0)), (1, .int (nI (w))), (2, .int (nI (v))), (3, .int (nI (d)))]) hx hb dX1_answer_31 hl (by decide) rfl (fun ls hl => ?_)
    have hl := lv_cast (l2 := [(5, .int (nI (rch M w v))), (4, .int (nI (M 1 (w)) - nI (M 6 (v)))), (0, .ref (ad 0)), (1, .int (nI (w))), (2, .int (nI (v))), (3, .int (nI (d)))]) hl (by rw [show (rch M w v) = ((((M 1 (w)) - (M 6 (v))) + ((M 6 (v)) - (M 1 (w)))) / (10)) from rfl])
    refine lv_iload hx hb dX1_answer_33 (lv_at hl 0 rfl) ?_
    refine lv_iconst (v := nI 5) hx hb dX1_answer_35 (by decide) ?_
    refine zb_ge (tgt := 64) hx hb (by omega) (by omega) dX1_answer_36 (by decide) (fun c_4 => ?_) (fun c_4 => ?_)
    · skip
      refine lv_iconst (v := nI 0) hx hb dX1_answer_64 (by decide) ?_
      exact hret (by show nI _ = nI (ans M w v d); unfold ans; split <;> first | rfl | omega) dX1_answer_65
    · skip
      refine lv_iload_n hx hb dX1_answer_39 rfl (lv_at hl 5 rfl) ?_
      refine lv_if_lt (tgt := 64) hx hb dX1_answer_40 (by decide) (fun c_5 => ?_) (fun c_5 => ?_)
      · skip
        exact absurd c_5 (nI_pos (by omega))
      · skip
        refine lv_iload_n hx hb dX1_answer_43 rfl (lv_at hl 5 rfl) ?_
        refine lv_bipush (v := nI 12) hx hb dX1_answer_44 (by decide) ?_
        refine zb_ge (tgt := 64) hx hb (by omega) (by omega) dX1_answer_46 (by decide) (fun c_6 => ?_) (fun c_6 => ?_)
        · skip
          refine lv_iconst (v := nI 0) hx hb dX1_answer_64 (by decide) ?_
          exact hret (by show nI _ = nI (ans M w v d); unfold ans; split <;> first | rfl | omega) dX1_answer_65
        · skip
          refine lv_aload_n hx hb dX1_answer_49 rfl (lv_at hl 2 rfl) ?_
          refine zg1 hx hb hw0 hown hK hP (by decide) rfl 8 (by decide) (hts (.fieldLink RX1 28 "WellFieldModel" "table" "[I") (by decide +kernel)) rfl rfl dX1_answer_50 ?_
          refine lv_bipush (v := nI 12) hx hb dX1_answer_53 (by decide) ?_
          refine lv_iload hx hb dX1_answer_55 (lv_at hl 0 rfl) ?_
          refine zr_imul hx hb dX1_answer_57 ?_
          refine lv_iload_n hx hb dX1_answer_58 rfl (lv_at hl 5 rfl) ?_
          refine zr_iadd hx hb dX1_answer_59 ?_
          refine zi_ld hx hb hK hP 7 (by decide) 0 rfl rfl (by decide) (i := ((12) * (rch M w v)) + (d)) (by omega) (v := nI (M (11 + 3 * (rch M w v)) (d))) (fl_tb (by omega)) dX1_answer_60 ?_
          have f_7 := hI.tb (rch M w v) (by omega) (d)
          refine lv_goto (tgt := 65) hx hb dX1_answer_61 (by decide) ?_
          exact hret (by show nI _ = nI (ans M w v d); unfold ans; split <;> first | rfl | omega) dX1_answer_65
  · skip
    refine lv_iload hx hb dX1_answer_20 (lv_at hl 0 rfl) ?_
    refine lv_ineg hx hb dX1_answer_22 ?_
    refine lv_goto (tgt := 28) hx hb dX1_answer_23 (by decide) ?_
    refine zt_i (abs_n (by omega) (by omega) c_3) ?_
    refine lv_bipush (v := nI 10) hx hb dX1_answer_28 (by decide) ?_
    refine zr_idiv hx hb (by omega) (by omega) (by omega) dX1_answer_30 ?_
    refine lv_istore (lv' := [(5, .int (nI ((((M 1 (w)) - (M 6 (v))) + ((M 6 (v)) - (M 1 (w)))) / (10)))), (4, .int (nI (M 1 (w)) - nI (M 6 (v)))), (0, .ref (ad 0)), (1, .int (nI (w))), (2, .int (nI (v))), (3, .int (nI (d)))]) hx hb dX1_answer_31 hl (by decide) rfl (fun ls hl => ?_)
    have hl := lv_cast (l2 := [(5, .int (nI (rch M w v))), (4, .int (nI (M 1 (w)) - nI (M 6 (v)))), (0, .ref (ad 0)), (1, .int (nI (w))), (2, .int (nI (v))), (3, .int (nI (d)))]) hl (by rw [show (rch M w v) = ((((M 1 (w)) - (M 6 (v))) + ((M 6 (v)) - (M 1 (w)))) / (10)) from rfl])
    refine lv_iload hx hb dX1_answer_33 (lv_at hl 0 rfl) ?_
    refine lv_iconst (v := nI 5) hx hb dX1_answer_35 (by decide) ?_
    refine zb_ge (tgt := 64) hx hb (by omega) (by omega) dX1_answer_36 (by decide) (fun c_8 => ?_) (fun c_8 => ?_)
    · skip
      refine lv_iconst (v := nI 0) hx hb dX1_answer_64 (by decide) ?_
      exact hret (by show nI _ = nI (ans M w v d); unfold ans; split <;> first | rfl | omega) dX1_answer_65
    · skip
      refine lv_iload_n hx hb dX1_answer_39 rfl (lv_at hl 5 rfl) ?_
      refine lv_if_lt (tgt := 64) hx hb dX1_answer_40 (by decide) (fun c_9 => ?_) (fun c_9 => ?_)
      · skip
        exact absurd c_9 (nI_pos (by omega))
      · skip
        refine lv_iload_n hx hb dX1_answer_43 rfl (lv_at hl 5 rfl) ?_
        refine lv_bipush (v := nI 12) hx hb dX1_answer_44 (by decide) ?_
        refine zb_ge (tgt := 64) hx hb (by omega) (by omega) dX1_answer_46 (by decide) (fun c_10 => ?_) (fun c_10 => ?_)
        · skip
          refine lv_iconst (v := nI 0) hx hb dX1_answer_64 (by decide) ?_
          exact hret (by show nI _ = nI (ans M w v d); unfold ans; split <;> first | rfl | omega) dX1_answer_65
        · skip
          refine lv_aload_n hx hb dX1_answer_49 rfl (lv_at hl 2 rfl) ?_
          refine zg1 hx hb hw0 hown hK hP (by decide) rfl 8 (by decide) (hts (.fieldLink RX1 28 "WellFieldModel" "table" "[I") (by decide +kernel)) rfl rfl dX1_answer_50 ?_
          refine lv_bipush (v := nI 12) hx hb dX1_answer_53 (by decide) ?_
          refine lv_iload hx hb dX1_answer_55 (lv_at hl 0 rfl) ?_
          refine zr_imul hx hb dX1_answer_57 ?_
          refine lv_iload_n hx hb dX1_answer_58 rfl (lv_at hl 5 rfl) ?_
          refine zr_iadd hx hb dX1_answer_59 ?_
          refine zi_ld hx hb hK hP 7 (by decide) 0 rfl rfl (by decide) (i := ((12) * (rch M w v)) + (d)) (by omega) (v := nI (M (11 + 3 * (rch M w v)) (d))) (fl_tb (by omega)) dX1_answer_60 ?_
          have f_11 := hI.tb (rch M w v) (by omega) (d)
          refine lv_goto (tgt := 65) hx hb dX1_answer_61 (by decide) ?_
          exact hret (by show nI _ = nI (ans M w v d); unfold ans; split <;> first | rfl | omega) dX1_answer_65
set_option maxHeartbeats 4000000 in
set_option maxRecDepth 100000 in
/-- drawdownOf -/
theorem c1_drawdownOf (l : Launch) {D : va_G} {ad : Nat → Nat} {cI : ClassId} {M : Mdl} {th : Int32} (hI : Inv M) {v mo : Nat} (hv : v < M 5 0) (hm : mo < 36) : Met l yX1_drawdownOf wsX1_drawdownOf (rmP 1) (va_Pc [.ref (ad 0), .int (nI (v)), .int (nI (mo))] (KP1 D ad cI M th)) (vp_Sl (fun r_ => r_ = lN (dd M v mo))) 0 0 (fun _ => False) := by
  refine mk_Sl (post := fun r_ => r_ = lN (dd M v mo)) (cc := cX1_drawdownOf) (maxL := 7) (by decide) rfl (Nat.le_of_ble_eq_true rfl) ?_
  intro p e s m args below meth c Q C0 B0 hret ls hl
  obtain ⟨hx, hb, hr, hml, hown, hts, hlocks⟩ := C0
  have hown : s.vm.findClass RX1 = some m.cls := hown
  obtain ⟨hK, hP⟩ := B0
  have hw0 : ∀ w ∈ wsX10, w.before args s = true := fun w h => hts w ((by decide +kernel : ∀ w ∈ wsX10, w ∈ wsX1_drawdownOf) w h)
  have b_nw := hI.nw
  have b_nv := hI.nv
  have hl : lv_has ls 7 [(0, .ref (ad 0)), (1, .int (nI (v))), (2, .int (nI (mo)))] := hl
  refine lv_lconst (v := lN 0) hx hb dX1_drawdownOf_0 (by decide) ?_
  refine lv_lstore_n (lv' := [(3, .long (lN (0))), (0, .ref (ad 0)), (1, .int (nI (v))), (2, .int (nI (mo)))]) hx hb dX1_drawdownOf_1 rfl hl (by decide) rfl (fun ls hl => ?_)
  refine lv_iconst (v := nI 0) hx hb dX1_drawdownOf_2 (by decide) ?_
  refine lv_istore (lv' := [(5, .int (nI (0))), (3, .long (lN (0))), (0, .ref (ad 0)), (1, .int (nI (v))), (2, .int (nI (mo)))]) hx hb dX1_drawdownOf_3 hl (by decide) rfl (fun ls hl => ?_)
  have lp5 : ∀ (n w : Nat), w ≤ M 0 0 → M 0 0 - w < n → ∀ ls : Array Slot, lv_has ls 7 [(0, .ref (ad 0)), (1, .int (nI (v))), (2, .int (nI (mo))), (3, .long (lN (ssum (fun w => drw M v mo w) (w)))), (5, .int (nI (w)))] → W p l e (rmP 1) s m args below meth c s.heap [] 0 0 Q (F0 m 5 ls []) := by
    intro n
    induction n with
    | zero => intro w q1 q2; omega
    | succ n ih5 =>
      intro w q1_5 q2_5 ls hl
      refine lv_iload hx hb dX1_drawdownOf_5 (lv_at hl 4 rfl) ?_
      refine lv_aload_n hx hb dX1_drawdownOf_7 rfl (lv_at hl 0 rfl) ?_
      refine zg1 hx hb hw0 hown hK hP (by decide) rfl 0 (by decide) (hts (.fieldLink RX1 38 "WellFieldModel" "wells" "I") (by decide +kernel)) rfl rfl dX1_drawdownOf_8 ?_
      refine zb_ge (tgt := 65) hx hb (by omega) (by omega) dX1_drawdownOf_11 (by decide) (fun c_1 => ?_) (fun c_1 => ?_)
      · skip
        have q_2 : w = M 0 0 := by omega
        subst q_2
        refine lv_lload_n hx hb dX1_drawdownOf_65 rfl (lv_at hl 3 rfl) ?_
        exact hret (by show lN _ = lN _; rw [drd_eq]) dX1_drawdownOf_66
      · skip
        refine lv_iconst (v := nI 0) hx hb dX1_drawdownOf_14 (by decide) ?_
        refine lv_istore (lv' := [(6, .int (nI (0))), (0, .ref (ad 0)), (1, .int (nI (v))), (2, .int (nI (mo))), (3, .long (lN (ssum (fun w => drw M v mo w) (w)))), (5, .int (nI (w)))]) hx hb dX1_drawdownOf_15 hl (by decide) rfl (fun ls hl => ?_)
        have lp17 : ∀ (n j : Nat), j ≤ mo + 1 → mo + 1 - j < n → ∀ ls : Array Slot, lv_has ls 7 [(0, .ref (ad 0)), (1, .int (nI (v))), (2, .int (nI (mo))), (3, .long (lN ((ssum (fun w => drw M v mo w) (w)) + (ssum (fun k => M (10 + 3 * w) k * ans M w v (mo - k)) (j))))), (5, .int (nI (w))), (6, .int (nI (j)))] → W p l e (rmP 1) s m args below meth c s.heap [] 0 0 Q (F0 m 17 ls []) := by
          intro n
          induction n with
          | zero => intro j q1 q2; omega
          | succ n ih17 =>
            intro j q1_17 q2_17 ls hl
            refine lv_iload hx hb dX1_drawdownOf_17 (lv_at hl 5 rfl) ?_
            refine lv_iload_n hx hb dX1_drawdownOf_19 rfl (lv_at hl 2 rfl) ?_
            refine zb_gt (tgt := 59) hx hb (by omega) (by omega) dX1_drawdownOf_20 (by decide) (fun c_3 => ?_) (fun c_3 => ?_)
            · skip
              have q_4 : j = mo + 1 := by omega
              subst q_4
              refine lv_iinc (v := nI (w + 1)) (lv' := [(5, .int (nI (w + 1))), (0, .ref (ad 0)), (1, .int (nI (v))), (2, .int (nI (mo))), (3, .long (lN ((ssum (fun w => drw M v mo w) (w)) + (ssum (fun k => M (10 + 3 * w) k * ans M w v (mo - k)) (mo + 1))))), (6, .int (nI (mo + 1)))]) hx hb dX1_drawdownOf_59 hl (k := 4) rfl (zn_inc (w)) (by decide) rfl (fun ls hl => ?_)
              refine lv_goto (tgt := 5) hx hb dX1_drawdownOf_62 (by decide) ?_
              exact ih5 (w + 1) (by omega) (by omega) _ (lv_sub hl [1, 2, 3, 4, 0] rfl)
            · skip
              refine lv_lload_n hx hb dX1_drawdownOf_23 rfl (lv_at hl 3 rfl) ?_
              refine lv_aload_n hx hb dX1_drawdownOf_24 rfl (lv_at hl 0 rfl) ?_
              refine zg1 hx hb hw0 hown hK hP (by decide) rfl 4 (by decide) (hts (.fieldLink RX1 19 "WellFieldModel" "units" "[I") (by decide +kernel)) rfl rfl dX1_drawdownOf_25 ?_
              refine lv_bipush (v := nI 36) hx hb dX1_drawdownOf_28 (by decide) ?_
              refine lv_iload hx hb dX1_drawdownOf_30 (lv_at hl 4 rfl) ?_
              refine zr_imul hx hb dX1_drawdownOf_32 ?_
              refine lv_iload hx hb dX1_drawdownOf_33 (lv_at hl 5 rfl) ?_
              refine zr_iadd hx hb dX1_drawdownOf_35 ?_
              refine zi_ld hx hb hK hP 4 (by decide) 0 rfl rfl (by decide) (i := ((36) * (w)) + (j)) (by omega) (v := nI (M (10 + 3 * (w)) (j))) (fl_un (by omega)) dX1_drawdownOf_36 ?_
              have f_5 := hI.un (w) (by omega) (j)
              refine zr_i2l hx hb (by omega) dX1_drawdownOf_37 ?_
              refine lv_aload_n hx hb dX1_drawdownOf_38 rfl (lv_at hl 0 rfl) ?_
              refine lv_iload hx hb dX1_drawdownOf_39 (lv_at hl 4 rfl) ?_
              refine lv_iload_n hx hb dX1_drawdownOf_41 rfl (lv_at hl 1 rfl) ?_
              refine lv_iload_n hx hb dX1_drawdownOf_42 rfl (lv_at hl 2 rfl) ?_
              refine lv_iload hx hb dX1_drawdownOf_43 (lv_at hl 5 rfl) ?_
              refine zr_isub hx hb (by omega) dX1_drawdownOf_45 ?_
              refine vp_callSi (W.runV (As := [.int (nI (w)), .int (nI (v)), .int (nI ((mo) - (j)))]) (rest := [.long (lN (M (10 + 3 * (w)) (j))), .long (lN ((ssum (fun w => drw M v mo w) (w)) + (ssum (fun k => M (10 + 3 * w) k * ans M w v (mo - k)) (j))))]) ⟨hx, hb, hml, hown, hts⟩ (c1_answer l hI (w := w) (v := v) (d := (mo) - (j)) (by omega) (by omega) (by omega)) (cwV 3 hts gX1_drawdownOf_X1_answer rfl rfl rfl (by decide +kernel) (by decide)) (pv1 hK hP) rfl rfl hl.1 rfl (lv_room (Nat.le_of_ble_eq_true rfl)) dX1_drawdownOf_46 (by decide)) (fun r_6 hr_6 => ?_)
              subst hr_6
              have f_7 := ans_le hI (w) (v) ((mo) - (j))
              refine zr_i2l hx hb (by omega) dX1_drawdownOf_49 ?_
              refine zr_lmul hx hb dX1_drawdownOf_50 ?_
              refine zr_ladd hx hb dX1_drawdownOf_51 ?_
              refine lv_lstore_n (lv' := [(3, .long (lN (((ssum (fun w => drw M v mo w) (w)) + (ssum (fun k => M (10 + 3 * w) k * ans M w v (mo - k)) (j))) + ((M (10 + 3 * (w)) (j)) * (ans M (w) (v) ((mo) - (j))))))), (0, .ref (ad 0)), (1, .int (nI (v))), (2, .int (nI (mo))), (5, .int (nI (w))), (6, .int (nI (j)))]) hx hb dX1_drawdownOf_52 rfl hl (by decide) rfl (fun ls hl => ?_)
              have hl := lv_cast (l2 := [(3, .long (lN ((ssum (fun w => drw M v mo w) (w)) + (ssum (fun k => M (10 + 3 * w) k * ans M w v (mo - k)) (j + 1))))), (0, .ref (ad 0)), (1, .int (nI (v))), (2, .int (nI (mo))), (5, .int (nI (w))), (6, .int (nI (j)))]) hl (by rw [show ((ssum (fun w => drw M v mo w) (w)) + (ssum (fun k => M (10 + 3 * w) k * ans M w v (mo - k)) (j + 1))) = (((ssum (fun w => drw M v mo w) (w)) + (ssum (fun k => M (10 + 3 * w) k * ans M w v (mo - k)) (j))) + ((M (10 + 3 * (w)) (j)) * (ans M (w) (v) ((mo) - (j))))) from (by rw [ssum_s, Nat.add_assoc])])
              refine lv_iinc (v := nI (j + 1)) (lv' := [(6, .int (nI (j + 1))), (3, .long (lN ((ssum (fun w => drw M v mo w) (w)) + (ssum (fun k => M (10 + 3 * w) k * ans M w v (mo - k)) (j + 1))))), (0, .ref (ad 0)), (1, .int (nI (v))), (2, .int (nI (mo))), (5, .int (nI (w)))]) hx hb dX1_drawdownOf_53 hl (k := 5) rfl (zn_inc (j)) (by decide) rfl (fun ls hl => ?_)
              refine lv_goto (tgt := 17) hx hb dX1_drawdownOf_56 (by decide) ?_
              exact ih17 (j + 1) (by omega) (by omega) _ (lv_sub hl [2, 3, 4, 1, 5, 0] rfl)
        exact lp17 (mo + 1 - (0) + 1) (0) (by omega) (by omega) _ (lv_sub hl [1, 2, 3, 4, 5, 0] rfl)
  exact lp5 (M 0 0 - (0) + 1) (0) (by omega) (by omega) _ (lv_sub hl [2, 3, 4, 1, 0] rfl)
set_option maxHeartbeats 4000000 in
set_option maxRecDepth 100000 in
/-- takenBy -/
theorem c1_takenBy (l : Launch) {D : va_G} {ad : Nat → Nat} {cI : ClassId} {M : Mdl} {th : Int32} (hI : Inv M) {w y E : Nat} (hw : w < M 0 0) (hy : y < 3) (hE : E ≤ 36) : Met l yX1_takenBy wsX1_takenBy (rmP 0) (va_Pc [.ref (ad 0), .int (nI (w)), .int (nI (y)), .int (nI (E))] (KP1 D ad cI M th)) (vp_Si (fun r_ => r_ = nI (tk M w y E))) 0 0 (fun _ => False) := by
  refine mk_Si (post := fun r_ => r_ = nI (tk M w y E)) (cc := cX1_takenBy) (maxL := 9) (by decide) rfl (Nat.le_of_ble_eq_true rfl) ?_
  intro p e s m args below meth c Q C0 B0 hret ls hl
  obtain ⟨hx, hb, hr, hml, hown, hts, hlocks⟩ := C0
  have hown : s.vm.findClass RX1 = some m.cls := hown
  obtain ⟨hK, hP⟩ := B0
  have hw0 : ∀ w ∈ wsX10, w.before args s = true := fun w h => hts w ((by decide +kernel : ∀ w ∈ wsX10, w ∈ wsX1_takenBy) w h)
  have b_nw := hI.nw
  have b_nv := hI.nv
  have hl : lv_has ls 9 [(0, .ref (ad 0)), (1, .int (nI (w))), (2, .int (nI (y))), (3, .int (nI (E)))] := hl
  refine lv_iconst (v := nI 0) hx hb dX1_takenBy_0 (by decide) ?_
  refine lv_istore (lv' := [(4, .int (nI (0))), (0, .ref (ad 0)), (1, .int (nI (w))), (2, .int (nI (y))), (3, .int (nI (E)))]) hx hb dX1_takenBy_1 hl (by decide) rfl (fun ls hl => ?_)
  refine lv_aload_n hx hb dX1_takenBy_3 rfl (lv_at hl 1 rfl) ?_
  refine zg1 hx hb hw0 hown hK hP (by decide) rfl 1 (by decide) (hts (.fieldLink RX1 7 "WellFieldModel" "place" "[I") (by decide +kernel)) rfl rfl dX1_takenBy_4 ?_
  refine lv_iload_n hx hb dX1_takenBy_7 rfl (lv_at hl 2 rfl) ?_
  refine zi_ld hx hb hK hP 1 (by decide) 0 rfl rfl (by decide) (i := w) (by omega) (v := nI (M 1 (w))) rfl dX1_takenBy_8 ?_
  have f_1 := hI.pl (w)
  refine lv_iconst (v := nI 5) hx hb dX1_takenBy_9 (by decide) ?_
  refine zr_idiv hx hb (by omega) (by omega) (by omega) dX1_takenBy_10 ?_
  refine lv_istore (lv' := [(5, .int (nI ((M 1 (w)) / (5)))), (4, .int (nI (0))), (0, .ref (ad 0)), (1, .int (nI (w))), (2, .int (nI (y))), (3, .int (nI (E)))]) hx hb dX1_takenBy_11 hl (by decide) rfl (fun ls hl => ?_)
  refine lv_iconst (v := nI 0) hx hb dX1_takenBy_13 (by decide) ?_
  refine lv_istore (lv' := [(6, .int (nI (0))), (5, .int (nI ((M 1 (w)) / (5)))), (4, .int (nI (0))), (0, .ref (ad 0)), (1, .int (nI (w))), (2, .int (nI (y))), (3, .int (nI (E)))]) hx hb dX1_takenBy_14 hl (by decide) rfl (fun ls hl => ?_)
  have lp16 : ∀ (n j : Nat), j ≤ E → E - j < n → ∀ ls : Array Slot, lv_has ls 9 [(0, .ref (ad 0)), (1, .int (nI (w))), (2, .int (nI (y))), (3, .int (nI (E))), (4, .int (nI (ssum (fun m => tks M w y m) (j)))), (5, .int (nI ((M 1 (w)) / (5)))), (6, .int (nI (j)))] → W p l e (rmP 0) s m args below meth c s.heap [] 0 0 Q (F0 m 16 ls []) := by
    intro n
    induction n with
    | zero => intro j q1 q2; omega
    | succ n ih16 =>
      intro j q1_16 q2_16 ls hl
      refine lv_iload hx hb dX1_takenBy_16 (lv_at hl 6 rfl) ?_
      refine lv_iload_n hx hb dX1_takenBy_18 rfl (lv_at hl 3 rfl) ?_
      refine zb_ge (tgt := 97) hx hb (by omega) (by omega) dX1_takenBy_19 (by decide) (fun c_2 => ?_) (fun c_2 => ?_)
      · skip
        have q_3 : j = E := by omega
        subst q_3
        refine lv_iload hx hb dX1_takenBy_97 (lv_at hl 4 rfl) ?_
        exact hret rfl dX1_takenBy_99
      · skip
        refine lv_iload hx hb dX1_takenBy_22 (lv_at hl 6 rfl) ?_
        refine lv_iload hx hb dX1_takenBy_24 (lv_at hl 5 rfl) ?_
        refine zr_iadd hx hb dX1_takenBy_26 ?_
        refine lv_istore (lv' := [(7, .int (nI ((j) + ((M 1 (w)) / (5))))), (0, .ref (ad 0)), (1, .int (nI (w))), (2, .int (nI (y))), (3, .int (nI (E))), (4, .int (nI (ssum (fun m => tks M w y m) (j)))), (5, .int (nI ((M 1 (w)) / (5)))), (6, .int (nI (j)))]) hx hb dX1_takenBy_27 hl (by decide) rfl (fun ls hl => ?_)
        refine lv_aload_n hx hb dX1_takenBy_29 rfl (lv_at hl 1 rfl) ?_
        refine zg1 hx hb hw0 hown hK hP (by decide) rfl 4 (by decide) (hts (.fieldLink RX1 19 "WellFieldModel" "units" "[I") (by decide +kernel)) rfl rfl dX1_takenBy_30 ?_
        refine lv_bipush (v := nI 36) hx hb dX1_takenBy_33 (by decide) ?_
        refine lv_iload_n hx hb dX1_takenBy_35 rfl (lv_at hl 2 rfl) ?_
        refine zr_imul hx hb dX1_takenBy_36 ?_
        refine lv_iload hx hb dX1_takenBy_37 (lv_at hl 7 rfl) ?_
        refine zr_iadd hx hb dX1_takenBy_39 ?_
        refine zi_ld hx hb hK hP 4 (by decide) 0 rfl rfl (by decide) (i := ((36) * (w)) + (j)) (by omega) (v := nI (M (10 + 3 * (w)) (j))) (fl_un (by omega)) dX1_takenBy_40 ?_
        have f_4 := hI.un (w) (by omega) (j)
        refine lv_istore (lv' := [(8, .int (nI (M (10 + 3 * (w)) (j)))), (7, .int (nI ((j) + ((M 1 (w)) / (5))))), (0, .ref (ad 0)), (1, .int (nI (w))), (2, .int (nI (y))), (3, .int (nI (E))), (4, .int (nI (ssum (fun m => tks M w y m) (j)))), (5, .int (nI ((M 1 (w)) / (5)))), (6, .int (nI (j)))]) hx hb dX1_takenBy_41 hl (by decide) rfl (fun ls hl => ?_)
        refine lv_iload hx hb dX1_takenBy_43 (lv_at hl 6 rfl) ?_
        refine lv_iload hx hb dX1_takenBy_45 (lv_at hl 1 rfl) ?_
        refine lv_bipush (v := nI 12) hx hb dX1_takenBy_47 (by decide) ?_
        refine zr_idiv hx hb (by omega) (by omega) (by omega) dX1_takenBy_49 ?_
        refine lv_iload_n hx hb dX1_takenBy_50 rfl (lv_at hl 4 rfl) ?_
        refine zb_ne (tgt := 63) hx hb (by omega) (by omega) dX1_takenBy_51 (by decide) (fun c_5 => ?_) (fun c_5 => ?_)
        · skip
          refine lv_iconst (v := nI 0) hx hb dX1_takenBy_63 (by decide) ?_
          refine zt_i (y := nI (if (j + M 1 w / 5) / 12 = y then M (10 + 3 * w) j - M (10 + 3 * w) j / 2 else 0)) (congrArg nI (by split <;> omega)) ?_
          refine zr_iadd hx hb dX1_takenBy_64 ?_
          refine lv_istore (lv' := [(4, .int (nI ((ssum (fun m => tks M w y m) (j)) + (if (j + M 1 w / 5) / 12 = y then M (10 + 3 * w) j - M (10 + 3 * w) j / 2 else 0)))), (8, .int (nI (M (10 + 3 * (w)) (j)))), (7, .int (nI ((j) + ((M 1 (w)) / (5))))), (0, .ref (ad 0)), (1, .int (nI (w))), (2, .int (nI (y))), (3, .int (nI (E))), (5, .int (nI ((M 1 (w)) / (5)))), (6, .int (nI (j)))]) hx hb dX1_takenBy_65 hl (by decide) rfl (fun ls hl => ?_)
          refine lv_iload hx hb dX1_takenBy_67 (lv_at hl 0 rfl) ?_
          refine lv_iload hx hb dX1_takenBy_69 (lv_at hl 2 rfl) ?_
          refine lv_iconst (v := nI 1) hx hb dX1_takenBy_71 (by decide) ?_
          refine zr_iadd hx hb dX1_takenBy_72 ?_
          refine lv_bipush (v := nI 12) hx hb dX1_takenBy_73 (by decide) ?_
          refine zr_idiv hx hb (by omega) (by omega) (by omega) dX1_takenBy_75 ?_
          refine lv_iload_n hx hb dX1_takenBy_76 rfl (lv_at hl 5 rfl) ?_
          refine zb_ne (tgt := 87) hx hb (by omega) (by omega) dX1_takenBy_77 (by decide) (fun c_6 => ?_) (fun c_6 => ?_)
          · skip
            refine lv_iconst (v := nI 0) hx hb dX1_takenBy_87 (by decide) ?_
            refine zt_i (y := nI (if (j + M 1 w / 5 + 1) / 12 = y then M (10 + 3 * w) j / 2 else 0)) (congrArg nI (by split <;> omega)) ?_
            refine zr_iadd hx hb dX1_takenBy_88 ?_
            refine lv_istore (lv' := [(4, .int (nI (((ssum (fun m => tks M w y m) (j)) + (if (j + M 1 w / 5) / 12 = y then M (10 + 3 * w) j - M (10 + 3 * w) j / 2 else 0)) + (if (j + M 1 w / 5 + 1) / 12 = y then M (10 + 3 * w) j / 2 else 0)))), (8, .int (nI (M (10 + 3 * (w)) (j)))), (7, .int (nI ((j) + ((M 1 (w)) / (5))))), (0, .ref (ad 0)), (1, .int (nI (w))), (2, .int (nI (y))), (3, .int (nI (E))), (5, .int (nI ((M 1 (w)) / (5)))), (6, .int (nI (j)))]) hx hb dX1_takenBy_89 hl (by decide) rfl (fun ls hl => ?_)
            have hl := lv_cast (l2 := [(4, .int (nI (ssum (fun m => tks M w y m) (j + 1)))), (8, .int (nI (M (10 + 3 * (w)) (j)))), (7, .int (nI ((j) + ((M 1 (w)) / (5))))), (0, .ref (ad 0)), (1, .int (nI (w))), (2, .int (nI (y))), (3, .int (nI (E))), (5, .int (nI ((M 1 (w)) / (5)))), (6, .int (nI (j)))]) hl (by rw [show (ssum (fun m => tks M w y m) (j + 1)) = (((ssum (fun m => tks M w y m) (j)) + (if (j + M 1 w / 5) / 12 = y then M (10 + 3 * w) j - M (10 + 3 * w) j / 2 else 0)) + (if (j + M 1 w / 5 + 1) / 12 = y then M (10 + 3 * w) j / 2 else 0)) from (by rw [ssum_s, tks]; exact (Nat.add_assoc _ _ _).symm)])
            refine lv_iinc (v := nI (j + 1)) (lv' := [(6, .int (nI (j + 1))), (4, .int (nI (ssum (fun m => tks M w y m) (j + 1)))), (8, .int (nI (M (10 + 3 * (w)) (j)))), (7, .int (nI ((j) + ((M 1 (w)) / (5))))), (0, .ref (ad 0)), (1, .int (nI (w))), (2, .int (nI (y))), (3, .int (nI (E))), (5, .int (nI ((M 1 (w)) / (5))))]) hx hb dX1_takenBy_91 hl (k := 8) rfl (zn_inc (j)) (by decide) rfl (fun ls hl => ?_)
            refine lv_goto (tgt := 16) hx hb dX1_takenBy_94 (by decide) ?_
            exact ih16 (j + 1) (by omega) (by omega) _ (lv_sub hl [4, 5, 6, 7, 1, 8, 0] rfl)
          · skip
            refine lv_iload hx hb dX1_takenBy_80 (lv_at hl 1 rfl) ?_
            refine lv_iconst (v := nI 2) hx hb dX1_takenBy_82 (by decide) ?_
            refine zr_idiv hx hb (by omega) (by omega) (by omega) dX1_takenBy_83 ?_
            refine lv_goto (tgt := 88) hx hb dX1_takenBy_84 (by decide) ?_
            refine zt_i (y := nI (if (j + M 1 w / 5 + 1) / 12 = y then M (10 + 3 * w) j / 2 else 0)) (congrArg nI (by split <;> omega)) ?_
            refine zr_iadd hx hb dX1_takenBy_88 ?_
            refine lv_istore (lv' := [(4, .int (nI (((ssum (fun m => tks M w y m) (j)) + (if (j + M 1 w / 5) / 12 = y then M (10 + 3 * w) j - M (10 + 3 * w) j / 2 else 0)) + (if (j + M 1 w / 5 + 1) / 12 = y then M (10 + 3 * w) j / 2 else 0)))), (8, .int (nI (M (10 + 3 * (w)) (j)))), (7, .int (nI ((j) + ((M 1 (w)) / (5))))), (0, .ref (ad 0)), (1, .int (nI (w))), (2, .int (nI (y))), (3, .int (nI (E))), (5, .int (nI ((M 1 (w)) / (5)))), (6, .int (nI (j)))]) hx hb dX1_takenBy_89 hl (by decide) rfl (fun ls hl => ?_)
            have hl := lv_cast (l2 := [(4, .int (nI (ssum (fun m => tks M w y m) (j + 1)))), (8, .int (nI (M (10 + 3 * (w)) (j)))), (7, .int (nI ((j) + ((M 1 (w)) / (5))))), (0, .ref (ad 0)), (1, .int (nI (w))), (2, .int (nI (y))), (3, .int (nI (E))), (5, .int (nI ((M 1 (w)) / (5)))), (6, .int (nI (j)))]) hl (by rw [show (ssum (fun m => tks M w y m) (j + 1)) = (((ssum (fun m => tks M w y m) (j)) + (if (j + M 1 w / 5) / 12 = y then M (10 + 3 * w) j - M (10 + 3 * w) j / 2 else 0)) + (if (j + M 1 w / 5 + 1) / 12 = y then M (10 + 3 * w) j / 2 else 0)) from (by rw [ssum_s, tks]; exact (Nat.add_assoc _ _ _).symm)])
            refine lv_iinc (v := nI (j + 1)) (lv' := [(6, .int (nI (j + 1))), (4, .int (nI (ssum (fun m => tks M w y m) (j + 1)))), (8, .int (nI (M (10 + 3 * (w)) (j)))), (7, .int (nI ((j) + ((M 1 (w)) / (5))))), (0, .ref (ad 0)), (1, .int (nI (w))), (2, .int (nI (y))), (3, .int (nI (E))), (5, .int (nI ((M 1 (w)) / (5))))]) hx hb dX1_takenBy_91 hl (k := 8) rfl (zn_inc (j)) (by decide) rfl (fun ls hl => ?_)
            refine lv_goto (tgt := 16) hx hb dX1_takenBy_94 (by decide) ?_
            exact ih16 (j + 1) (by omega) (by omega) _ (lv_sub hl [4, 5, 6, 7, 1, 8, 0] rfl)
        · skip
          refine lv_iload hx hb dX1_takenBy_54 (lv_at hl 0 rfl) ?_
          refine lv_iconst (v := nI 1) hx hb dX1_takenBy_56 (by decide) ?_
          refine zr_iadd hx hb dX1_takenBy_57 ?_
          refine lv_iconst (v := nI 2) hx hb dX1_takenBy_58 (by decide) ?_
          refine zr_idiv hx hb (by omega) (by omega) (by omega) dX1_takenBy_59 ?_
          refine lv_goto (tgt := 64) hx hb dX1_takenBy_60 (by decide) ?_
          refine zt_i (y := nI (if (j + M 1 w / 5) / 12 = y then M (10 + 3 * w) j - M (10 + 3 * w) j / 2 else 0)) (congrArg nI (by split <;> omega)) ?_
          refine zr_iadd hx hb dX1_takenBy_64 ?_
          refine lv_istore (lv' := [(4, .int (nI ((ssum (fun m => tks M w y m) (j)) + (if (j + M 1 w / 5) / 12 = y then M (10 + 3 * w) j - M (10 + 3 * w) j / 2 else 0)))), (8, .int (nI (M (10 + 3 * (w)) (j)))), (7, .int (nI ((j) + ((M 1 (w)) / (5))))), (0, .ref (ad 0)), (1, .int (nI (w))), (2, .int (nI (y))), (3, .int (nI (E))), (5, .int (nI ((M 1 (w)) / (5)))), (6, .int (nI (j)))]) hx hb dX1_takenBy_65 hl (by decide) rfl (fun ls hl => ?_)
          refine lv_iload hx hb dX1_takenBy_67 (lv_at hl 0 rfl) ?_
          refine lv_iload hx hb dX1_takenBy_69 (lv_at hl 2 rfl) ?_
          refine lv_iconst (v := nI 1) hx hb dX1_takenBy_71 (by decide) ?_
          refine zr_iadd hx hb dX1_takenBy_72 ?_
          refine lv_bipush (v := nI 12) hx hb dX1_takenBy_73 (by decide) ?_
          refine zr_idiv hx hb (by omega) (by omega) (by omega) dX1_takenBy_75 ?_
          refine lv_iload_n hx hb dX1_takenBy_76 rfl (lv_at hl 5 rfl) ?_
          refine zb_ne (tgt := 87) hx hb (by omega) (by omega) dX1_takenBy_77 (by decide) (fun c_7 => ?_) (fun c_7 => ?_)
          · skip
            refine lv_iconst (v := nI 0) hx hb dX1_takenBy_87 (by decide) ?_
            refine zt_i (y := nI (if (j + M 1 w / 5 + 1) / 12 = y then M (10 + 3 * w) j / 2 else 0)) (congrArg nI (by split <;> omega)) ?_
            refine zr_iadd hx hb dX1_takenBy_88 ?_
            refine lv_istore (lv' := [(4, .int (nI (((ssum (fun m => tks M w y m) (j)) + (if (j + M 1 w / 5) / 12 = y then M (10 + 3 * w) j - M (10 + 3 * w) j / 2 else 0)) + (if (j + M 1 w / 5 + 1) / 12 = y then M (10 + 3 * w) j / 2 else 0)))), (8, .int (nI (M (10 + 3 * (w)) (j)))), (7, .int (nI ((j) + ((M 1 (w)) / (5))))), (0, .ref (ad 0)), (1, .int (nI (w))), (2, .int (nI (y))), (3, .int (nI (E))), (5, .int (nI ((M 1 (w)) / (5)))), (6, .int (nI (j)))]) hx hb dX1_takenBy_89 hl (by decide) rfl (fun ls hl => ?_)
            have hl := lv_cast (l2 := [(4, .int (nI (ssum (fun m => tks M w y m) (j + 1)))), (8, .int (nI (M (10 + 3 * (w)) (j)))), (7, .int (nI ((j) + ((M 1 (w)) / (5))))), (0, .ref (ad 0)), (1, .int (nI (w))), (2, .int (nI (y))), (3, .int (nI (E))), (5, .int (nI ((M 1 (w)) / (5)))), (6, .int (nI (j)))]) hl (by rw [show (ssum (fun m => tks M w y m) (j + 1)) = (((ssum (fun m => tks M w y m) (j)) + (if (j + M 1 w / 5) / 12 = y then M (10 + 3 * w) j - M (10 + 3 * w) j / 2 else 0)) + (if (j + M 1 w / 5 + 1) / 12 = y then M (10 + 3 * w) j / 2 else 0)) from (by rw [ssum_s, tks]; exact (Nat.add_assoc _ _ _).symm)])
            refine lv_iinc (v := nI (j + 1)) (lv' := [(6, .int (nI (j + 1))), (4, .int (nI (ssum (fun m => tks M w y m) (j + 1)))), (8, .int (nI (M (10 + 3 * (w)) (j)))), (7, .int (nI ((j) + ((M 1 (w)) / (5))))), (0, .ref (ad 0)), (1, .int (nI (w))), (2, .int (nI (y))), (3, .int (nI (E))), (5, .int (nI ((M 1 (w)) / (5))))]) hx hb dX1_takenBy_91 hl (k := 8) rfl (zn_inc (j)) (by decide) rfl (fun ls hl => ?_)
            refine lv_goto (tgt := 16) hx hb dX1_takenBy_94 (by decide) ?_
            exact ih16 (j + 1) (by omega) (by omega) _ (lv_sub hl [4, 5, 6, 7, 1, 8, 0] rfl)
          · skip
            refine lv_iload hx hb dX1_takenBy_80 (lv_at hl 1 rfl) ?_
            refine lv_iconst (v := nI 2) hx hb dX1_takenBy_82 (by decide) ?_
            refine zr_idiv hx hb (by omega) (by omega) (by omega) dX1_takenBy_83 ?_
            refine lv_goto (tgt := 88) hx hb dX1_takenBy_84 (by decide) ?_
            refine zt_i (y := nI (if (j + M 1 w / 5 + 1) / 12 = y then M (10 + 3 * w) j / 2 else 0)) (congrArg nI (by split <;> omega)) ?_
            refine zr_iadd hx hb dX1_takenBy_88 ?_
            refine lv_istore (lv' := [(4, .int (nI (((ssum (fun m => tks M w y m) (j)) + (if (j + M 1 w / 5) / 12 = y then M (10 + 3 * w) j - M (10 + 3 * w) j / 2 else 0)) + (if (j + M 1 w / 5 + 1) / 12 = y then M (10 + 3 * w) j / 2 else 0)))), (8, .int (nI (M (10 + 3 * (w)) (j)))), (7, .int (nI ((j) + ((M 1 (w)) / (5))))), (0, .ref (ad 0)), (1, .int (nI (w))), (2, .int (nI (y))), (3, .int (nI (E))), (5, .int (nI ((M 1 (w)) / (5)))), (6, .int (nI (j)))]) hx hb dX1_takenBy_89 hl (by decide) rfl (fun ls hl => ?_)
            have hl := lv_cast (l2 := [(4, .int (nI (ssum (fun m => tks M w y m) (j + 1)))), (8, .int (nI (M (10 + 3 * (w)) (j)))), (7, .int (nI ((j) + ((M 1 (w)) / (5))))), (0, .ref (ad 0)), (1, .int (nI (w))), (2, .int (nI (y))), (3, .int (nI (E))), (5, .int (nI ((M 1 (w)) / (5)))), (6, .int (nI (j)))]) hl (by rw [show (ssum (fun m => tks M w y m) (j + 1)) = (((ssum (fun m => tks M w y m) (j)) + (if (j + M 1 w / 5) / 12 = y then M (10 + 3 * w) j - M (10 + 3 * w) j / 2 else 0)) + (if (j + M 1 w / 5 + 1) / 12 = y then M (10 + 3 * w) j / 2 else 0)) from (by rw [ssum_s, tks]; exact (Nat.add_assoc _ _ _).symm)])
            refine lv_iinc (v := nI (j + 1)) (lv' := [(6, .int (nI (j + 1))), (4, .int (nI (ssum (fun m => tks M w y m) (j + 1)))), (8, .int (nI (M (10 + 3 * (w)) (j)))), (7, .int (nI ((j) + ((M 1 (w)) / (5))))), (0, .ref (ad 0)), (1, .int (nI (w))), (2, .int (nI (y))), (3, .int (nI (E))), (5, .int (nI ((M 1 (w)) / (5))))]) hx hb dX1_takenBy_91 hl (k := 8) rfl (zn_inc (j)) (by decide) rfl (fun ls hl => ?_)
            refine lv_goto (tgt := 16) hx hb dX1_takenBy_94 (by decide) ?_
            exact ih16 (j + 1) (by omega) (by omega) _ (lv_sub hl [4, 5, 6, 7, 1, 8, 0] rfl)
  exact lp16 (E - (0) + 1) (0) (by omega) (by omega) _ (lv_sub hl [3, 4, 5, 6, 2, 1, 0] rfl)
set_option maxHeartbeats 4000000 in
set_option maxRecDepth 100000 in
/-- allOf -/
theorem c1_allOf (l : Launch) {D : va_G} {ad : Nat → Nat} {cI : ClassId} {M : Mdl} {th : Int32} (hI : Inv M) {w v : Nat} (hw : w < M 0 0) (hv : v < M 5 0) : Met l yX1_allOf wsX1_allOf (rmP 1) (va_Pc [.ref (ad 0), .int (nI (w)), .int (nI (v))] (KP1 D ad cI M th)) (vp_Si (fun r_ => r_ = nI (als M w v))) 0 0 (fun _ => False) := by
  refine mk_Si (post := fun r_ => r_ = nI (als M w v)) (cc := cX1_allOf) (maxL := 5) (by decide) rfl (Nat.le_of_ble_eq_true rfl) ?_
  intro p e s m args below meth c Q C0 B0 hret ls hl
  obtain ⟨hx, hb, hr, hml, hown, hts, hlocks⟩ := C0
  have hown : s.vm.findClass RX1 = some m.cls := hown
  obtain ⟨hK, hP⟩ := B0
  have hw0 : ∀ w ∈ wsX10, w.before args s = true := fun w h => hts w ((by decide +kernel : ∀ w ∈ wsX10, w ∈ wsX1_allOf) w h)
  have b_nw := hI.nw
  have b_nv := hI.nv
  have hl : lv_has ls 5 [(0, .ref (ad 0)), (1, .int (nI (w))), (2, .int (nI (v)))] := hl
  refine lv_iconst (v := nI 0) hx hb dX1_allOf_0 (by decide) ?_
  refine lv_istore_n (lv' := [(3, .int (nI (0))), (0, .ref (ad 0)), (1, .int (nI (w))), (2, .int (nI (v)))]) hx hb dX1_allOf_1 rfl hl (by decide) rfl (fun ls hl => ?_)
  refine lv_iconst (v := nI 0) hx hb dX1_allOf_2 (by decide) ?_
  refine lv_istore (lv' := [(4, .int (nI (0))), (3, .int (nI (0))), (0, .ref (ad 0)), (1, .int (nI (w))), (2, .int (nI (v)))]) hx hb dX1_allOf_3 hl (by decide) rfl (fun ls hl => ?_)
  have lp5 : ∀ (n d : Nat), d ≤ 12 → 12 - d < n → ∀ ls : Array Slot, lv_has ls 5 [(0, .ref (ad 0)), (1, .int (nI (w))), (2, .int (nI (v))), (3, .int (nI (ssum (fun d => ans M w v d) (d)))), (4, .int (nI (d)))] → W p l e (rmP 1) s m args below meth c s.heap [] 0 0 Q (F0 m 5 ls []) := by
    intro n
    induction n with
    | zero => intro d q1 q2; omega
    | succ n ih5 =>
      intro d q1_5 q2_5 ls hl
      refine lv_iload hx hb dX1_allOf_5 (lv_at hl 4 rfl) ?_
      refine lv_bipush (v := nI 12) hx hb dX1_allOf_7 (by decide) ?_
      refine zb_ge (tgt := 29) hx hb (by omega) (by omega) dX1_allOf_9 (by decide) (fun c_1 => ?_) (fun c_1 => ?_)
      · skip
        have q_2 : d = 12 := by omega
        subst q_2
        refine lv_iload_n hx hb dX1_allOf_29 rfl (lv_at hl 3 rfl) ?_
        exact hret rfl dX1_allOf_30
      · skip
        refine lv_iload_n hx hb dX1_allOf_12 rfl (lv_at hl 3 rfl) ?_
        refine lv_aload_n hx hb dX1_allOf_13 rfl (lv_at hl 0 rfl) ?_
        refine lv_iload_n hx hb dX1_allOf_14 rfl (lv_at hl 1 rfl) ?_
        refine lv_iload_n hx hb dX1_allOf_15 rfl (lv_at hl 2 rfl) ?_
        refine lv_iload hx hb dX1_allOf_16 (lv_at hl 4 rfl) ?_
        refine vp_callSi (W.runV (As := [.int (nI (w)), .int (nI (v)), .int (nI (d))]) (rest := [.int (nI (ssum (fun d => ans M w v d) (d)))]) ⟨hx, hb, hml, hown, hts⟩ (c1_answer l hI (w := w) (v := v) (d := d) (by omega) (by omega) (by omega)) (cwV 3 hts gX1_allOf_X1_answer rfl rfl rfl (by decide +kernel) (by decide)) (pv1 hK hP) rfl rfl hl.1 rfl (lv_room (Nat.le_of_ble_eq_true rfl)) dX1_allOf_18 (by decide)) (fun r_3 hr_3 => ?_)
        subst hr_3
        have f_4 := ans_le hI (w) (v) (d)
        refine zr_iadd hx hb dX1_allOf_21 ?_
        refine lv_istore_n (lv' := [(3, .int (nI ((ssum (fun d => ans M w v d) (d)) + (ans M (w) (v) (d))))), (0, .ref (ad 0)), (1, .int (nI (w))), (2, .int (nI (v))), (4, .int (nI (d)))]) hx hb dX1_allOf_22 rfl hl (by decide) rfl (fun ls hl => ?_)
        refine lv_iinc (v := nI (d + 1)) (lv' := [(4, .int (nI (d + 1))), (3, .int (nI ((ssum (fun d => ans M w v d) (d)) + (ans M (w) (v) (d))))), (0, .ref (ad 0)), (1, .int (nI (w))), (2, .int (nI (v)))]) hx hb dX1_allOf_23 hl (k := 4) rfl (zn_inc (d)) (by decide) rfl (fun ls hl => ?_)
        refine lv_goto (tgt := 5) hx hb dX1_allOf_26 (by decide) ?_
        exact ih5 (d + 1) (by omega) (by omega) _ (lv_sub hl [2, 3, 4, 1, 0] rfl)
  exact lp5 (12 - (0) + 1) (0) (by omega) (by omega) _ (lv_sub hl [2, 3, 4, 1, 0] rfl)
set_option maxHeartbeats 4000000 in
set_option maxRecDepth 100000 in
/-- got -/
theorem c1_got (l : Launch) {D : va_G} {ad : Nat → Nat} {cI : ClassId} {M : Mdl} {th : Int32} (hI : Inv M) {f t u : Nat} (hf : f < M 0 0) (ht : t < M 0 0) (hu : u ≤ 5000) : Met l yX1_got wsX1_got (rmP 0) (va_Pc [.ref (ad 0), .int (nI (f)), .int (nI (t)), .int (nI (u))] (KP1 D ad cI M th)) (vp_Si (fun r_ => r_ = nI (gt M f t u))) 0 0 (fun _ => False) := by
  refine mk_Si (post := fun r_ => r_ = nI (gt M f t u)) (cc := cX1_got) (maxL := 4) (by decide) rfl (Nat.le_of_ble_eq_true rfl) ?_
  intro p e s m args below meth c Q C0 B0 hret ls hl
  obtain ⟨hx, hb, hr, hml, hown, hts, hlocks⟩ := C0
  have hown : s.vm.findClass RX1 = some m.cls := hown
  obtain ⟨hK, hP⟩ := B0
  have hw0 : ∀ w ∈ wsX10, w.before args s = true := fun w h => hts w ((by decide +kernel : ∀ w ∈ wsX10, w ∈ wsX1_got) w h)
  have b_nw := hI.nw
  have b_nv := hI.nv
  have hl : lv_has ls 4 [(0, .ref (ad 0)), (1, .int (nI (f))), (2, .int (nI (t))), (3, .int (nI (u)))] := hl
  refine lv_iload_n hx hb dX1_got_0 rfl (lv_at hl 3 rfl) ?_
  refine lv_aload_n hx hb dX1_got_1 rfl (lv_at hl 0 rfl) ?_
  refine zg1 hx hb hw0 hown hK hP (by decide) rfl 9 (by decide) (hts (.fieldLink RX1 31 "WellFieldModel" "ratio" "[I") (by decide +kernel)) rfl rfl dX1_got_2 ?_
  refine lv_iconst (v := nI 3) hx hb dX1_got_5 (by decide) ?_
  refine lv_aload_n hx hb dX1_got_6 rfl (lv_at hl 0 rfl) ?_
  refine zg1 hx hb hw0 hown hK hP (by decide) rfl 2 (by decide) (hts (.fieldLink RX1 13 "WellFieldModel" "zone" "[I") (by decide +kernel)) rfl rfl dX1_got_7 ?_
  refine lv_iload_n hx hb dX1_got_10 rfl (lv_at hl 1 rfl) ?_
  refine zi_ld hx hb hK hP 2 (by decide) 0 rfl rfl (by decide) (i := f) (by omega) (v := nI (M 2 (f))) rfl dX1_got_11 ?_
  have f_1 := hI.zo (f)
  refine zr_imul hx hb dX1_got_12 ?_
  refine lv_aload_n hx hb dX1_got_13 rfl (lv_at hl 0 rfl) ?_
  refine zg1 hx hb hw0 hown hK hP (by decide) rfl 2 (by decide) (hts (.fieldLink RX1 13 "WellFieldModel" "zone" "[I") (by decide +kernel)) rfl rfl dX1_got_14 ?_
  refine lv_iload_n hx hb dX1_got_17 rfl (lv_at hl 2 rfl) ?_
  refine zi_ld hx hb hK hP 2 (by decide) 0 rfl rfl (by decide) (i := t) (by omega) (v := nI (M 2 (t))) rfl dX1_got_18 ?_
  have f_2 := hI.zo (t)
  refine zr_iadd hx hb dX1_got_19 ?_
  refine zi_ld hx hb hK hP 8 (by decide) 0 rfl rfl (by decide) (i := ((3) * (M 2 (f))) + (M 2 (t))) (by omega) (v := nI (M (12 + 3 * (M 2 (f))) (M 2 (t)))) (fl_ra (by omega)) dX1_got_20 ?_
  have f_3 := hI.ra (M 2 (f)) (by omega) (M 2 (t))
  refine zr_imul hx hb dX1_got_21 ?_
  refine lv_bipush (v := nI 100) hx hb dX1_got_22 (by decide) ?_
  refine zr_idiv hx hb (by have := (gt_le hI f t hu).1; omega) (by omega) (by omega) dX1_got_24 ?_
  exact hret rfl dX1_got_25
set_option maxHeartbeats 4000000 in
set_option maxRecDepth 100000 in
/-- can -/
theorem c1_can (l : Launch) {D : va_G} {ad : Nat → Nat} {cI : ClassId} {M : Mdl} {th : Int32} (hI : Inv M) {f t u : Nat} (hf : f < M 0 0) (ht : t < M 0 0) (hu : u ≤ 5000) : Met l yX1_can wsX1_can (rmP 2) (va_Pc [.ref (ad 0), .int (nI (f)), .int (nI (t)), .int (nI (u))] (KP1 D ad cI M th)) (vp_Si (fun r => ∃ b : Bool, r = bB b ∧ b = cn M f t u)) 0 0 (fun _ => False) := by
  refine mk_Sz (post := fun b => b = cn M f t u) (cc := cX1_can) (maxL := 7) (by decide) rfl (Nat.le_of_ble_eq_true rfl) ?_
  intro p e s m args below meth c Q C0 B0 hret ls hl
  obtain ⟨hx, hb, hr, hml, hown, hts, hlocks⟩ := C0
  have hown : s.vm.findClass RX1 = some m.cls := hown
  obtain ⟨hK, hP⟩ := B0
  have hw0 : ∀ w ∈ wsX10, w.before args s = true := fun w h => hts w ((by decide +kernel : ∀ w ∈ wsX10, w ∈ wsX1_can) w h)
  have b_nw := hI.nw
  have b_nv := hI.nv
  have b_gt := (gt_le hI f t hu).2
  have hl : lv_has ls 7 [(0, .ref (ad 0)), (1, .int (nI (f))), (2, .int (nI (t))), (3, .int (nI (u)))] := hl
  refine lv_aload_n hx hb dX1_can_0 rfl (lv_at hl 0 rfl) ?_
  refine lv_iload_n hx hb dX1_can_1 rfl (lv_at hl 1 rfl) ?_
  refine lv_iload_n hx hb dX1_can_2 rfl (lv_at hl 2 rfl) ?_
  refine lv_iload_n hx hb dX1_can_3 rfl (lv_at hl 3 rfl) ?_
  refine vp_callSi (W.runV (As := [.int (nI (f)), .int (nI (t)), .int (nI (u))]) (rest := []) ⟨hx, hb, hml, hown, hts⟩ (c1_got l hI (f := f) (t := t) (u := u) (by omega) (by omega) (by omega)) (cwV 3 hts gX1_can_X1_got rfl rfl rfl (by decide +kernel) (by decide)) (pv1 hK hP) rfl rfl hl.1 rfl (lv_room (Nat.le_of_ble_eq_true rfl)) dX1_can_4 (by decide)) (fun r_1 hr_1 => ?_)
  subst hr_1
  have f_2 := (gt_le hI (f) (t) (u := u) (by omega)).2
  refine lv_istore (lv' := [(4, .int (nI (gt M (f) (t) (u)))), (0, .ref (ad 0)), (1, .int (nI (f))), (2, .int (nI (t))), (3, .int (nI (u)))]) hx hb dX1_can_7 hl (by decide) rfl (fun ls hl => ?_)
  refine lv_aload_n hx hb dX1_can_9 rfl (lv_at hl 1 rfl) ?_
  refine zg1 hx hb hw0 hown hK hP (by decide) rfl 3 (by decide) (hts (.fieldLink RX1 16 "WellFieldModel" "licence" "[I") (by decide +kernel)) rfl rfl dX1_can_10 ?_
  refine lv_iload_n hx hb dX1_can_13 rfl (lv_at hl 2 rfl) ?_
  refine zi_ld hx hb hK hP 3 (by decide) 0 rfl rfl (by decide) (i := f) (by omega) (v := nI (M 3 (f))) rfl dX1_can_14 ?_
  have f_3 := hI.li (f)
  refine lv_iload_n hx hb dX1_can_15 rfl (lv_at hl 4 rfl) ?_
  refine zb_lt (tgt := 38) hx hb (by omega) (by omega) dX1_can_16 (by decide) (fun c_4 => ?_) (fun c_4 => ?_)
  · skip
    refine lv_iconst (v := nI 0) hx hb dX1_can_38 (by decide) ?_
    refine zt_i (y := bB (decide (u ≤ M 3 f) && decide (M 3 t + gt M f t u ≤ 20000) && cnv M f t u 0)) (bB_0.trans (congrArg bB (by first | rw [decide_eq_false (show ¬ u ≤ M 3 f by omega), Bool.false_and, Bool.false_and] | rw [decide_eq_false (show ¬ M 3 t + gt M f t u ≤ 20000 by omega), Bool.and_false, Bool.false_and]))) ?_
    refine lv_istore (lv' := [(5, .int (bB (decide (u ≤ M 3 f) && decide (M 3 t + gt M f t u ≤ 20000) && cnv M f t u 0))), (4, .int (nI (gt M (f) (t) (u)))), (0, .ref (ad 0)), (1, .int (nI (f))), (2, .int (nI (t))), (3, .int (nI (u)))]) hx hb dX1_can_39 hl (by decide) rfl (fun ls hl => ?_)
    refine lv_iconst (v := nI 0) hx hb dX1_can_41 (by decide) ?_
    refine lv_istore (lv' := [(6, .int (nI (0))), (5, .int (bB (decide (u ≤ M 3 f) && decide (M 3 t + gt M f t u ≤ 20000) && cnv M f t u 0))), (4, .int (nI (gt M (f) (t) (u)))), (0, .ref (ad 0)), (1, .int (nI (f))), (2, .int (nI (t))), (3, .int (nI (u)))]) hx hb dX1_can_42 hl (by decide) rfl (fun ls hl => ?_)
    have lp44 : ∀ (n v : Nat), v ≤ M 5 0 → M 5 0 - v < n → ∀ ls : Array Slot, lv_has ls 7 [(0, .ref (ad 0)), (1, .int (nI (f))), (2, .int (nI (t))), (3, .int (nI (u))), (4, .int (nI (gt M (f) (t) (u)))), (5, .int (bB (decide (u ≤ M 3 f) && decide (M 3 t + gt M f t u ≤ 20000) && cnv M f t u (v)))), (6, .int (nI (v)))] → W p l e (rmP 2) s m args below meth c s.heap [] 0 0 Q (F0 m 44 ls []) := by
      intro n
      induction n with
      | zero => intro v q1 q2; omega
      | succ n ih44 =>
        intro v q1_44 q2_44 ls hl
        refine lv_iload hx hb dX1_can_44 (lv_at hl 6 rfl) ?_
        refine lv_aload_n hx hb dX1_can_46 rfl (lv_at hl 0 rfl) ?_
        refine zg1 hx hb hw0 hown hK hP (by decide) rfl 5 (by decide) (hts (.fieldLink RX1 45 "WellFieldModel" "watches" "I") (by decide +kernel)) rfl rfl dX1_can_47 ?_
        refine zb_ge (tgt := 98) hx hb (by omega) (by omega) dX1_can_50 (by decide) (fun c_5 => ?_) (fun c_5 => ?_)
        · skip
          have q_6 : v = M 5 0 := by omega
          subst q_6
          refine lv_iload hx hb dX1_can_98 (lv_at hl 5 rfl) ?_
          exact hret (b := decide (u ≤ M 3 f) && decide (M 3 t + gt M f t u ≤ 20000) && cnv M f t u (M 5 0)) rfl rfl dX1_can_100
        · skip
          refine lv_iload hx hb dX1_can_53 (lv_at hl 5 rfl) ?_
          refine zb_Beq (tgt := 89) hx hb dX1_can_55 (by decide) (fun c_7 => ?_) (fun c_7 => ?_)
          · skip
            refine lv_iconst (v := nI 0) hx hb dX1_can_89 (by decide) ?_
            have e90 : (decide (u ≤ M 3 f) && decide (M 3 t + gt M f t u ≤ 20000) && cnv M f t u (v + 1)) = ((decide (u ≤ M 3 f) && decide (M 3 t + gt M f t u ≤ 20000) && cnv M f t u v) && decide (gt M f t u * als M t v ≤ u * als M f v)) := (Bool.and_assoc _ _ _).symm
            refine zt_i (y := bB (decide (u ≤ M 3 f) && decide (M 3 t + gt M f t u ≤ 20000) && cnv M f t u (v + 1))) (bB_0.trans (congrArg bB (by rw [e90, c_7]; rfl))) ?_
            refine lv_istore (lv' := [(5, .int (bB (decide (u ≤ M 3 f) && decide (M 3 t + gt M f t u ≤ 20000) && cnv M f t u (v + 1)))), (0, .ref (ad 0)), (1, .int (nI (f))), (2, .int (nI (t))), (3, .int (nI (u))), (4, .int (nI (gt M (f) (t) (u)))), (6, .int (nI (v)))]) hx hb dX1_can_90 hl (by decide) rfl (fun ls hl => ?_)
            refine lv_iinc (v := nI (v + 1)) (lv' := [(6, .int (nI (v + 1))), (5, .int (bB (decide (u ≤ M 3 f) && decide (M 3 t + gt M f t u ≤ 20000) && cnv M f t u (v + 1)))), (0, .ref (ad 0)), (1, .int (nI (f))), (2, .int (nI (t))), (3, .int (nI (u))), (4, .int (nI (gt M (f) (t) (u))))]) hx hb dX1_can_92 hl (k := 6) rfl (zn_inc (v)) (by decide) rfl (fun ls hl => ?_)
            refine lv_goto (tgt := 44) hx hb dX1_can_95 (by decide) ?_
            exact ih44 (v + 1) (by omega) (by omega) _ (lv_sub hl [2, 3, 4, 5, 6, 1, 0] rfl)
          · skip
            refine lv_iload hx hb dX1_can_58 (lv_at hl 4 rfl) ?_
            refine zr_i2l hx hb (by omega) dX1_can_60 ?_
            refine lv_aload_n hx hb dX1_can_61 rfl (lv_at hl 0 rfl) ?_
            refine lv_iload_n hx hb dX1_can_62 rfl (lv_at hl 2 rfl) ?_
            refine lv_iload hx hb dX1_can_63 (lv_at hl 6 rfl) ?_
            refine vp_callSi (W.runV (As := [.int (nI (t)), .int (nI (v))]) (rest := [.long (lN (gt M (f) (t) (u)))]) ⟨hx, hb, hml, hown, hts⟩ (c1_allOf l hI (w := t) (v := v) (by omega) (by omega)) (cwV 2 hts gX1_can_X1_allOf rfl rfl rfl (by decide +kernel) (by decide)) (pv1 hK hP) rfl rfl hl.1 rfl (lv_room (Nat.le_of_ble_eq_true rfl)) dX1_can_65 (by decide)) (fun r_8 hr_8 => ?_)
            subst hr_8
            have f_9 := als_le hI (t) (v)
            refine zr_i2l hx hb (by omega) dX1_can_68 ?_
            refine zr_lmul hx hb dX1_can_69 ?_
            refine lv_iload_n hx hb dX1_can_70 rfl (lv_at hl 3 rfl) ?_
            refine zr_i2l hx hb (by omega) dX1_can_71 ?_
            refine lv_aload_n hx hb dX1_can_72 rfl (lv_at hl 0 rfl) ?_
            refine lv_iload_n hx hb dX1_can_73 rfl (lv_at hl 1 rfl) ?_
            refine lv_iload hx hb dX1_can_74 (lv_at hl 6 rfl) ?_
            refine vp_callSi (W.runV (As := [.int (nI (f)), .int (nI (v))]) (rest := [.long (lN (u)), .long (lN ((gt M (f) (t) (u)) * (als M (t) (v))))]) ⟨hx, hb, hml, hown, hts⟩ (c1_allOf l hI (w := f) (v := v) (by omega) (by omega)) (cwV 2 hts gX1_can_X1_allOf rfl rfl rfl (by decide +kernel) (by decide)) (pv1 hK hP) rfl rfl hl.1 rfl (lv_room (Nat.le_of_ble_eq_true rfl)) dX1_can_76 (by decide)) (fun r_10 hr_10 => ?_)
            subst hr_10
            have f_11 := als_le hI (f) (v)
            refine zr_i2l hx hb (by omega) dX1_can_79 ?_
            refine zr_lmul hx hb dX1_can_80 ?_
            refine zbL_gt (tgt := 89) hx hb (by have h1 := als_le hI t v; have h2 := Nat.mul_le_mul b_gt h1; omega) (by have h1 := als_le hI f v; have h2 := Nat.mul_le_mul hu h1; omega) dX1_can_81 dX1_can_82 (by decide) (fun c_12 => ?_) (fun c_12 => ?_)
            · skip
              refine lv_iconst (v := nI 0) hx hb dX1_can_89 (by decide) ?_
              have e90 : (decide (u ≤ M 3 f) && decide (M 3 t + gt M f t u ≤ 20000) && cnv M f t u (v + 1)) = ((decide (u ≤ M 3 f) && decide (M 3 t + gt M f t u ≤ 20000) && cnv M f t u v) && decide (gt M f t u * als M t v ≤ u * als M f v)) := (Bool.and_assoc _ _ _).symm
              refine zt_i (y := bB (decide (u ≤ M 3 f) && decide (M 3 t + gt M f t u ≤ 20000) && cnv M f t u (v + 1))) (bB_0.trans (congrArg bB (by rw [e90, decide_eq_false (show ¬ gt M f t u * als M t v ≤ u * als M f v by omega), Bool.and_false]))) ?_
              refine lv_istore (lv' := [(5, .int (bB (decide (u ≤ M 3 f) && decide (M 3 t + gt M f t u ≤ 20000) && cnv M f t u (v + 1)))), (0, .ref (ad 0)), (1, .int (nI (f))), (2, .int (nI (t))), (3, .int (nI (u))), (4, .int (nI (gt M (f) (t) (u)))), (6, .int (nI (v)))]) hx hb dX1_can_90 hl (by decide) rfl (fun ls hl => ?_)
              refine lv_iinc (v := nI (v + 1)) (lv' := [(6, .int (nI (v + 1))), (5, .int (bB (decide (u ≤ M 3 f) && decide (M 3 t + gt M f t u ≤ 20000) && cnv M f t u (v + 1)))), (0, .ref (ad 0)), (1, .int (nI (f))), (2, .int (nI (t))), (3, .int (nI (u))), (4, .int (nI (gt M (f) (t) (u))))]) hx hb dX1_can_92 hl (k := 6) rfl (zn_inc (v)) (by decide) rfl (fun ls hl => ?_)
              refine lv_goto (tgt := 44) hx hb dX1_can_95 (by decide) ?_
              exact ih44 (v + 1) (by omega) (by omega) _ (lv_sub hl [2, 3, 4, 5, 6, 1, 0] rfl)
            · skip
              refine lv_iconst (v := nI 1) hx hb dX1_can_85 (by decide) ?_
              refine lv_goto (tgt := 90) hx hb dX1_can_86 (by decide) ?_
              have e90 : (decide (u ≤ M 3 f) && decide (M 3 t + gt M f t u ≤ 20000) && cnv M f t u (v + 1)) = ((decide (u ≤ M 3 f) && decide (M 3 t + gt M f t u ≤ 20000) && cnv M f t u v) && decide (gt M f t u * als M t v ≤ u * als M f v)) := (Bool.and_assoc _ _ _).symm
              refine zt_i (y := bB (decide (u ≤ M 3 f) && decide (M 3 t + gt M f t u ≤ 20000) && cnv M f t u (v + 1))) (bB_1.trans (congrArg bB (by rw [e90, c_7, decide_eq_true (by omega)]; rfl))) ?_
              refine lv_istore (lv' := [(5, .int (bB (decide (u ≤ M 3 f) && decide (M 3 t + gt M f t u ≤ 20000) && cnv M f t u (v + 1)))), (0, .ref (ad 0)), (1, .int (nI (f))), (2, .int (nI (t))), (3, .int (nI (u))), (4, .int (nI (gt M (f) (t) (u)))), (6, .int (nI (v)))]) hx hb dX1_can_90 hl (by decide) rfl (fun ls hl => ?_)
              refine lv_iinc (v := nI (v + 1)) (lv' := [(6, .int (nI (v + 1))), (5, .int (bB (decide (u ≤ M 3 f) && decide (M 3 t + gt M f t u ≤ 20000) && cnv M f t u (v + 1)))), (0, .ref (ad 0)), (1, .int (nI (f))), (2, .int (nI (t))), (3, .int (nI (u))), (4, .int (nI (gt M (f) (t) (u))))]) hx hb dX1_can_92 hl (k := 6) rfl (zn_inc (v)) (by decide) rfl (fun ls hl => ?_)
              refine lv_goto (tgt := 44) hx hb dX1_can_95 (by decide) ?_
              exact ih44 (v + 1) (by omega) (by omega) _ (lv_sub hl [2, 3, 4, 5, 6, 1, 0] rfl)
    exact lp44 (M 5 0 - (0) + 1) (0) (by omega) (by omega) _ (lv_sub hl [3, 4, 5, 6, 2, 1, 0] rfl)
  · skip
    refine lv_aload_n hx hb dX1_can_19 rfl (lv_at hl 1 rfl) ?_
    refine zg1 hx hb hw0 hown hK hP (by decide) rfl 3 (by decide) (hts (.fieldLink RX1 16 "WellFieldModel" "licence" "[I") (by decide +kernel)) rfl rfl dX1_can_20 ?_
    refine lv_iload_n hx hb dX1_can_23 rfl (lv_at hl 3 rfl) ?_
    refine zi_ld hx hb hK hP 3 (by decide) 0 rfl rfl (by decide) (i := t) (by omega) (v := nI (M 3 (t))) rfl dX1_can_24 ?_
    have f_13 := hI.li (t)
    refine lv_iload hx hb dX1_can_25 (lv_at hl 0 rfl) ?_
    refine zr_iadd hx hb dX1_can_27 ?_
    refine lv_sipush (v := nI 20000) hx hb dX1_can_28 (by decide) ?_
    refine zb_gt (tgt := 38) hx hb (by omega) (by omega) dX1_can_31 (by decide) (fun c_14 => ?_) (fun c_14 => ?_)
    · skip
      refine lv_iconst (v := nI 0) hx hb dX1_can_38 (by decide) ?_
      refine zt_i (y := bB (decide (u ≤ M 3 f) && decide (M 3 t + gt M f t u ≤ 20000) && cnv M f t u 0)) (bB_0.trans (congrArg bB (by first | rw [decide_eq_false (show ¬ u ≤ M 3 f by omega), Bool.false_and, Bool.false_and] | rw [decide_eq_false (show ¬ M 3 t + gt M f t u ≤ 20000 by omega), Bool.and_false, Bool.false_and]))) ?_
      refine lv_istore (lv' := [(5, .int (bB (decide (u ≤ M 3 f) && decide (M 3 t + gt M f t u ≤ 20000) && cnv M f t u 0))), (4, .int (nI (gt M (f) (t) (u)))), (0, .ref (ad 0)), (1, .int (nI (f))), (2, .int (nI (t))), (3, .int (nI (u)))]) hx hb dX1_can_39 hl (by decide) rfl (fun ls hl => ?_)
      refine lv_iconst (v := nI 0) hx hb dX1_can_41 (by decide) ?_
      refine lv_istore (lv' := [(6, .int (nI (0))), (5, .int (bB (decide (u ≤ M 3 f) && decide (M 3 t + gt M f t u ≤ 20000) && cnv M f t u 0))), (4, .int (nI (gt M (f) (t) (u)))), (0, .ref (ad 0)), (1, .int (nI (f))), (2, .int (nI (t))), (3, .int (nI (u)))]) hx hb dX1_can_42 hl (by decide) rfl (fun ls hl => ?_)
      have lp44 : ∀ (n v : Nat), v ≤ M 5 0 → M 5 0 - v < n → ∀ ls : Array Slot, lv_has ls 7 [(0, .ref (ad 0)), (1, .int (nI (f))), (2, .int (nI (t))), (3, .int (nI (u))), (4, .int (nI (gt M (f) (t) (u)))), (5, .int (bB (decide (u ≤ M 3 f) && decide (M 3 t + gt M f t u ≤ 20000) && cnv M f t u (v)))), (6, .int (nI (v)))] → W p l e (rmP 2) s m args below meth c s.heap [] 0 0 Q (F0 m 44 ls []) := by
        intro n
        induction n with
        | zero => intro v q1 q2; omega
        | succ n ih44 =>
          intro v q1_44 q2_44 ls hl
          refine lv_iload hx hb dX1_can_44 (lv_at hl 6 rfl) ?_
          refine lv_aload_n hx hb dX1_can_46 rfl (lv_at hl 0 rfl) ?_
          refine zg1 hx hb hw0 hown hK hP (by decide) rfl 5 (by decide) (hts (.fieldLink RX1 45 "WellFieldModel" "watches" "I") (by decide +kernel)) rfl rfl dX1_can_47 ?_
          refine zb_ge (tgt := 98) hx hb (by omega) (by omega) dX1_can_50 (by decide) (fun c_15 => ?_) (fun c_15 => ?_)
          · skip
            have q_16 : v = M 5 0 := by omega
            subst q_16
            refine lv_iload hx hb dX1_can_98 (lv_at hl 5 rfl) ?_
            exact hret (b := decide (u ≤ M 3 f) && decide (M 3 t + gt M f t u ≤ 20000) && cnv M f t u (M 5 0)) rfl rfl dX1_can_100
          · skip
            refine lv_iload hx hb dX1_can_53 (lv_at hl 5 rfl) ?_
            refine zb_Beq (tgt := 89) hx hb dX1_can_55 (by decide) (fun c_17 => ?_) (fun c_17 => ?_)
            · skip
              refine lv_iconst (v := nI 0) hx hb dX1_can_89 (by decide) ?_
              have e90 : (decide (u ≤ M 3 f) && decide (M 3 t + gt M f t u ≤ 20000) && cnv M f t u (v + 1)) = ((decide (u ≤ M 3 f) && decide (M 3 t + gt M f t u ≤ 20000) && cnv M f t u v) && decide (gt M f t u * als M t v ≤ u * als M f v)) := (Bool.and_assoc _ _ _).symm
              refine zt_i (y := bB (decide (u ≤ M 3 f) && decide (M 3 t + gt M f t u ≤ 20000) && cnv M f t u (v + 1))) (bB_0.trans (congrArg bB (by rw [e90, c_17]; rfl))) ?_
              refine lv_istore (lv' := [(5, .int (bB (decide (u ≤ M 3 f) && decide (M 3 t + gt M f t u ≤ 20000) && cnv M f t u (v + 1)))), (0, .ref (ad 0)), (1, .int (nI (f))), (2, .int (nI (t))), (3, .int (nI (u))), (4, .int (nI (gt M (f) (t) (u)))), (6, .int (nI (v)))]) hx hb dX1_can_90 hl (by decide) rfl (fun ls hl => ?_)
              refine lv_iinc (v := nI (v + 1)) (lv' := [(6, .int (nI (v + 1))), (5, .int (bB (decide (u ≤ M 3 f) && decide (M 3 t + gt M f t u ≤ 20000) && cnv M f t u (v + 1)))), (0, .ref (ad 0)), (1, .int (nI (f))), (2, .int (nI (t))), (3, .int (nI (u))), (4, .int (nI (gt M (f) (t) (u))))]) hx hb dX1_can_92 hl (k := 6) rfl (zn_inc (v)) (by decide) rfl (fun ls hl => ?_)
              refine lv_goto (tgt := 44) hx hb dX1_can_95 (by decide) ?_
              exact ih44 (v + 1) (by omega) (by omega) _ (lv_sub hl [2, 3, 4, 5, 6, 1, 0] rfl)
            · skip
              refine lv_iload hx hb dX1_can_58 (lv_at hl 4 rfl) ?_
              refine zr_i2l hx hb (by omega) dX1_can_60 ?_
              refine lv_aload_n hx hb dX1_can_61 rfl (lv_at hl 0 rfl) ?_
              refine lv_iload_n hx hb dX1_can_62 rfl (lv_at hl 2 rfl) ?_
              refine lv_iload hx hb dX1_can_63 (lv_at hl 6 rfl) ?_
              refine vp_callSi (W.runV (As := [.int (nI (t)), .int (nI (v))]) (rest := [.long (lN (gt M (f) (t) (u)))]) ⟨hx, hb, hml, hown, hts⟩ (c1_allOf l hI (w := t) (v := v) (by omega) (by omega)) (cwV 2 hts gX1_can_X1_allOf rfl rfl rfl (by decide +kernel) (by decide)) (pv1 hK hP) rfl rfl hl.1 rfl (lv_room (Nat.le_of_ble_eq_true rfl)) dX1_can_65 (by decide)) (fun r_18 hr_18 => ?_)
              subst hr_18
              have f_19 := als_le hI (t) (v)
              refine zr_i2l hx hb (by omega) dX1_can_68 ?_
              refine zr_lmul hx hb dX1_can_69 ?_
              refine lv_iload_n hx hb dX1_can_70 rfl (lv_at hl 3 rfl) ?_
              refine zr_i2l hx hb (by omega) dX1_can_71 ?_
              refine lv_aload_n hx hb dX1_can_72 rfl (lv_at hl 0 rfl) ?_
              refine lv_iload_n hx hb dX1_can_73 rfl (lv_at hl 1 rfl) ?_
              refine lv_iload hx hb dX1_can_74 (lv_at hl 6 rfl) ?_
              refine vp_callSi (W.runV (As := [.int (nI (f)), .int (nI (v))]) (rest := [.long (lN (u)), .long (lN ((gt M (f) (t) (u)) * (als M (t) (v))))]) ⟨hx, hb, hml, hown, hts⟩ (c1_allOf l hI (w := f) (v := v) (by omega) (by omega)) (cwV 2 hts gX1_can_X1_allOf rfl rfl rfl (by decide +kernel) (by decide)) (pv1 hK hP) rfl rfl hl.1 rfl (lv_room (Nat.le_of_ble_eq_true rfl)) dX1_can_76 (by decide)) (fun r_20 hr_20 => ?_)
              subst hr_20
              have f_21 := als_le hI (f) (v)
              refine zr_i2l hx hb (by omega) dX1_can_79 ?_
              refine zr_lmul hx hb dX1_can_80 ?_
              refine zbL_gt (tgt := 89) hx hb (by have h1 := als_le hI t v; have h2 := Nat.mul_le_mul b_gt h1; omega) (by have h1 := als_le hI f v; have h2 := Nat.mul_le_mul hu h1; omega) dX1_can_81 dX1_can_82 (by decide) (fun c_22 => ?_) (fun c_22 => ?_)
              · skip
                refine lv_iconst (v := nI 0) hx hb dX1_can_89 (by decide) ?_
                have e90 : (decide (u ≤ M 3 f) && decide (M 3 t + gt M f t u ≤ 20000) && cnv M f t u (v + 1)) = ((decide (u ≤ M 3 f) && decide (M 3 t + gt M f t u ≤ 20000) && cnv M f t u v) && decide (gt M f t u * als M t v ≤ u * als M f v)) := (Bool.and_assoc _ _ _).symm
                refine zt_i (y := bB (decide (u ≤ M 3 f) && decide (M 3 t + gt M f t u ≤ 20000) && cnv M f t u (v + 1))) (bB_0.trans (congrArg bB (by rw [e90, decide_eq_false (show ¬ gt M f t u * als M t v ≤ u * als M f v by omega), Bool.and_false]))) ?_
                refine lv_istore (lv' := [(5, .int (bB (decide (u ≤ M 3 f) && decide (M 3 t + gt M f t u ≤ 20000) && cnv M f t u (v + 1)))), (0, .ref (ad 0)), (1, .int (nI (f))), (2, .int (nI (t))), (3, .int (nI (u))), (4, .int (nI (gt M (f) (t) (u)))), (6, .int (nI (v)))]) hx hb dX1_can_90 hl (by decide) rfl (fun ls hl => ?_)
                refine lv_iinc (v := nI (v + 1)) (lv' := [(6, .int (nI (v + 1))), (5, .int (bB (decide (u ≤ M 3 f) && decide (M 3 t + gt M f t u ≤ 20000) && cnv M f t u (v + 1)))), (0, .ref (ad 0)), (1, .int (nI (f))), (2, .int (nI (t))), (3, .int (nI (u))), (4, .int (nI (gt M (f) (t) (u))))]) hx hb dX1_can_92 hl (k := 6) rfl (zn_inc (v)) (by decide) rfl (fun ls hl => ?_)
                refine lv_goto (tgt := 44) hx hb dX1_can_95 (by decide) ?_
                exact ih44 (v + 1) (by omega) (by omega) _ (lv_sub hl [2, 3, 4, 5, 6, 1, 0] rfl)
              · skip
                refine lv_iconst (v := nI 1) hx hb dX1_can_85 (by decide) ?_
                refine lv_goto (tgt := 90) hx hb dX1_can_86 (by decide) ?_
                have e90 : (decide (u ≤ M 3 f) && decide (M 3 t + gt M f t u ≤ 20000) && cnv M f t u (v + 1)) = ((decide (u ≤ M 3 f) && decide (M 3 t + gt M f t u ≤ 20000) && cnv M f t u v) && decide (gt M f t u * als M t v ≤ u * als M f v)) := (Bool.and_assoc _ _ _).symm
                refine zt_i (y := bB (decide (u ≤ M 3 f) && decide (M 3 t + gt M f t u ≤ 20000) && cnv M f t u (v + 1))) (bB_1.trans (congrArg bB (by rw [e90, c_17, decide_eq_true (by omega)]; rfl))) ?_
                refine lv_istore (lv' := [(5, .int (bB (decide (u ≤ M 3 f) && decide (M 3 t + gt M f t u ≤ 20000) && cnv M f t u (v + 1)))), (0, .ref (ad 0)), (1, .int (nI (f))), (2, .int (nI (t))), (3, .int (nI (u))), (4, .int (nI (gt M (f) (t) (u)))), (6, .int (nI (v)))]) hx hb dX1_can_90 hl (by decide) rfl (fun ls hl => ?_)
                refine lv_iinc (v := nI (v + 1)) (lv' := [(6, .int (nI (v + 1))), (5, .int (bB (decide (u ≤ M 3 f) && decide (M 3 t + gt M f t u ≤ 20000) && cnv M f t u (v + 1)))), (0, .ref (ad 0)), (1, .int (nI (f))), (2, .int (nI (t))), (3, .int (nI (u))), (4, .int (nI (gt M (f) (t) (u))))]) hx hb dX1_can_92 hl (k := 6) rfl (zn_inc (v)) (by decide) rfl (fun ls hl => ?_)
                refine lv_goto (tgt := 44) hx hb dX1_can_95 (by decide) ?_
                exact ih44 (v + 1) (by omega) (by omega) _ (lv_sub hl [2, 3, 4, 5, 6, 1, 0] rfl)
      exact lp44 (M 5 0 - (0) + 1) (0) (by omega) (by omega) _ (lv_sub hl [3, 4, 5, 6, 2, 1, 0] rfl)
    · skip
      refine lv_iconst (v := nI 1) hx hb dX1_can_34 (by decide) ?_
      refine lv_goto (tgt := 39) hx hb dX1_can_35 (by decide) ?_
      refine zt_i (y := bB (decide (u ≤ M 3 f) && decide (M 3 t + gt M f t u ≤ 20000) && cnv M f t u 0)) (bB_1.trans (congrArg bB (by rw [decide_eq_true (by omega), decide_eq_true (by omega)]; rfl))) ?_
      refine lv_istore (lv' := [(5, .int (bB (decide (u ≤ M 3 f) && decide (M 3 t + gt M f t u ≤ 20000) && cnv M f t u 0))), (4, .int (nI (gt M (f) (t) (u)))), (0, .ref (ad 0)), (1, .int (nI (f))), (2, .int (nI (t))), (3, .int (nI (u)))]) hx hb dX1_can_39 hl (by decide) rfl (fun ls hl => ?_)
      refine lv_iconst (v := nI 0) hx hb dX1_can_41 (by decide) ?_
      refine lv_istore (lv' := [(6, .int (nI (0))), (5, .int (bB (decide (u ≤ M 3 f) && decide (M 3 t + gt M f t u ≤ 20000) && cnv M f t u 0))), (4, .int (nI (gt M (f) (t) (u)))), (0, .ref (ad 0)), (1, .int (nI (f))), (2, .int (nI (t))), (3, .int (nI (u)))]) hx hb dX1_can_42 hl (by decide) rfl (fun ls hl => ?_)
      have lp44 : ∀ (n v : Nat), v ≤ M 5 0 → M 5 0 - v < n → ∀ ls : Array Slot, lv_has ls 7 [(0, .ref (ad 0)), (1, .int (nI (f))), (2, .int (nI (t))), (3, .int (nI (u))), (4, .int (nI (gt M (f) (t) (u)))), (5, .int (bB (decide (u ≤ M 3 f) && decide (M 3 t + gt M f t u ≤ 20000) && cnv M f t u (v)))), (6, .int (nI (v)))] → W p l e (rmP 2) s m args below meth c s.heap [] 0 0 Q (F0 m 44 ls []) := by
        intro n
        induction n with
        | zero => intro v q1 q2; omega
        | succ n ih44 =>
          intro v q1_44 q2_44 ls hl
          refine lv_iload hx hb dX1_can_44 (lv_at hl 6 rfl) ?_
          refine lv_aload_n hx hb dX1_can_46 rfl (lv_at hl 0 rfl) ?_
          refine zg1 hx hb hw0 hown hK hP (by decide) rfl 5 (by decide) (hts (.fieldLink RX1 45 "WellFieldModel" "watches" "I") (by decide +kernel)) rfl rfl dX1_can_47 ?_
          refine zb_ge (tgt := 98) hx hb (by omega) (by omega) dX1_can_50 (by decide) (fun c_23 => ?_) (fun c_23 => ?_)
          · skip
            have q_24 : v = M 5 0 := by omega
            subst q_24
            refine lv_iload hx hb dX1_can_98 (lv_at hl 5 rfl) ?_
            exact hret (b := decide (u ≤ M 3 f) && decide (M 3 t + gt M f t u ≤ 20000) && cnv M f t u (M 5 0)) rfl rfl dX1_can_100
          · skip
            refine lv_iload hx hb dX1_can_53 (lv_at hl 5 rfl) ?_
            refine zb_Beq (tgt := 89) hx hb dX1_can_55 (by decide) (fun c_25 => ?_) (fun c_25 => ?_)
            · skip
              refine lv_iconst (v := nI 0) hx hb dX1_can_89 (by decide) ?_
              have e90 : (decide (u ≤ M 3 f) && decide (M 3 t + gt M f t u ≤ 20000) && cnv M f t u (v + 1)) = ((decide (u ≤ M 3 f) && decide (M 3 t + gt M f t u ≤ 20000) && cnv M f t u v) && decide (gt M f t u * als M t v ≤ u * als M f v)) := (Bool.and_assoc _ _ _).symm
              refine zt_i (y := bB (decide (u ≤ M 3 f) && decide (M 3 t + gt M f t u ≤ 20000) && cnv M f t u (v + 1))) (bB_0.trans (congrArg bB (by rw [e90, c_25]; rfl))) ?_
              refine lv_istore (lv' := [(5, .int (bB (decide (u ≤ M 3 f) && decide (M 3 t + gt M f t u ≤ 20000) && cnv M f t u (v + 1)))), (0, .ref (ad 0)), (1, .int (nI (f))), (2, .int (nI (t))), (3, .int (nI (u))), (4, .int (nI (gt M (f) (t) (u)))), (6, .int (nI (v)))]) hx hb dX1_can_90 hl (by decide) rfl (fun ls hl => ?_)
              refine lv_iinc (v := nI (v + 1)) (lv' := [(6, .int (nI (v + 1))), (5, .int (bB (decide (u ≤ M 3 f) && decide (M 3 t + gt M f t u ≤ 20000) && cnv M f t u (v + 1)))), (0, .ref (ad 0)), (1, .int (nI (f))), (2, .int (nI (t))), (3, .int (nI (u))), (4, .int (nI (gt M (f) (t) (u))))]) hx hb dX1_can_92 hl (k := 6) rfl (zn_inc (v)) (by decide) rfl (fun ls hl => ?_)
              refine lv_goto (tgt := 44) hx hb dX1_can_95 (by decide) ?_
              exact ih44 (v + 1) (by omega) (by omega) _ (lv_sub hl [2, 3, 4, 5, 6, 1, 0] rfl)
            · skip
              refine lv_iload hx hb dX1_can_58 (lv_at hl 4 rfl) ?_
              refine zr_i2l hx hb (by omega) dX1_can_60 ?_
              refine lv_aload_n hx hb dX1_can_61 rfl (lv_at hl 0 rfl) ?_
              refine lv_iload_n hx hb dX1_can_62 rfl (lv_at hl 2 rfl) ?_
              refine lv_iload hx hb dX1_can_63 (lv_at hl 6 rfl) ?_
              refine vp_callSi (W.runV (As := [.int (nI (t)), .int (nI (v))]) (rest := [.long (lN (gt M (f) (t) (u)))]) ⟨hx, hb, hml, hown, hts⟩ (c1_allOf l hI (w := t) (v := v) (by omega) (by omega)) (cwV 2 hts gX1_can_X1_allOf rfl rfl rfl (by decide +kernel) (by decide)) (pv1 hK hP) rfl rfl hl.1 rfl (lv_room (Nat.le_of_ble_eq_true rfl)) dX1_can_65 (by decide)) (fun r_26 hr_26 => ?_)
              subst hr_26
              have f_27 := als_le hI (t) (v)
              refine zr_i2l hx hb (by omega) dX1_can_68 ?_
              refine zr_lmul hx hb dX1_can_69 ?_
              refine lv_iload_n hx hb dX1_can_70 rfl (lv_at hl 3 rfl) ?_
              refine zr_i2l hx hb (by omega) dX1_can_71 ?_
              refine lv_aload_n hx hb dX1_can_72 rfl (lv_at hl 0 rfl) ?_
              refine lv_iload_n hx hb dX1_can_73 rfl (lv_at hl 1 rfl) ?_
              refine lv_iload hx hb dX1_can_74 (lv_at hl 6 rfl) ?_
              refine vp_callSi (W.runV (As := [.int (nI (f)), .int (nI (v))]) (rest := [.long (lN (u)), .long (lN ((gt M (f) (t) (u)) * (als M (t) (v))))]) ⟨hx, hb, hml, hown, hts⟩ (c1_allOf l hI (w := f) (v := v) (by omega) (by omega)) (cwV 2 hts gX1_can_X1_allOf rfl rfl rfl (by decide +kernel) (by decide)) (pv1 hK hP) rfl rfl hl.1 rfl (lv_room (Nat.le_of_ble_eq_true rfl)) dX1_can_76 (by decide)) (fun r_28 hr_28 => ?_)
              subst hr_28
              have f_29 := als_le hI (f) (v)
              refine zr_i2l hx hb (by omega) dX1_can_79 ?_
              refine zr_lmul hx hb dX1_can_80 ?_
              refine zbL_gt (tgt := 89) hx hb (by have h1 := als_le hI t v; have h2 := Nat.mul_le_mul b_gt h1; omega) (by have h1 := als_le hI f v; have h2 := Nat.mul_le_mul hu h1; omega) dX1_can_81 dX1_can_82 (by decide) (fun c_30 => ?_) (fun c_30 => ?_)
              · skip
                refine lv_iconst (v := nI 0) hx hb dX1_can_89 (by decide) ?_
                have e90 : (decide (u ≤ M 3 f) && decide (M 3 t + gt M f t u ≤ 20000) && cnv M f t u (v + 1)) = ((decide (u ≤ M 3 f) && decide (M 3 t + gt M f t u ≤ 20000) && cnv M f t u v) && decide (gt M f t u * als M t v ≤ u * als M f v)) := (Bool.and_assoc _ _ _).symm
                refine zt_i (y := bB (decide (u ≤ M 3 f) && decide (M 3 t + gt M f t u ≤ 20000) && cnv M f t u (v + 1))) (bB_0.trans (congrArg bB (by rw [e90, decide_eq_false (show ¬ gt M f t u * als M t v ≤ u * als M f v by omega), Bool.and_false]))) ?_
                refine lv_istore (lv' := [(5, .int (bB (decide (u ≤ M 3 f) && decide (M 3 t + gt M f t u ≤ 20000) && cnv M f t u (v + 1)))), (0, .ref (ad 0)), (1, .int (nI (f))), (2, .int (nI (t))), (3, .int (nI (u))), (4, .int (nI (gt M (f) (t) (u)))), (6, .int (nI (v)))]) hx hb dX1_can_90 hl (by decide) rfl (fun ls hl => ?_)
                refine lv_iinc (v := nI (v + 1)) (lv' := [(6, .int (nI (v + 1))), (5, .int (bB (decide (u ≤ M 3 f) && decide (M 3 t + gt M f t u ≤ 20000) && cnv M f t u (v + 1)))), (0, .ref (ad 0)), (1, .int (nI (f))), (2, .int (nI (t))), (3, .int (nI (u))), (4, .int (nI (gt M (f) (t) (u))))]) hx hb dX1_can_92 hl (k := 6) rfl (zn_inc (v)) (by decide) rfl (fun ls hl => ?_)
                refine lv_goto (tgt := 44) hx hb dX1_can_95 (by decide) ?_
                exact ih44 (v + 1) (by omega) (by omega) _ (lv_sub hl [2, 3, 4, 5, 6, 1, 0] rfl)
              · skip
                refine lv_iconst (v := nI 1) hx hb dX1_can_85 (by decide) ?_
                refine lv_goto (tgt := 90) hx hb dX1_can_86 (by decide) ?_
                have e90 : (decide (u ≤ M 3 f) && decide (M 3 t + gt M f t u ≤ 20000) && cnv M f t u (v + 1)) = ((decide (u ≤ M 3 f) && decide (M 3 t + gt M f t u ≤ 20000) && cnv M f t u v) && decide (gt M f t u * als M t v ≤ u * als M f v)) := (Bool.and_assoc _ _ _).symm
                refine zt_i (y := bB (decide (u ≤ M 3 f) && decide (M 3 t + gt M f t u ≤ 20000) && cnv M f t u (v + 1))) (bB_1.trans (congrArg bB (by rw [e90, c_25, decide_eq_true (by omega)]; rfl))) ?_
                refine lv_istore (lv' := [(5, .int (bB (decide (u ≤ M 3 f) && decide (M 3 t + gt M f t u ≤ 20000) && cnv M f t u (v + 1)))), (0, .ref (ad 0)), (1, .int (nI (f))), (2, .int (nI (t))), (3, .int (nI (u))), (4, .int (nI (gt M (f) (t) (u)))), (6, .int (nI (v)))]) hx hb dX1_can_90 hl (by decide) rfl (fun ls hl => ?_)
                refine lv_iinc (v := nI (v + 1)) (lv' := [(6, .int (nI (v + 1))), (5, .int (bB (decide (u ≤ M 3 f) && decide (M 3 t + gt M f t u ≤ 20000) && cnv M f t u (v + 1)))), (0, .ref (ad 0)), (1, .int (nI (f))), (2, .int (nI (t))), (3, .int (nI (u))), (4, .int (nI (gt M (f) (t) (u))))]) hx hb dX1_can_92 hl (k := 6) rfl (zn_inc (v)) (by decide) rfl (fun ls hl => ?_)
                refine lv_goto (tgt := 44) hx hb dX1_can_95 (by decide) ?_
                exact ih44 (v + 1) (by omega) (by omega) _ (lv_sub hl [2, 3, 4, 5, 6, 1, 0] rfl)
      exact lp44 (M 5 0 - (0) + 1) (0) (by omega) (by omega) _ (lv_sub hl [3, 4, 5, 6, 2, 1, 0] rfl)
