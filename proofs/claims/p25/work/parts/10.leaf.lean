set_option maxHeartbeats 4000000 in
set_option maxRecDepth 100000 in
/-- what a well pumps in a year -/
theorem c0_unitsOfYear (l : Launch) {D : va_G} {ad : Nat → Nat} {cI cJ cQ : ClassId} {M : Mdl} {ts : Nat → Nat} {pu : Nat → Int64} (hI : Inv M) {w y : Nat} (hw : w < M 0 0) (hy : y < 3) : Met l yX0_unitsOfYear wsX0_unitsOfYear (rmP 0) (va_Pc [.ref (ad 0), .int (nI (w)), .int (nI (y))] (KP0 D ad cI cJ cQ M ts pu)) (vp_Si (fun r_ => r_ = nI (yr M w y))) 0 0 (fun _ => False) := by
  refine mk_Si (post := fun r_ => r_ = nI (yr M w y)) (cc := cX0_unitsOfYear) (maxL := 6) (by decide) rfl (Nat.le_of_ble_eq_true rfl) ?_
  intro p e s m args below meth c Q C0 B0 hret ls hl
  obtain ⟨hx, hb, hr, hml, hown, hts, hlocks⟩ := C0
  have hown : s.vm.findClass RX0 = some m.cls := hown
  obtain ⟨hK, hP⟩ := B0
  have hw0 : ∀ w ∈ wsX00, w.before args s = true := fun w h => hts w ((by decide +kernel : ∀ w ∈ wsX00, w ∈ wsX0_unitsOfYear) w h)
  have b_nw := hI.nw
  have b_nv := hI.nv
  have hl : lv_has ls 6 [(0, .ref (ad 0)), (1, .int (nI (w))), (2, .int (nI (y)))] := hl
  refine lv_iload_n hx hb dX0_unitsOfYear_0 rfl (lv_at hl 2 rfl) ?_
  refine lv_bipush (v := nI 12) hx hb dX0_unitsOfYear_1 (by decide) ?_
  refine zr_imul hx hb dX0_unitsOfYear_3 ?_
  refine lv_istore_n (lv' := [(3, .int (nI ((y) * (12)))), (0, .ref (ad 0)), (1, .int (nI (w))), (2, .int (nI (y)))]) hx hb dX0_unitsOfYear_4 rfl hl (by decide) rfl (fun ls hl => ?_)
  refine lv_iconst (v := nI 0) hx hb dX0_unitsOfYear_5 (by decide) ?_
  refine lv_istore (lv' := [(4, .int (nI (0))), (3, .int (nI ((y) * (12)))), (0, .ref (ad 0)), (1, .int (nI (w))), (2, .int (nI (y)))]) hx hb dX0_unitsOfYear_6 hl (by decide) rfl (fun ls hl => ?_)
  refine lv_iload_n hx hb dX0_unitsOfYear_8 rfl (lv_at hl 1 rfl) ?_
  refine lv_istore (lv' := [(5, .int (nI ((y) * (12)))), (4, .int (nI (0))), (3, .int (nI ((y) * (12)))), (0, .ref (ad 0)), (1, .int (nI (w))), (2, .int (nI (y)))]) hx hb dX0_unitsOfYear_9 hl (by decide) rfl (fun ls hl => ?_)
  have lp11 : ∀ (n k : Nat), k ≤ 12 → 12 - k < n → ∀ ls : Array Slot, lv_has ls 6 [(0, .ref (ad 0)), (1, .int (nI (w))), (3, .int (nI ((y) * (12)))), (4, .int (nI (ssum (fun k => M (10 + 3 * w) (y * 12 + k)) (k)))), (5, .int (nI ((y) * (12) + (k))))] → W p l e (rmP 0) s m args below meth c s.heap [] 0 0 Q (F0 m 11 ls []) := by
    intro n
    induction n with
    | zero => intro k q1 q2; omega
    | succ n ih11 =>
      intro k q1_11 q2_11 ls hl
      refine lv_iload hx hb dX0_unitsOfYear_11 (lv_at hl 4 rfl) ?_
      refine lv_iload_n hx hb dX0_unitsOfYear_13 rfl (lv_at hl 2 rfl) ?_
      refine lv_bipush (v := nI 12) hx hb dX0_unitsOfYear_14 (by decide) ?_
      refine zr_iadd hx hb dX0_unitsOfYear_16 ?_
      refine zb_ge (tgt := 40) hx hb (by omega) (by omega) dX0_unitsOfYear_17 (by decide) (fun c_1 => ?_) (fun c_1 => ?_)
      · skip
        have q_2 : k = 12 := by omega
        subst q_2
        refine lv_iload hx hb dX0_unitsOfYear_40 (lv_at hl 3 rfl) ?_
        exact hret rfl dX0_unitsOfYear_42
      · skip
        refine lv_iload hx hb dX0_unitsOfYear_20 (lv_at hl 3 rfl) ?_
        refine lv_aload_n hx hb dX0_unitsOfYear_22 rfl (lv_at hl 0 rfl) ?_
        refine zg0 hx hb hw0 hown hK hP (by decide) rfl 3 (by decide) (hts (.fieldLink RX0 21 "WellField" "pumping" "[[I") (by decide +kernel)) rfl rfl dX0_unitsOfYear_23 ?_
        refine lv_iload_n hx hb dX0_unitsOfYear_26 rfl (lv_at hl 1 rfl) ?_
        refine zq_ld hx hb hK hP 4 (by decide) 2 rfl rfl (by decide) (i := w) (by omega) (a := ad (11 + (w))) rfl dX0_unitsOfYear_27 ?_
        refine lv_iload hx hb dX0_unitsOfYear_28 (lv_at hl 4 rfl) ?_
        refine zi_ld hx hb hK hP (11 + (w)) (by omega) 0 (wcE_pump (by omega)) rfl (by decide) (i := (y) * (12) + (k)) (by omega) (v := nI (M (10 + 3 * (w)) ((y) * (12) + (k)))) rfl dX0_unitsOfYear_30 ?_
        have f_3 := hI.un (w) (by omega) ((y) * (12) + (k))
        refine zr_iadd hx hb dX0_unitsOfYear_31 ?_
        refine lv_istore (lv' := [(4, .int (nI ((ssum (fun k => M (10 + 3 * w) (y * 12 + k)) (k)) + (M (10 + 3 * (w)) ((y) * (12) + (k)))))), (0, .ref (ad 0)), (1, .int (nI (w))), (3, .int (nI ((y) * (12)))), (5, .int (nI ((y) * (12) + (k))))]) hx hb dX0_unitsOfYear_32 hl (by decide) rfl (fun ls hl => ?_)
        refine lv_iinc (v := nI ((y) * (12) + (k) + 1)) (lv' := [(5, .int (nI ((y) * (12) + (k) + 1))), (4, .int (nI ((ssum (fun k => M (10 + 3 * w) (y * 12 + k)) (k)) + (M (10 + 3 * (w)) ((y) * (12) + (k)))))), (0, .ref (ad 0)), (1, .int (nI (w))), (3, .int (nI ((y) * (12))))]) hx hb dX0_unitsOfYear_34 hl (k := 4) rfl (zn_inc ((y) * (12) + (k))) (by decide) rfl (fun ls hl => ?_)
        refine lv_goto (tgt := 11) hx hb dX0_unitsOfYear_37 (by decide) ?_
        exact ih11 (k + 1) (by omega) (by omega) _ (lv_sub hl [2, 3, 4, 1, 0] rfl)
  exact lp11 (12 - (0) + 1) (0) (by omega) (by omega) _ (lv_sub hl [3, 4, 2, 1, 0] rfl)
set_option maxHeartbeats 4000000 in
set_option maxRecDepth 100000 in
/-- the reach -/
theorem c0_reachOf (l : Launch) {D : va_G} {ad : Nat → Nat} {cI cJ cQ : ClassId} {M : Mdl} {ts : Nat → Nat} {pu : Nat → Int64} (hI : Inv M) {w v : Nat} (hw : w < M 0 0) (hv : v < M 5 0) : Met l yX0_reachOf wsX0_reachOf (rmP 1) (va_Pc [.ref (ad 0), .int (nI (w)), .int (nI (v))] (KP0 D ad cI cJ cQ M ts pu)) (vp_Si (fun r_ => r_ = nI (rch M w v))) 0 0 (fun _ => False) := by
  refine mk_Si (post := fun r_ => r_ = nI (rch M w v)) (cc := cX0_reachOf) (maxL := 3) (by decide) rfl (Nat.le_of_ble_eq_true rfl) ?_
  intro p e s m args below meth c Q C0 B0 hret ls hl
  obtain ⟨hx, hb, hr, hml, hown, hts, hlocks⟩ := C0
  have hown : s.vm.findClass RX0 = some m.cls := hown
  obtain ⟨hK, hP⟩ := B0
  have hw0 : ∀ w ∈ wsX00, w.before args s = true := fun w h => hts w ((by decide +kernel : ∀ w ∈ wsX00, w ∈ wsX0_reachOf) w h)
  have b_nw := hI.nw
  have b_nv := hI.nv
  have hl : lv_has ls 3 [(0, .ref (ad 0)), (1, .int (nI (w))), (2, .int (nI (v)))] := hl
  refine lv_aload_n hx hb dX0_reachOf_0 rfl (lv_at hl 0 rfl) ?_
  refine zg0 hx hb hw0 hown hK hP (by decide) rfl 0 (by decide) (hts (.fieldLink RX0 9 "WellField" "wellPlaces" "[I") (by decide +kernel)) rfl rfl dX0_reachOf_1 ?_
  refine lv_iload_n hx hb dX0_reachOf_4 rfl (lv_at hl 1 rfl) ?_
  refine zi_ld hx hb hK hP 1 (by decide) 0 rfl rfl (by decide) (i := w) (by omega) (v := nI (M 1 (w))) rfl dX0_reachOf_5 ?_
  have f_1 := hI.pl (w)
  refine lv_aload_n hx hb dX0_reachOf_6 rfl (lv_at hl 0 rfl) ?_
  refine zg0 hx hb hw0 hown hK hP (by decide) rfl 4 (by decide) (hts (.fieldLink RX0 24 "WellField" "watchPlaces" "[I") (by decide +kernel)) rfl rfl dX0_reachOf_7 ?_
  refine lv_iload_n hx hb dX0_reachOf_10 rfl (lv_at hl 2 rfl) ?_
  refine zi_ld hx hb hK hP 5 (by decide) 0 rfl rfl (by decide) (i := v) (by omega) (v := nI (M 6 (v))) rfl dX0_reachOf_11 ?_
  have f_2 := hI.sp (v)
  refine lv_isub hx hb dX0_reachOf_12 ?_
  refine va_mabs hx hb (hml.trans hl.1.symm) hown (hts (.methodLink RX0 133 Lib.Math.abs.name) (by decide +kernel)) (hts (.static Lib.Math.abs.name) (by decide +kernel)) (hts (.initialized "java/lang/Math") (by decide +kernel)) (hts (.code Lib.Math.abs.name Lib.Math.abs.code 1 (some .int)) (by decide +kernel)) (by decide) (Nat.le_of_ble_eq_true rfl) (by decide) (by decide) dX0_reachOf_13 ?_
  refine zt_i (abs_nI (by omega) (by omega)) ?_
  refine lv_bipush (v := nI 10) hx hb dX0_reachOf_16 (by decide) ?_
  refine zr_idiv hx hb (by omega) (by omega) (by omega) dX0_reachOf_18 ?_
  exact hret rfl dX0_reachOf_19
set_option maxHeartbeats 4000000 in
set_option maxRecDepth 100000 in
/-- a number of the table -/
theorem c0_tableNumber (l : Launch) {D : va_G} {ad : Nat → Nat} {cI cJ cQ : ClassId} {M : Mdl} {ts : Nat → Nat} {pu : Nat → Int64} (hI : Inv M) {r d : Nat} (hr9 : r ≤ 9) (hd : d < 12) : Met l yX0_tableNumber wsX0_tableNumber (rmP 0) (va_Pc [.ref (ad 0), .int (nI (r)), .int (nI (d))] (KP0 D ad cI cJ cQ M ts pu)) (vp_Si (fun r_ => r_ = nI (tbn M r d))) 0 0 (fun _ => False) := by
  refine mk_Si (post := fun r_ => r_ = nI (tbn M r d)) (cc := cX0_tableNumber) (maxL := 3) (by decide) rfl (Nat.le_of_ble_eq_true rfl) ?_
  intro p e s m args below meth c Q C0 B0 hret ls hl
  obtain ⟨hx, hb, hr, hml, hown, hts, hlocks⟩ := C0
  have hown : s.vm.findClass RX0 = some m.cls := hown
  obtain ⟨hK, hP⟩ := B0
  have hw0 : ∀ w ∈ wsX00, w.before args s = true := fun w h => hts w ((by decide +kernel : ∀ w ∈ wsX00, w ∈ wsX0_tableNumber) w h)
  have b_nw := hI.nw
  have b_nv := hI.nv
  have hl : lv_has ls 3 [(0, .ref (ad 0)), (1, .int (nI (r))), (2, .int (nI (d)))] := hl
  refine lv_iload_n hx hb dX0_tableNumber_0 rfl (lv_at hl 1 rfl) ?_
  refine lv_iconst (v := nI 5) hx hb dX0_tableNumber_1 (by decide) ?_
  refine zb_ge (tgt := 16) hx hb (by omega) (by omega) dX0_tableNumber_2 (by decide) (fun c_1 => ?_) (fun c_1 => ?_)
  · skip
    refine lv_iconst (v := nI 0) hx hb dX0_tableNumber_16 (by decide) ?_
    exact hret (by show nI _ = nI _; unfold tbn; split <;> first | rfl | omega) dX0_tableNumber_17
  · skip
    refine lv_aload_n hx hb dX0_tableNumber_5 rfl (lv_at hl 0 rfl) ?_
    refine zg0 hx hb hw0 hown hK hP (by decide) rfl 6 (by decide) (hts (.fieldLink RX0 30 "WellField" "table" "[[I") (by decide +kernel)) rfl rfl dX0_tableNumber_6 ?_
    refine lv_iload_n hx hb dX0_tableNumber_9 rfl (lv_at hl 1 rfl) ?_
    refine zq_ld hx hb hK hP 7 (by decide) 2 rfl rfl (by decide) (i := r) (by omega) (a := ad (19 + (r))) rfl dX0_tableNumber_10 ?_
    refine lv_iload_n hx hb dX0_tableNumber_11 rfl (lv_at hl 2 rfl) ?_
    refine zi_ld hx hb hK hP (19 + (r)) (by omega) 0 (wcE_tab (by omega)) rfl (by decide) (i := d) (by omega) (v := nI (M (11 + 3 * (r)) (d))) rfl dX0_tableNumber_12 ?_
    have f_2 := hI.tb (r) (by omega) (d)
    refine lv_goto (tgt := 17) hx hb dX0_tableNumber_13 (by decide) ?_
    exact hret (by show nI _ = nI _; unfold tbn; split <;> first | rfl | omega) dX0_tableNumber_17
set_option maxHeartbeats 4000000 in
set_option maxRecDepth 100000 in
/-- is a month in a year -/
theorem c0_isInYear (l : Launch)  {a y : Nat} (ha : a < 2 ^ 30) (hy : y < 2 ^ 30) : Met l yX0_isInYear wsX0_isInYear (rmP 0) (va_Pc [.int (nI (a)), .int (nI (y))] (fun _ => True)) (vp_Si (fun r => ∃ b : Bool, r = bB b ∧ b = decide (a / 12 = y))) 0 0 (fun _ => False) := by
  refine mk_Sz (post := fun b => b = decide (a / 12 = y)) (cc := cX0_isInYear) (maxL := 2) (by decide) rfl (Nat.le_of_ble_eq_true rfl) ?_
  intro p e s m args below meth c Q C0 B0 hret ls hl
  obtain ⟨hx, hb, hr, hml, hown, hts, hlocks⟩ := C0
  have hown : s.vm.findClass RX0 = some m.cls := hown
  have hl : lv_has ls 2 [(0, .int (nI (a))), (1, .int (nI (y)))] := hl
  refine lv_iload_n hx hb dX0_isInYear_0 rfl (lv_at hl 0 rfl) ?_
  refine lv_bipush (v := nI 12) hx hb dX0_isInYear_1 (by decide) ?_
  refine zr_idiv hx hb (by omega) (by omega) (by omega) dX0_isInYear_3 ?_
  refine lv_iload_n hx hb dX0_isInYear_4 rfl (lv_at hl 1 rfl) ?_
  refine zb_ne (tgt := 12) hx hb (by omega) (by omega) dX0_isInYear_5 (by decide) (fun c_1 => ?_) (fun c_1 => ?_)
  · skip
    refine lv_iconst (v := nI 0) hx hb dX0_isInYear_12 (by decide) ?_
    exact hret (b := false) (by first | exact (decide_eq_true (by omega)).symm | exact (decide_eq_false (by omega)).symm) rfl dX0_isInYear_13
  · skip
    refine lv_iconst (v := nI 1) hx hb dX0_isInYear_8 (by decide) ?_
    refine lv_goto (tgt := 13) hx hb dX0_isInYear_9 (by decide) ?_
    exact hret (b := true) (by first | exact (decide_eq_true (by omega)).symm | exact (decide_eq_false (by omega)).symm) rfl dX0_isInYear_13
set_option maxHeartbeats 4000000 in
set_option maxRecDepth 100000 in
/-- the drawdown -/
theorem c0_loweredIn (l : Launch) {D : va_G} {ad : Nat → Nat} {cI cJ cQ : ClassId} {M : Mdl} {ts : Nat → Nat} {pu : Nat → Int64} (hI : Inv M) {v mo : Nat} (hv : v < M 5 0) (hm : mo < 36) : Met l yX0_loweredIn wsX0_loweredIn (rmP 2) (va_Pc [.ref (ad 0), .int (nI (v)), .int (nI (mo))] (KP0 D ad cI cJ cQ M ts pu)) (vp_Sl (fun r_ => r_ = lN (dd M v mo))) 0 0 (fun _ => False) := by
  refine mk_Sl (post := fun r_ => r_ = lN (dd M v mo)) (cc := cX0_loweredIn) (maxL := 8) (by decide) rfl (Nat.le_of_ble_eq_true rfl) ?_
  intro p e s m args below meth c Q C0 B0 hret ls hl
  obtain ⟨hx, hb, hr, hml, hown, hts, hlocks⟩ := C0
  have hown : s.vm.findClass RX0 = some m.cls := hown
  obtain ⟨hK, hP⟩ := B0
  have hw0 : ∀ w ∈ wsX00, w.before args s = true := fun w h => hts w ((by decide +kernel : ∀ w ∈ wsX00, w ∈ wsX0_loweredIn) w h)
  have b_nw := hI.nw
  have b_nv := hI.nv
  have hD := d12_s (mo + 1)
  have hl : lv_has ls 8 [(0, .ref (ad 0)), (1, .int (nI (v))), (2, .int (nI (mo)))] := hl
  refine lv_lconst (v := lN 0) hx hb dX0_loweredIn_0 (by decide) ?_
  refine lv_lstore_n (lv' := [(3, .long (lN (0))), (0, .ref (ad 0)), (1, .int (nI (v))), (2, .int (nI (mo)))]) hx hb dX0_loweredIn_1 rfl hl (by decide) rfl (fun ls hl => ?_)
  refine lv_iconst (v := nI 0) hx hb dX0_loweredIn_2 (by decide) ?_
  refine lv_istore (lv' := [(5, .int (nI (0))), (3, .long (lN (0))), (0, .ref (ad 0)), (1, .int (nI (v))), (2, .int (nI (mo)))]) hx hb dX0_loweredIn_3 hl (by decide) rfl (fun ls hl => ?_)
  have lp5 : ∀ (n w : Nat), w ≤ M 0 0 → M 0 0 - w < n → ∀ ls : Array Slot, lv_has ls 8 [(0, .ref (ad 0)), (1, .int (nI (v))), (2, .int (nI (mo))), (3, .long (lN (ssum (fun w => ddw M v mo w) (w)))), (5, .int (nI (w)))] → W p l e (rmP 2) s m args below meth c s.heap [] 0 0 Q (F0 m 5 ls []) := by
    intro n
    induction n with
    | zero => intro w q1 q2; omega
    | succ n ih5 =>
      intro w q1_5 q2_5 ls hl
      refine lv_iload hx hb dX0_loweredIn_5 (lv_at hl 4 rfl) ?_
      refine lv_aload_n hx hb dX0_loweredIn_7 rfl (lv_at hl 0 rfl) ?_
      refine zg0 hx hb hw0 hown hK hP (by decide) rfl 10 (by decide) (hts (.fieldLink RX0 47 "WellField" "wellCount" "I") (by decide +kernel)) rfl rfl dX0_loweredIn_8 ?_
      refine zb_ge (tgt := 77) hx hb (by omega) (by omega) dX0_loweredIn_11 (by decide) (fun c_1 => ?_) (fun c_1 => ?_)
      · skip
        have q_2 : w = M 0 0 := by omega
        subst q_2
        refine lv_lload_n hx hb dX0_loweredIn_77 rfl (lv_at hl 3 rfl) ?_
        exact hret rfl dX0_loweredIn_78
      · skip
        refine lv_aload_n hx hb dX0_loweredIn_14 rfl (lv_at hl 0 rfl) ?_
        refine lv_iload hx hb dX0_loweredIn_15 (lv_at hl 4 rfl) ?_
        refine lv_iload_n hx hb dX0_loweredIn_17 rfl (lv_at hl 1 rfl) ?_
        refine vp_callSi (W.runV (As := [.int (nI (w)), .int (nI (v))]) (rest := []) ⟨hx, hb, hml, hown, hts⟩ (c0_reachOf l hI (w := w) (v := v) (by omega) (by omega)) (cwV 2 hts gX0_loweredIn_X0_reachOf rfl rfl rfl (by decide +kernel) (by decide)) (pv0 hK hP) rfl rfl hl.1 rfl (lv_room (Nat.le_of_ble_eq_true rfl)) dX0_loweredIn_18 (by decide)) (fun r_3 hr_3 => ?_)
        subst hr_3
        have f_4 := rch_le hI (w) (v)
        refine lv_istore (lv' := [(6, .int (nI (rch M (w) (v)))), (0, .ref (ad 0)), (1, .int (nI (v))), (2, .int (nI (mo))), (3, .long (lN (ssum (fun w => ddw M v mo w) (w)))), (5, .int (nI (w)))]) hx hb dX0_loweredIn_21 hl (by decide) rfl (fun ls hl => ?_)
        refine lv_iconst (v := nI 0) hx hb dX0_loweredIn_23 (by decide) ?_
        refine lv_istore (lv' := [(7, .int (nI (0))), (6, .int (nI (rch M (w) (v)))), (0, .ref (ad 0)), (1, .int (nI (v))), (2, .int (nI (mo))), (3, .long (lN (ssum (fun w => ddw M v mo w) (w)))), (5, .int (nI (w)))]) hx hb dX0_loweredIn_24 hl (by decide) rfl (fun ls hl => ?_)
        have lp26 : ∀ (n d : Nat), d ≤ d12 (mo + 1) → d12 (mo + 1) - d < n → ∀ ls : Array Slot, lv_has ls 8 [(0, .ref (ad 0)), (1, .int (nI (v))), (2, .int (nI (mo))), (3, .long (lN ((ssum (fun w => ddw M v mo w) (w)) + (ssum (fun d => M (10 + 3 * w) (mo - d) * tbn M (rch M w v) d) (d))))), (5, .int (nI (w))), (6, .int (nI (rch M (w) (v)))), (7, .int (nI (d)))] → W p l e (rmP 2) s m args below meth c s.heap [] 0 0 Q (F0 m 26 ls []) := by
          intro n
          induction n with
          | zero => intro d q1 q2; omega
          | succ n ih26 =>
            intro d q1_26 q2_26 ls hl
            refine lv_iload hx hb dX0_loweredIn_26 (lv_at hl 6 rfl) ?_
            refine lv_bipush (v := nI 12) hx hb dX0_loweredIn_28 (by decide) ?_
            refine zb_ge (tgt := 71) hx hb (by omega) (by omega) dX0_loweredIn_30 (by decide) (fun c_5 => ?_) (fun c_5 => ?_)
            · skip
              have q_6 : d = d12 (mo + 1) := by omega
              subst q_6
              refine lv_iinc (v := nI (w + 1)) (lv' := [(5, .int (nI (w + 1))), (0, .ref (ad 0)), (1, .int (nI (v))), (2, .int (nI (mo))), (3, .long (lN ((ssum (fun w => ddw M v mo w) (w)) + (ssum (fun d => M (10 + 3 * w) (mo - d) * tbn M (rch M w v) d) (d12 (mo + 1)))))), (6, .int (nI (rch M (w) (v)))), (7, .int (nI (d12 (mo + 1))))]) hx hb dX0_loweredIn_71 hl (k := 4) rfl (zn_inc (w)) (by decide) rfl (fun ls hl => ?_)
              refine lv_goto (tgt := 5) hx hb dX0_loweredIn_74 (by decide) ?_
              exact ih5 (w + 1) (by omega) (by omega) _ (lv_sub hl [1, 2, 3, 4, 0] rfl)
            · skip
              refine lv_iload hx hb dX0_loweredIn_33 (lv_at hl 6 rfl) ?_
              refine lv_iload_n hx hb dX0_loweredIn_35 rfl (lv_at hl 2 rfl) ?_
              refine zb_gt (tgt := 71) hx hb (by omega) (by omega) dX0_loweredIn_36 (by decide) (fun c_7 => ?_) (fun c_7 => ?_)
              · skip
                have q_8 : d = d12 (mo + 1) := by omega
                subst q_8
                refine lv_iinc (v := nI (w + 1)) (lv' := [(5, .int (nI (w + 1))), (0, .ref (ad 0)), (1, .int (nI (v))), (2, .int (nI (mo))), (3, .long (lN ((ssum (fun w => ddw M v mo w) (w)) + (ssum (fun d => M (10 + 3 * w) (mo - d) * tbn M (rch M w v) d) (d12 (mo + 1)))))), (6, .int (nI (rch M (w) (v)))), (7, .int (nI (d12 (mo + 1))))]) hx hb dX0_loweredIn_71 hl (k := 4) rfl (zn_inc (w)) (by decide) rfl (fun ls hl => ?_)
                refine lv_goto (tgt := 5) hx hb dX0_loweredIn_74 (by decide) ?_
                exact ih5 (w + 1) (by omega) (by omega) _ (lv_sub hl [1, 2, 3, 4, 0] rfl)
              · skip
                refine lv_lload_n hx hb dX0_loweredIn_39 rfl (lv_at hl 3 rfl) ?_
                refine lv_aload_n hx hb dX0_loweredIn_40 rfl (lv_at hl 0 rfl) ?_
                refine zg0 hx hb hw0 hown hK hP (by decide) rfl 3 (by decide) (hts (.fieldLink RX0 21 "WellField" "pumping" "[[I") (by decide +kernel)) rfl rfl dX0_loweredIn_41 ?_
                refine lv_iload hx hb dX0_loweredIn_44 (lv_at hl 4 rfl) ?_
                refine zq_ld hx hb hK hP 4 (by decide) 2 rfl rfl (by decide) (i := w) (by omega) (a := ad (11 + (w))) rfl dX0_loweredIn_46 ?_
                refine lv_iload_n hx hb dX0_loweredIn_47 rfl (lv_at hl 2 rfl) ?_
                refine lv_iload hx hb dX0_loweredIn_48 (lv_at hl 6 rfl) ?_
                refine zr_isub hx hb (by omega) dX0_loweredIn_50 ?_
                refine zi_ld hx hb hK hP (11 + (w)) (by omega) 0 (wcE_pump (by omega)) rfl (by decide) (i := (mo) - (d)) (by omega) (v := nI (M (10 + 3 * (w)) ((mo) - (d)))) rfl dX0_loweredIn_51 ?_
                have f_9 := hI.un (w) (by omega) ((mo) - (d))
                refine zr_i2l hx hb (by omega) dX0_loweredIn_52 ?_
                refine lv_aload_n hx hb dX0_loweredIn_53 rfl (lv_at hl 0 rfl) ?_
                refine lv_iload hx hb dX0_loweredIn_54 (lv_at hl 5 rfl) ?_
                refine lv_iload hx hb dX0_loweredIn_56 (lv_at hl 6 rfl) ?_
                refine vp_callSi (W.runV (As := [.int (nI (rch M (w) (v))), .int (nI (d))]) (rest := [.long (lN (M (10 + 3 * (w)) ((mo) - (d)))), .long (lN ((ssum (fun w => ddw M v mo w) (w)) + (ssum (fun d => M (10 + 3 * w) (mo - d) * tbn M (rch M w v) d) (d))))]) ⟨hx, hb, hml, hown, hts⟩ (c0_tableNumber l hI (r := rch M (w) (v)) (d := d) (by omega) (by omega)) (cwV 2 hts gX0_loweredIn_X0_tableNumber rfl rfl rfl (by decide +kernel) (by decide)) (pv0 hK hP) rfl rfl hl.1 rfl (lv_room (Nat.le_of_ble_eq_true rfl)) dX0_loweredIn_58 (by decide)) (fun r_10 hr_10 => ?_)
                subst hr_10
                have f_11 := tbn_le hI (rch M (w) (v)) (d)
                refine zr_i2l hx hb (by omega) dX0_loweredIn_61 ?_
                refine zr_lmul hx hb dX0_loweredIn_62 ?_
                refine zr_ladd hx hb dX0_loweredIn_63 ?_
                refine lv_lstore_n (lv' := [(3, .long (lN (((ssum (fun w => ddw M v mo w) (w)) + (ssum (fun d => M (10 + 3 * w) (mo - d) * tbn M (rch M w v) d) (d))) + ((M (10 + 3 * (w)) ((mo) - (d))) * (tbn M (rch M (w) (v)) (d)))))), (0, .ref (ad 0)), (1, .int (nI (v))), (2, .int (nI (mo))), (5, .int (nI (w))), (6, .int (nI (rch M (w) (v)))), (7, .int (nI (d)))]) hx hb dX0_loweredIn_64 rfl hl (by decide) rfl (fun ls hl => ?_)
                have hl := lv_cast (l2 := [(3, .long (lN ((ssum (fun w => ddw M v mo w) (w)) + (ssum (fun d => M (10 + 3 * w) (mo - d) * tbn M (rch M w v) d) (d + 1))))), (0, .ref (ad 0)), (1, .int (nI (v))), (2, .int (nI (mo))), (5, .int (nI (w))), (6, .int (nI (rch M (w) (v)))), (7, .int (nI (d)))]) hl (by rw [show ((ssum (fun w => ddw M v mo w) (w)) + (ssum (fun d => M (10 + 3 * w) (mo - d) * tbn M (rch M w v) d) (d + 1))) = (((ssum (fun w => ddw M v mo w) (w)) + (ssum (fun d => M (10 + 3 * w) (mo - d) * tbn M (rch M w v) d) (d))) + ((M (10 + 3 * (w)) ((mo) - (d))) * (tbn M (rch M (w) (v)) (d)))) from (by rw [ssum_s, Nat.add_assoc])])
                refine lv_iinc (v := nI (d + 1)) (lv' := [(7, .int (nI (d + 1))), (3, .long (lN ((ssum (fun w => ddw M v mo w) (w)) + (ssum (fun d => M (10 + 3 * w) (mo - d) * tbn M (rch M w v) d) (d + 1))))), (0, .ref (ad 0)), (1, .int (nI (v))), (2, .int (nI (mo))), (5, .int (nI (w))), (6, .int (nI (rch M (w) (v))))]) hx hb dX0_loweredIn_65 hl (k := 6) rfl (zn_inc (d)) (by decide) rfl (fun ls hl => ?_)
                refine lv_goto (tgt := 26) hx hb dX0_loweredIn_68 (by decide) ?_
                exact ih26 (d + 1) (by omega) (by omega) _ (lv_sub hl [2, 3, 4, 1, 5, 6, 0] rfl)
        exact lp26 (d12 (mo + 1) - (0) + 1) (0) (by omega) (by omega) _ (lv_sub hl [2, 3, 4, 5, 6, 1, 0] rfl)
  exact lp5 (M 0 0 - (0) + 1) (0) (by omega) (by omega) _ (lv_sub hl [2, 3, 4, 1, 0] rfl)
set_option maxHeartbeats 4000000 in
set_option maxRecDepth 100000 in
/-- what is left to the limit -/
theorem c0_thousandthsLeft (l : Launch) {D : va_G} {ad : Nat → Nat} {cI cJ cQ : ClassId} {M : Mdl} {ts : Nat → Nat} {pu : Nat → Int64} (hI : Inv M) {v mo : Nat} (hv : v < M 5 0) (hm : mo < 36) : Met l yX0_thousandthsLeft wsX0_thousandthsLeft (rmP 3) (va_Pc [.ref (ad 0), .int (nI (v)), .int (nI (mo))] (KP0 D ad cI cJ cQ M ts pu)) (vp_Sl (fun r_ => r_ = lN (1000 * M 7 v) - lN (dd M v mo))) 0 0 (fun _ => False) := by
  refine mk_Sl (post := fun r_ => r_ = lN (1000 * M 7 v) - lN (dd M v mo)) (cc := cX0_thousandthsLeft) (maxL := 3) (by decide) rfl (Nat.le_of_ble_eq_true rfl) ?_
  intro p e s m args below meth c Q C0 B0 hret ls hl
  obtain ⟨hx, hb, hr, hml, hown, hts, hlocks⟩ := C0
  have hown : s.vm.findClass RX0 = some m.cls := hown
  obtain ⟨hK, hP⟩ := B0
  have hw0 : ∀ w ∈ wsX00, w.before args s = true := fun w h => hts w ((by decide +kernel : ∀ w ∈ wsX00, w ∈ wsX0_thousandthsLeft) w h)
  have b_nw := hI.nw
  have b_nv := hI.nv
  have hl : lv_has ls 3 [(0, .ref (ad 0)), (1, .int (nI (v))), (2, .int (nI (mo)))] := hl
  refine lv_ldc2 (own := RX0) (v := 1000) hx hb hown (hts (.constantLong RX0 140 1000) (by decide +kernel)) dX0_thousandthsLeft_0 ?_
  refine zt_l (y := lN 1000) rfl ?_
  refine lv_aload_n hx hb dX0_thousandthsLeft_3 rfl (lv_at hl 0 rfl) ?_
  refine zg0 hx hb hw0 hown hK hP (by decide) rfl 5 (by decide) (hts (.fieldLink RX0 27 "WellField" "limits" "[I") (by decide +kernel)) rfl rfl dX0_thousandthsLeft_4 ?_
  refine lv_iload_n hx hb dX0_thousandthsLeft_7 rfl (lv_at hl 1 rfl) ?_
  refine zi_ld hx hb hK hP 6 (by decide) 0 rfl rfl (by decide) (i := v) (by omega) (v := nI (M 7 (v))) rfl dX0_thousandthsLeft_8 ?_
  have f_1 := hI.lm (v)
  refine zr_i2l hx hb (by omega) dX0_thousandthsLeft_9 ?_
  refine zr_lmul hx hb dX0_thousandthsLeft_10 ?_
  refine lv_aload_n hx hb dX0_thousandthsLeft_11 rfl (lv_at hl 0 rfl) ?_
  refine lv_iload_n hx hb dX0_thousandthsLeft_12 rfl (lv_at hl 1 rfl) ?_
  refine lv_iload_n hx hb dX0_thousandthsLeft_13 rfl (lv_at hl 2 rfl) ?_
  refine vp_callSl (W.runV (As := [.int (nI (v)), .int (nI (mo))]) (rest := [.long (lN ((1000) * (M 7 (v))))]) ⟨hx, hb, hml, hown, hts⟩ (c0_loweredIn l hI (v := v) (mo := mo) (by omega) (by omega)) (cwV 2 hts gX0_thousandthsLeft_X0_loweredIn rfl rfl rfl (by decide +kernel) (by decide)) (pv0 hK hP) rfl rfl hl.1 rfl (lv_room (Nat.le_of_ble_eq_true rfl)) dX0_thousandthsLeft_14 (by decide)) (fun r_2 hr_2 => ?_)
  subst hr_2
  have f_3 := dd_le hI (v) (mo)
  refine lv_lsub hx hb dX0_thousandthsLeft_17 ?_
  exact hret rfl dX0_thousandthsLeft_18
set_option maxHeartbeats 4000000 in
set_option maxRecDepth 100000 in
/-- the room that a watch leaves -/
theorem c0_unitsLeft (l : Launch) {D : va_G} {ad : Nat → Nat} {cI cJ cQ : ClassId} {M : Mdl} {ts : Nat → Nat} {pu : Nat → Int64} (hI : Inv M) {v r mo : Nat} (hv : v < M 5 0) (hr9 : r ≤ 9) (hm : mo < 36) : Met l yX0_unitsLeft wsX0_unitsLeft (rmP 4) (va_Pc [.ref (ad 0), .int (nI (v)), .int (nI (r)), .int (nI (mo))] (KP0 D ad cI cJ cQ M ts pu)) (vp_Sl (fun r_ => r_ = lN (ulf M v r mo (d12 (36 - mo))))) 0 0 (fun _ => False) := by
  refine mk_Sl (post := fun r_ => r_ = lN (ulf M v r mo (d12 (36 - mo)))) (cc := cX0_unitsLeft) (maxL := 8) (by decide) rfl (Nat.le_of_ble_eq_true rfl) ?_
  intro p e s m args below meth c Q C0 B0 hret ls hl
  obtain ⟨hx, hb, hr, hml, hown, hts, hlocks⟩ := C0
  have hown : s.vm.findClass RX0 = some m.cls := hown
  obtain ⟨hK, hP⟩ := B0
  have hw0 : ∀ w ∈ wsX00, w.before args s = true := fun w h => hts w ((by decide +kernel : ∀ w ∈ wsX00, w ∈ wsX0_unitsLeft) w h)
  have b_nw := hI.nw
  have b_nv := hI.nv
  have hD := d12_s (36 - mo)
  have hl : lv_has ls 8 [(0, .ref (ad 0)), (1, .int (nI (v))), (2, .int (nI (r))), (3, .int (nI (mo)))] := hl
  refine lv_ldc2 (own := RX0) (v := 1000) hx hb hown (hts (.constantLong RX0 140 1000) (by decide +kernel)) dX0_unitsLeft_0 ?_
  refine zt_l (y := lN 1000) rfl ?_
  refine lv_lstore (lv' := [(4, .long (lN (1000))), (0, .ref (ad 0)), (1, .int (nI (v))), (2, .int (nI (r))), (3, .int (nI (mo)))]) hx hb dX0_unitsLeft_3 hl (by decide) rfl (fun ls hl => ?_)
  refine lv_iconst (v := nI 0) hx hb dX0_unitsLeft_5 (by decide) ?_
  refine lv_istore (lv' := [(6, .int (nI (0))), (4, .long (lN (1000))), (0, .ref (ad 0)), (1, .int (nI (v))), (2, .int (nI (r))), (3, .int (nI (mo)))]) hx hb dX0_unitsLeft_6 hl (by decide) rfl (fun ls hl => ?_)
  have lp8 : ∀ (n d : Nat), d ≤ d12 (36 - mo) → d12 (36 - mo) - d < n → ∀ ls : Array Slot, lv_has ls 8 [(0, .ref (ad 0)), (1, .int (nI (v))), (2, .int (nI (r))), (3, .int (nI (mo))), (4, .long (lN (ulf M v r mo (d)))), (6, .int (nI (d)))] → W p l e (rmP 4) s m args below meth c s.heap [] 0 0 Q (F0 m 8 ls []) := by
    intro n
    induction n with
    | zero => intro d q1 q2; omega
    | succ n ih8 =>
      intro d q1_8 q2_8 ls hl
      have u_d := ulf_le M v r mo d
      refine lv_iload hx hb dX0_unitsLeft_8 (lv_at hl 5 rfl) ?_
      refine lv_bipush (v := nI 12) hx hb dX0_unitsLeft_10 (by decide) ?_
      refine zb_ge (tgt := 68) hx hb (by omega) (by omega) dX0_unitsLeft_12 (by decide) (fun c_1 => ?_) (fun c_1 => ?_)
      · skip
        have q_2 : d = d12 (36 - mo) := by omega
        subst q_2
        refine lv_lload hx hb dX0_unitsLeft_68 (lv_at hl 4 rfl) ?_
        exact hret rfl dX0_unitsLeft_70
      · skip
        refine lv_iload_n hx hb dX0_unitsLeft_15 rfl (lv_at hl 3 rfl) ?_
        refine lv_iload hx hb dX0_unitsLeft_16 (lv_at hl 5 rfl) ?_
        refine zr_iadd hx hb dX0_unitsLeft_18 ?_
        refine lv_bipush (v := nI 36) hx hb dX0_unitsLeft_19 (by decide) ?_
        refine zb_ge (tgt := 68) hx hb (by omega) (by omega) dX0_unitsLeft_21 (by decide) (fun c_3 => ?_) (fun c_3 => ?_)
        · skip
          have q_4 : d = d12 (36 - mo) := by omega
          subst q_4
          refine lv_lload hx hb dX0_unitsLeft_68 (lv_at hl 4 rfl) ?_
          exact hret rfl dX0_unitsLeft_70
        · skip
          refine lv_aload_n hx hb dX0_unitsLeft_24 rfl (lv_at hl 0 rfl) ?_
          refine lv_iload_n hx hb dX0_unitsLeft_25 rfl (lv_at hl 2 rfl) ?_
          refine lv_iload hx hb dX0_unitsLeft_26 (lv_at hl 5 rfl) ?_
          refine vp_callSi (W.runV (As := [.int (nI (r)), .int (nI (d))]) (rest := []) ⟨hx, hb, hml, hown, hts⟩ (c0_tableNumber l hI (r := r) (d := d) (by omega) (by omega)) (cwV 2 hts gX0_unitsLeft_X0_tableNumber rfl rfl rfl (by decide +kernel) (by decide)) (pv0 hK hP) rfl rfl hl.1 rfl (lv_room (Nat.le_of_ble_eq_true rfl)) dX0_unitsLeft_28 (by decide)) (fun r_5 hr_5 => ?_)
          subst hr_5
          have f_6 := tbn_le hI (r) (d)
          refine lv_istore (lv' := [(7, .int (nI (tbn M (r) (d)))), (0, .ref (ad 0)), (1, .int (nI (v))), (2, .int (nI (r))), (3, .int (nI (mo))), (4, .long (lN (ulf M v r mo (d)))), (6, .int (nI (d)))]) hx hb dX0_unitsLeft_31 hl (by decide) rfl (fun ls hl => ?_)
          refine lv_iload hx hb dX0_unitsLeft_33 (lv_at hl 0 rfl) ?_
          refine zb_0le (tgt := 62) hx hb (by omega) dX0_unitsLeft_35 (by decide) (fun c_7 => ?_) (fun c_7 => ?_)
          · skip
            have hl := lv_cast (l2 := [(7, .int (nI (tbn M (r) (d)))), (0, .ref (ad 0)), (1, .int (nI (v))), (2, .int (nI (r))), (3, .int (nI (mo))), (4, .long (lN (ulf M v r mo (d + 1)))), (6, .int (nI (d)))]) hl (by rw [show (ulf M v r mo (d + 1)) = (ulf M v r mo (d)) from (by show (if 0 < tbn M r d then _ else _) = _; split <;> first | rfl | omega)])
            refine lv_iinc (v := nI (d + 1)) (lv' := [(6, .int (nI (d + 1))), (7, .int (nI (tbn M (r) (d)))), (0, .ref (ad 0)), (1, .int (nI (v))), (2, .int (nI (r))), (3, .int (nI (mo))), (4, .long (lN (ulf M v r mo (d + 1))))]) hx hb dX0_unitsLeft_62 hl (k := 6) rfl (zn_inc (d)) (by decide) rfl (fun ls hl => ?_)
            refine lv_goto (tgt := 8) hx hb dX0_unitsLeft_65 (by decide) ?_
            exact ih8 (d + 1) (by omega) (by omega) _ (lv_sub hl [2, 3, 4, 5, 6, 0] rfl)
          · skip
            refine lv_lload hx hb dX0_unitsLeft_38 (lv_at hl 5 rfl) ?_
            refine lv_lconst (v := lN 0) hx hb dX0_unitsLeft_40 (by decide) ?_
            refine lv_aload_n hx hb dX0_unitsLeft_41 rfl (lv_at hl 1 rfl) ?_
            refine lv_iload_n hx hb dX0_unitsLeft_42 rfl (lv_at hl 2 rfl) ?_
            refine lv_iload_n hx hb dX0_unitsLeft_43 rfl (lv_at hl 4 rfl) ?_
            refine lv_iload hx hb dX0_unitsLeft_44 (lv_at hl 6 rfl) ?_
            refine zr_iadd hx hb dX0_unitsLeft_46 ?_
            refine vp_callSl (W.runV (As := [.int (nI (v)), .int (nI ((mo) + (d)))]) (rest := [.long (lN (0)), .long (lN (ulf M v r mo (d)))]) ⟨hx, hb, hml, hown, hts⟩ (c0_thousandthsLeft l hI (v := v) (mo := (mo) + (d)) (by omega) (by omega)) (cwV 2 hts gX0_unitsLeft_X0_thousandthsLeft rfl rfl rfl (by decide +kernel) (by decide)) (pv0 hK hP) rfl rfl hl.1 rfl (lv_room (Nat.le_of_ble_eq_true rfl)) dX0_unitsLeft_47 (by decide)) (fun r_8 hr_8 => ?_)
            subst hr_8
            have f_9 := dd_le hI (v) ((mo) + (d))
            have f_10 := hI.lm (v)
            refine va_mmax_long hx hb (hml.trans hl.1.symm) hown (hts (.methodLink RX0 142 Lib.MathLoose.max_long.x) (by decide +kernel)) (hts (.static Lib.MathLoose.max_long.x) (by decide +kernel)) (hts (.initialized "java/lang/Math") (by decide +kernel)) (hts (.code Lib.MathLoose.max_long.x Lib.MathLoose.max_long.code 4 (some .long)) (by decide +kernel)) (by decide) (Nat.le_of_ble_eq_true rfl) (by decide) (by decide) dX0_unitsLeft_50 ?_
            refine zt_l (max_sub0 (by omega) (by omega)) ?_
            refine lv_iload hx hb dX0_unitsLeft_53 (lv_at hl 0 rfl) ?_
            refine zr_i2l hx hb (by omega) dX0_unitsLeft_55 ?_
            refine zr_ldiv hx hb (by omega) (by omega) (by omega) dX0_unitsLeft_56 ?_
            refine va_mmin_long hx hb (hml.trans hl.1.symm) hown (hts (.methodLink RX0 91 Lib.MathLoose.min_long.x) (by decide +kernel)) (hts (.static Lib.MathLoose.min_long.x) (by decide +kernel)) (hts (.initialized "java/lang/Math") (by decide +kernel)) (hts (.code Lib.MathLoose.min_long.x Lib.MathLoose.min_long.code 4 (some .long)) (by decide +kernel)) (by decide) (Nat.le_of_ble_eq_true rfl) (by decide) (by decide) dX0_unitsLeft_57 ?_
            have f_11 := Nat.div_le_self ((1000 * M 7 (v)) - (dd M (v) ((mo) + (d)))) (tbn M (r) (d))
            refine zt_l (min_lN (by omega) (by omega)) ?_
            refine lv_lstore (lv' := [(4, .long (lN (min (ulf M v r mo (d)) (((1000 * M 7 (v)) - (dd M (v) ((mo) + (d)))) / (tbn M (r) (d)))))), (7, .int (nI (tbn M (r) (d)))), (0, .ref (ad 0)), (1, .int (nI (v))), (2, .int (nI (r))), (3, .int (nI (mo))), (6, .int (nI (d)))]) hx hb dX0_unitsLeft_60 hl (by decide) rfl (fun ls hl => ?_)
            have hl := lv_cast (l2 := [(4, .long (lN (ulf M v r mo (d + 1)))), (7, .int (nI (tbn M (r) (d)))), (0, .ref (ad 0)), (1, .int (nI (v))), (2, .int (nI (r))), (3, .int (nI (mo))), (6, .int (nI (d)))]) hl (by rw [show (ulf M v r mo (d + 1)) = (min (ulf M v r mo (d)) (((1000 * M 7 (v)) - (dd M (v) ((mo) + (d)))) / (tbn M (r) (d)))) from (by show (if 0 < tbn M r d then _ else _) = _; split <;> first | rfl | omega)])
            refine lv_iinc (v := nI (d + 1)) (lv' := [(6, .int (nI (d + 1))), (4, .long (lN (ulf M v r mo (d + 1)))), (7, .int (nI (tbn M (r) (d)))), (0, .ref (ad 0)), (1, .int (nI (v))), (2, .int (nI (r))), (3, .int (nI (mo)))]) hx hb dX0_unitsLeft_62 hl (k := 6) rfl (zn_inc (d)) (by decide) rfl (fun ls hl => ?_)
            refine lv_goto (tgt := 8) hx hb dX0_unitsLeft_65 (by decide) ?_
            exact ih8 (d + 1) (by omega) (by omega) _ (lv_sub hl [3, 4, 5, 6, 1, 0] rfl)
  exact lp8 (d12 (36 - mo) - (0) + 1) (0) (by omega) (by omega) _ (lv_sub hl [2, 3, 4, 5, 1, 0] rfl)
set_option maxHeartbeats 4000000 in
set_option maxRecDepth 100000 in
/-- what a month of pumping lowers in all -/
theorem c0_loweredInAll (l : Launch) {D : va_G} {ad : Nat → Nat} {cI cJ cQ : ClassId} {M : Mdl} {ts : Nat → Nat} {pu : Nat → Int64} (hI : Inv M) {w v mo : Nat} (hw : w < M 0 0) (hv : v < M 5 0) (hm : mo < 36) : Met l yX0_loweredInAll wsX0_loweredInAll (rmP 2) (va_Pc [.ref (ad 0), .int (nI (w)), .int (nI (v)), .int (nI (mo))] (KP0 D ad cI cJ cQ M ts pu)) (vp_Sl (fun r_ => r_ = lN (lia M w v mo))) 0 0 (fun _ => False) := by
  refine mk_Sl (post := fun r_ => r_ = lN (lia M w v mo)) (cc := cX0_loweredInAll) (maxL := 8) (by decide) rfl (Nat.le_of_ble_eq_true rfl) ?_
  intro p e s m args below meth c Q C0 B0 hret ls hl
  obtain ⟨hx, hb, hr, hml, hown, hts, hlocks⟩ := C0
  have hown : s.vm.findClass RX0 = some m.cls := hown
  obtain ⟨hK, hP⟩ := B0
  have hw0 : ∀ w ∈ wsX00, w.before args s = true := fun w h => hts w ((by decide +kernel : ∀ w ∈ wsX00, w ∈ wsX0_loweredInAll) w h)
  have b_nw := hI.nw
  have b_nv := hI.nv
  have hD := d12_s (36 - mo)
  have hl : lv_has ls 8 [(0, .ref (ad 0)), (1, .int (nI (w))), (2, .int (nI (v))), (3, .int (nI (mo)))] := hl
  refine lv_aload_n hx hb dX0_loweredInAll_0 rfl (lv_at hl 0 rfl) ?_
  refine lv_iload_n hx hb dX0_loweredInAll_1 rfl (lv_at hl 1 rfl) ?_
  refine lv_iload_n hx hb dX0_loweredInAll_2 rfl (lv_at hl 2 rfl) ?_
  refine vp_callSi (W.runV (As := [.int (nI (w)), .int (nI (v))]) (rest := []) ⟨hx, hb, hml, hown, hts⟩ (c0_reachOf l hI (w := w) (v := v) (by omega) (by omega)) (cwV 2 hts gX0_loweredInAll_X0_reachOf rfl rfl rfl (by decide +kernel) (by decide)) (pv0 hK hP) rfl rfl hl.1 rfl (lv_room (Nat.le_of_ble_eq_true rfl)) dX0_loweredInAll_3 (by decide)) (fun r_1 hr_1 => ?_)
  subst hr_1
  have f_2 := rch_le hI (w) (v)
  refine lv_istore (lv' := [(4, .int (nI (rch M (w) (v)))), (0, .ref (ad 0)), (1, .int (nI (w))), (2, .int (nI (v))), (3, .int (nI (mo)))]) hx hb dX0_loweredInAll_6 hl (by decide) rfl (fun ls hl => ?_)
  refine lv_lconst (v := lN 0) hx hb dX0_loweredInAll_8 (by decide) ?_
  refine lv_lstore (lv' := [(5, .long (lN (0))), (4, .int (nI (rch M (w) (v)))), (0, .ref (ad 0)), (1, .int (nI (w))), (2, .int (nI (v))), (3, .int (nI (mo)))]) hx hb dX0_loweredInAll_9 hl (by decide) rfl (fun ls hl => ?_)
  refine lv_iconst (v := nI 0) hx hb dX0_loweredInAll_11 (by decide) ?_
  refine lv_istore (lv' := [(7, .int (nI (0))), (5, .long (lN (0))), (4, .int (nI (rch M (w) (v)))), (0, .ref (ad 0)), (1, .int (nI (w))), (2, .int (nI (v))), (3, .int (nI (mo)))]) hx hb dX0_loweredInAll_12 hl (by decide) rfl (fun ls hl => ?_)
  have lp14 : ∀ (n d : Nat), d ≤ d12 (36 - mo) → d12 (36 - mo) - d < n → ∀ ls : Array Slot, lv_has ls 8 [(0, .ref (ad 0)), (1, .int (nI (w))), (2, .int (nI (v))), (3, .int (nI (mo))), (4, .int (nI (rch M (w) (v)))), (5, .long (lN (ssum (fun d => M (10 + 3 * w) mo * tbn M (rch M w v) d) (d)))), (7, .int (nI (d)))] → W p l e (rmP 2) s m args below meth c s.heap [] 0 0 Q (F0 m 14 ls []) := by
    intro n
    induction n with
    | zero => intro d q1 q2; omega
    | succ n ih14 =>
      intro d q1_14 q2_14 ls hl
      refine lv_iload hx hb dX0_loweredInAll_14 (lv_at hl 6 rfl) ?_
      refine lv_bipush (v := nI 12) hx hb dX0_loweredInAll_16 (by decide) ?_
      refine zb_ge (tgt := 60) hx hb (by omega) (by omega) dX0_loweredInAll_18 (by decide) (fun c_3 => ?_) (fun c_3 => ?_)
      · skip
        have q_4 : d = d12 (36 - mo) := by omega
        subst q_4
        refine lv_lload hx hb dX0_loweredInAll_60 (lv_at hl 5 rfl) ?_
        exact hret rfl dX0_loweredInAll_62
      · skip
        refine lv_iload_n hx hb dX0_loweredInAll_21 rfl (lv_at hl 3 rfl) ?_
        refine lv_iload hx hb dX0_loweredInAll_22 (lv_at hl 6 rfl) ?_
        refine zr_iadd hx hb dX0_loweredInAll_24 ?_
        refine lv_bipush (v := nI 36) hx hb dX0_loweredInAll_25 (by decide) ?_
        refine zb_ge (tgt := 60) hx hb (by omega) (by omega) dX0_loweredInAll_27 (by decide) (fun c_5 => ?_) (fun c_5 => ?_)
        · skip
          have q_6 : d = d12 (36 - mo) := by omega
          subst q_6
          refine lv_lload hx hb dX0_loweredInAll_60 (lv_at hl 5 rfl) ?_
          exact hret rfl dX0_loweredInAll_62
        · skip
          refine lv_lload hx hb dX0_loweredInAll_30 (lv_at hl 5 rfl) ?_
          refine lv_aload_n hx hb dX0_loweredInAll_32 rfl (lv_at hl 0 rfl) ?_
          refine zg0 hx hb hw0 hown hK hP (by decide) rfl 3 (by decide) (hts (.fieldLink RX0 21 "WellField" "pumping" "[[I") (by decide +kernel)) rfl rfl dX0_loweredInAll_33 ?_
          refine lv_iload_n hx hb dX0_loweredInAll_36 rfl (lv_at hl 1 rfl) ?_
          refine zq_ld hx hb hK hP 4 (by decide) 2 rfl rfl (by decide) (i := w) (by omega) (a := ad (11 + (w))) rfl dX0_loweredInAll_37 ?_
          refine lv_iload_n hx hb dX0_loweredInAll_38 rfl (lv_at hl 3 rfl) ?_
          refine zi_ld hx hb hK hP (11 + (w)) (by omega) 0 (wcE_pump (by omega)) rfl (by decide) (i := mo) (by omega) (v := nI (M (10 + 3 * (w)) (mo))) rfl dX0_loweredInAll_39 ?_
          have f_7 := hI.un (w) (by omega) (mo)
          refine zr_i2l hx hb (by omega) dX0_loweredInAll_40 ?_
          refine lv_aload_n hx hb dX0_loweredInAll_41 rfl (lv_at hl 0 rfl) ?_
          refine lv_iload hx hb dX0_loweredInAll_42 (lv_at hl 4 rfl) ?_
          refine lv_iload hx hb dX0_loweredInAll_44 (lv_at hl 6 rfl) ?_
          refine vp_callSi (W.runV (As := [.int (nI (rch M (w) (v))), .int (nI (d))]) (rest := [.long (lN (M (10 + 3 * (w)) (mo))), .long (lN (ssum (fun d => M (10 + 3 * w) mo * tbn M (rch M w v) d) (d)))]) ⟨hx, hb, hml, hown, hts⟩ (c0_tableNumber l hI (r := rch M (w) (v)) (d := d) (by omega) (by omega)) (cwV 2 hts gX0_loweredInAll_X0_tableNumber rfl rfl rfl (by decide +kernel) (by decide)) (pv0 hK hP) rfl rfl hl.1 rfl (lv_room (Nat.le_of_ble_eq_true rfl)) dX0_loweredInAll_46 (by decide)) (fun r_8 hr_8 => ?_)
          subst hr_8
          have f_9 := tbn_le hI (rch M (w) (v)) (d)
          refine zr_i2l hx hb (by omega) dX0_loweredInAll_49 ?_
          refine zr_lmul hx hb dX0_loweredInAll_50 ?_
          refine zr_ladd hx hb dX0_loweredInAll_51 ?_
          refine lv_lstore (lv' := [(5, .long (lN ((ssum (fun d => M (10 + 3 * w) mo * tbn M (rch M w v) d) (d)) + ((M (10 + 3 * (w)) (mo)) * (tbn M (rch M (w) (v)) (d)))))), (0, .ref (ad 0)), (1, .int (nI (w))), (2, .int (nI (v))), (3, .int (nI (mo))), (4, .int (nI (rch M (w) (v)))), (7, .int (nI (d)))]) hx hb dX0_loweredInAll_52 hl (by decide) rfl (fun ls hl => ?_)
          refine lv_iinc (v := nI (d + 1)) (lv' := [(7, .int (nI (d + 1))), (5, .long (lN ((ssum (fun d => M (10 + 3 * w) mo * tbn M (rch M w v) d) (d)) + ((M (10 + 3 * (w)) (mo)) * (tbn M (rch M (w) (v)) (d)))))), (0, .ref (ad 0)), (1, .int (nI (w))), (2, .int (nI (v))), (3, .int (nI (mo))), (4, .int (nI (rch M (w) (v))))]) hx hb dX0_loweredInAll_54 hl (k := 6) rfl (zn_inc (d)) (by decide) rfl (fun ls hl => ?_)
          refine lv_goto (tgt := 14) hx hb dX0_loweredInAll_57 (by decide) ?_
          exact ih14 (d + 1) (by omega) (by omega) _ (lv_sub hl [2, 3, 4, 5, 6, 1, 0] rfl)
  exact lp14 (d12 (36 - mo) - (0) + 1) (0) (by omega) (by omega) _ (lv_sub hl [3, 4, 5, 6, 2, 1, 0] rfl)
set_option maxHeartbeats 4000000 in
set_option maxRecDepth 100000 in
/-- what is taken of the stream in a year by the first months -/
theorem c0_takenOfMonthsBefore (l : Launch) {D : va_G} {ad : Nat → Nat} {cI cJ cQ : ClassId} {M : Mdl} {ts : Nat → Nat} {pu : Nat → Int64} (hI : Inv M) {w E y : Nat} (hw : w < M 0 0) (hE : E ≤ 36) (hy : y < 3) : Met l yX0_takenOfMonthsBefore wsX0_takenOfMonthsBefore (rmP 1) (va_Pc [.ref (ad 0), .int (nI (w)), .int (nI (E)), .int (nI (y))] (KP0 D ad cI cJ cQ M ts pu)) (vp_Si (fun r_ => r_ = nI (tk M w y E))) 0 0 (fun _ => False) := by
  refine mk_Si (post := fun r_ => r_ = nI (tk M w y E)) (cc := cX0_takenOfMonthsBefore) (maxL := 9) (by decide) rfl (Nat.le_of_ble_eq_true rfl) ?_
  intro p e s m args below meth c Q C0 B0 hret ls hl
  obtain ⟨hx, hb, hr, hml, hown, hts, hlocks⟩ := C0
  have hown : s.vm.findClass RX0 = some m.cls := hown
  obtain ⟨hK, hP⟩ := B0
  have hw0 : ∀ w ∈ wsX00, w.before args s = true := fun w h => hts w ((by decide +kernel : ∀ w ∈ wsX00, w ∈ wsX0_takenOfMonthsBefore) w h)
  have b_nw := hI.nw
  have b_nv := hI.nv
  have hl : lv_has ls 9 [(0, .ref (ad 0)), (1, .int (nI (w))), (2, .int (nI (E))), (3, .int (nI (y)))] := hl
  refine lv_aload_n hx hb dX0_takenOfMonthsBefore_0 rfl (lv_at hl 0 rfl) ?_
  refine zg0 hx hb hw0 hown hK hP (by decide) rfl 0 (by decide) (hts (.fieldLink RX0 9 "WellField" "wellPlaces" "[I") (by decide +kernel)) rfl rfl dX0_takenOfMonthsBefore_1 ?_
  refine lv_iload_n hx hb dX0_takenOfMonthsBefore_4 rfl (lv_at hl 1 rfl) ?_
  refine zi_ld hx hb hK hP 1 (by decide) 0 rfl rfl (by decide) (i := w) (by omega) (v := nI (M 1 (w))) rfl dX0_takenOfMonthsBefore_5 ?_
  have f_1 := hI.pl (w)
  refine lv_iconst (v := nI 5) hx hb dX0_takenOfMonthsBefore_6 (by decide) ?_
  refine zr_idiv hx hb (by omega) (by omega) (by omega) dX0_takenOfMonthsBefore_7 ?_
  refine lv_istore (lv' := [(4, .int (nI ((M 1 (w)) / (5)))), (0, .ref (ad 0)), (1, .int (nI (w))), (2, .int (nI (E))), (3, .int (nI (y)))]) hx hb dX0_takenOfMonthsBefore_8 hl (by decide) rfl (fun ls hl => ?_)
  refine lv_iconst (v := nI 0) hx hb dX0_takenOfMonthsBefore_10 (by decide) ?_
  refine lv_istore (lv' := [(5, .int (nI (0))), (4, .int (nI ((M 1 (w)) / (5)))), (0, .ref (ad 0)), (1, .int (nI (w))), (2, .int (nI (E))), (3, .int (nI (y)))]) hx hb dX0_takenOfMonthsBefore_11 hl (by decide) rfl (fun ls hl => ?_)
  refine lv_iconst (v := nI 0) hx hb dX0_takenOfMonthsBefore_13 (by decide) ?_
  refine lv_istore (lv' := [(6, .int (nI (0))), (5, .int (nI (0))), (4, .int (nI ((M 1 (w)) / (5)))), (0, .ref (ad 0)), (1, .int (nI (w))), (2, .int (nI (E))), (3, .int (nI (y)))]) hx hb dX0_takenOfMonthsBefore_14 hl (by decide) rfl (fun ls hl => ?_)
  have lp16 : ∀ (n j : Nat), j ≤ E → E - j < n → ∀ ls : Array Slot, lv_has ls 9 [(0, .ref (ad 0)), (1, .int (nI (w))), (2, .int (nI (E))), (3, .int (nI (y))), (4, .int (nI ((M 1 (w)) / (5)))), (5, .int (nI (ssum (fun m => tks M w y m) (j)))), (6, .int (nI (j)))] → W p l e (rmP 1) s m args below meth c s.heap [] 0 0 Q (F0 m 16 ls []) := by
    intro n
    induction n with
    | zero => intro j q1 q2; omega
    | succ n ih16 =>
      intro j q1_16 q2_16 ls hl
      refine lv_iload hx hb dX0_takenOfMonthsBefore_16 (lv_at hl 6 rfl) ?_
      refine lv_iload_n hx hb dX0_takenOfMonthsBefore_18 rfl (lv_at hl 2 rfl) ?_
      refine zb_ge (tgt := 103) hx hb (by omega) (by omega) dX0_takenOfMonthsBefore_19 (by decide) (fun c_2 => ?_) (fun c_2 => ?_)
      · skip
        have q_3 : j = E := by omega
        subst q_3
        refine lv_iload hx hb dX0_takenOfMonthsBefore_103 (lv_at hl 5 rfl) ?_
        exact hret rfl dX0_takenOfMonthsBefore_105
      · skip
        refine lv_aload_n hx hb dX0_takenOfMonthsBefore_22 rfl (lv_at hl 0 rfl) ?_
        refine zg0 hx hb hw0 hown hK hP (by decide) rfl 3 (by decide) (hts (.fieldLink RX0 21 "WellField" "pumping" "[[I") (by decide +kernel)) rfl rfl dX0_takenOfMonthsBefore_23 ?_
        refine lv_iload_n hx hb dX0_takenOfMonthsBefore_26 rfl (lv_at hl 1 rfl) ?_
        refine zq_ld hx hb hK hP 4 (by decide) 2 rfl rfl (by decide) (i := w) (by omega) (a := ad (11 + (w))) rfl dX0_takenOfMonthsBefore_27 ?_
        refine lv_iload hx hb dX0_takenOfMonthsBefore_28 (lv_at hl 6 rfl) ?_
        refine zi_ld hx hb hK hP (11 + (w)) (by omega) 0 (wcE_pump (by omega)) rfl (by decide) (i := j) (by omega) (v := nI (M (10 + 3 * (w)) (j))) rfl dX0_takenOfMonthsBefore_30 ?_
        have f_4 := hI.un (w) (by omega) (j)
        refine lv_iconst (v := nI 2) hx hb dX0_takenOfMonthsBefore_31 (by decide) ?_
        refine zr_idiv hx hb (by omega) (by omega) (by omega) dX0_takenOfMonthsBefore_32 ?_
        refine lv_istore (lv' := [(7, .int (nI ((M (10 + 3 * (w)) (j)) / (2)))), (0, .ref (ad 0)), (1, .int (nI (w))), (2, .int (nI (E))), (3, .int (nI (y))), (4, .int (nI ((M 1 (w)) / (5)))), (5, .int (nI (ssum (fun m => tks M w y m) (j)))), (6, .int (nI (j)))]) hx hb dX0_takenOfMonthsBefore_33 hl (by decide) rfl (fun ls hl => ?_)
        refine lv_aload_n hx hb dX0_takenOfMonthsBefore_35 rfl (lv_at hl 1 rfl) ?_
        refine zg0 hx hb hw0 hown hK hP (by decide) rfl 3 (by decide) (hts (.fieldLink RX0 21 "WellField" "pumping" "[[I") (by decide +kernel)) rfl rfl dX0_takenOfMonthsBefore_36 ?_
        refine lv_iload_n hx hb dX0_takenOfMonthsBefore_39 rfl (lv_at hl 2 rfl) ?_
        refine zq_ld hx hb hK hP 4 (by decide) 2 rfl rfl (by decide) (i := w) (by omega) (a := ad (11 + (w))) rfl dX0_takenOfMonthsBefore_40 ?_
        refine lv_iload hx hb dX0_takenOfMonthsBefore_41 (lv_at hl 7 rfl) ?_
        refine zi_ld hx hb hK hP (11 + (w)) (by omega) 0 (wcE_pump (by omega)) rfl (by decide) (i := j) (by omega) (v := nI (M (10 + 3 * (w)) (j))) rfl dX0_takenOfMonthsBefore_43 ?_
        have f_5 := hI.un (w) (by omega) (j)
        refine lv_iload hx hb dX0_takenOfMonthsBefore_44 (lv_at hl 0 rfl) ?_
        refine zr_isub hx hb (by omega) dX0_takenOfMonthsBefore_46 ?_
        refine lv_istore (lv' := [(8, .int (nI ((M (10 + 3 * (w)) (j)) - ((M (10 + 3 * (w)) (j)) / (2))))), (7, .int (nI ((M (10 + 3 * (w)) (j)) / (2)))), (0, .ref (ad 0)), (1, .int (nI (w))), (2, .int (nI (E))), (3, .int (nI (y))), (4, .int (nI ((M 1 (w)) / (5)))), (5, .int (nI (ssum (fun m => tks M w y m) (j)))), (6, .int (nI (j)))]) hx hb dX0_takenOfMonthsBefore_47 hl (by decide) rfl (fun ls hl => ?_)
        refine lv_iload hx hb dX0_takenOfMonthsBefore_49 (lv_at hl 7 rfl) ?_
        refine lv_iload hx hb dX0_takenOfMonthsBefore_51 (lv_at hl 8 rfl) ?_
        refine lv_iload hx hb dX0_takenOfMonthsBefore_53 (lv_at hl 6 rfl) ?_
        refine zr_iadd hx hb dX0_takenOfMonthsBefore_55 ?_
        refine lv_iload_n hx hb dX0_takenOfMonthsBefore_56 rfl (lv_at hl 5 rfl) ?_
        refine vp_callSi (W.runS (As := [.int (nI ((j) + ((M 1 (w)) / (5)))), .int (nI (y))]) (rest := [.int (nI (ssum (fun m => tks M w y m) (j)))]) ⟨hx, hb, hml, hown, hts⟩ (c0_isInYear l (a := (j) + ((M 1 (w)) / (5))) (y := y) (by omega) (by omega)) (va_cwS 2 hts gX0_takenOfMonthsBefore_X0_isInYear rfl rfl rfl (by decide +kernel) (by decide)) psN rfl rfl hl.1 rfl (lv_room (Nat.le_of_ble_eq_true rfl)) dX0_takenOfMonthsBefore_57 (by decide)) (fun r_6 hr_6 => ?_)
        obtain ⟨b_7, rfl, hb_7⟩ := hr_6
        subst hb_7
        refine zb_Beq (tgt := 68) hx hb dX0_takenOfMonthsBefore_60 (by decide) (fun c_8 => ?_) (fun c_8 => ?_)
        · skip
          refine lv_iconst (v := nI 0) hx hb dX0_takenOfMonthsBefore_68 (by decide) ?_
          refine zt_i (y := nI (if (j + M 1 w / 5) / 12 = y then M (10 + 3 * w) j - M (10 + 3 * w) j / 2 else 0)) (congrArg nI (by simp_all)) ?_
          refine zr_iadd hx hb dX0_takenOfMonthsBefore_69 ?_
          refine lv_istore (lv' := [(5, .int (nI ((ssum (fun m => tks M w y m) (j)) + (if (j + M 1 w / 5) / 12 = y then M (10 + 3 * w) j - M (10 + 3 * w) j / 2 else 0)))), (8, .int (nI ((M (10 + 3 * (w)) (j)) - ((M (10 + 3 * (w)) (j)) / (2))))), (7, .int (nI ((M (10 + 3 * (w)) (j)) / (2)))), (0, .ref (ad 0)), (1, .int (nI (w))), (2, .int (nI (E))), (3, .int (nI (y))), (4, .int (nI ((M 1 (w)) / (5)))), (6, .int (nI (j)))]) hx hb dX0_takenOfMonthsBefore_70 hl (by decide) rfl (fun ls hl => ?_)
          refine lv_iload hx hb dX0_takenOfMonthsBefore_72 (lv_at hl 0 rfl) ?_
          refine lv_iload hx hb dX0_takenOfMonthsBefore_74 (lv_at hl 8 rfl) ?_
          refine lv_iload hx hb dX0_takenOfMonthsBefore_76 (lv_at hl 7 rfl) ?_
          refine zr_iadd hx hb dX0_takenOfMonthsBefore_78 ?_
          refine lv_iconst (v := nI 1) hx hb dX0_takenOfMonthsBefore_79 (by decide) ?_
          refine zr_iadd hx hb dX0_takenOfMonthsBefore_80 ?_
          refine lv_iload_n hx hb dX0_takenOfMonthsBefore_81 rfl (lv_at hl 6 rfl) ?_
          refine vp_callSi (W.runS (As := [.int (nI (((j) + ((M 1 (w)) / (5))) + (1))), .int (nI (y))]) (rest := [.int (nI ((ssum (fun m => tks M w y m) (j)) + (if (j + M 1 w / 5) / 12 = y then M (10 + 3 * w) j - M (10 + 3 * w) j / 2 else 0)))]) ⟨hx, hb, hml, hown, hts⟩ (c0_isInYear l (a := ((j) + ((M 1 (w)) / (5))) + (1)) (y := y) (by omega) (by omega)) (va_cwS 2 hts gX0_takenOfMonthsBefore_X0_isInYear rfl rfl rfl (by decide +kernel) (by decide)) psN rfl rfl hl.1 rfl (lv_room (Nat.le_of_ble_eq_true rfl)) dX0_takenOfMonthsBefore_82 (by decide)) (fun r_9 hr_9 => ?_)
          obtain ⟨b_10, rfl, hb_10⟩ := hr_9
          subst hb_10
          refine zb_Beq (tgt := 93) hx hb dX0_takenOfMonthsBefore_85 (by decide) (fun c_11 => ?_) (fun c_11 => ?_)
          · skip
            refine lv_iconst (v := nI 0) hx hb dX0_takenOfMonthsBefore_93 (by decide) ?_
            refine zt_i (y := nI (if (j + M 1 w / 5 + 1) / 12 = y then M (10 + 3 * w) j / 2 else 0)) (congrArg nI (by simp_all)) ?_
            refine zr_iadd hx hb dX0_takenOfMonthsBefore_94 ?_
            refine lv_istore (lv' := [(5, .int (nI (((ssum (fun m => tks M w y m) (j)) + (if (j + M 1 w / 5) / 12 = y then M (10 + 3 * w) j - M (10 + 3 * w) j / 2 else 0)) + (if (j + M 1 w / 5 + 1) / 12 = y then M (10 + 3 * w) j / 2 else 0)))), (8, .int (nI ((M (10 + 3 * (w)) (j)) - ((M (10 + 3 * (w)) (j)) / (2))))), (7, .int (nI ((M (10 + 3 * (w)) (j)) / (2)))), (0, .ref (ad 0)), (1, .int (nI (w))), (2, .int (nI (E))), (3, .int (nI (y))), (4, .int (nI ((M 1 (w)) / (5)))), (6, .int (nI (j)))]) hx hb dX0_takenOfMonthsBefore_95 hl (by decide) rfl (fun ls hl => ?_)
            have hl := lv_cast (l2 := [(5, .int (nI (ssum (fun m => tks M w y m) (j + 1)))), (8, .int (nI ((M (10 + 3 * (w)) (j)) - ((M (10 + 3 * (w)) (j)) / (2))))), (7, .int (nI ((M (10 + 3 * (w)) (j)) / (2)))), (0, .ref (ad 0)), (1, .int (nI (w))), (2, .int (nI (E))), (3, .int (nI (y))), (4, .int (nI ((M 1 (w)) / (5)))), (6, .int (nI (j)))]) hl (by rw [show (ssum (fun m => tks M w y m) (j + 1)) = (((ssum (fun m => tks M w y m) (j)) + (if (j + M 1 w / 5) / 12 = y then M (10 + 3 * w) j - M (10 + 3 * w) j / 2 else 0)) + (if (j + M 1 w / 5 + 1) / 12 = y then M (10 + 3 * w) j / 2 else 0)) from (by rw [ssum_s, tks]; exact (Nat.add_assoc _ _ _).symm)])
            refine lv_iinc (v := nI (j + 1)) (lv' := [(6, .int (nI (j + 1))), (5, .int (nI (ssum (fun m => tks M w y m) (j + 1)))), (8, .int (nI ((M (10 + 3 * (w)) (j)) - ((M (10 + 3 * (w)) (j)) / (2))))), (7, .int (nI ((M (10 + 3 * (w)) (j)) / (2)))), (0, .ref (ad 0)), (1, .int (nI (w))), (2, .int (nI (E))), (3, .int (nI (y))), (4, .int (nI ((M 1 (w)) / (5))))]) hx hb dX0_takenOfMonthsBefore_97 hl (k := 8) rfl (zn_inc (j)) (by decide) rfl (fun ls hl => ?_)
            refine lv_goto (tgt := 16) hx hb dX0_takenOfMonthsBefore_100 (by decide) ?_
            exact ih16 (j + 1) (by omega) (by omega) _ (lv_sub hl [4, 5, 6, 7, 8, 1, 0] rfl)
          · skip
            refine lv_iload hx hb dX0_takenOfMonthsBefore_88 (lv_at hl 2 rfl) ?_
            refine lv_goto (tgt := 94) hx hb dX0_takenOfMonthsBefore_90 (by decide) ?_
            refine zt_i (y := nI (if (j + M 1 w / 5 + 1) / 12 = y then M (10 + 3 * w) j / 2 else 0)) (congrArg nI (by simp_all)) ?_
            refine zr_iadd hx hb dX0_takenOfMonthsBefore_94 ?_
            refine lv_istore (lv' := [(5, .int (nI (((ssum (fun m => tks M w y m) (j)) + (if (j + M 1 w / 5) / 12 = y then M (10 + 3 * w) j - M (10 + 3 * w) j / 2 else 0)) + (if (j + M 1 w / 5 + 1) / 12 = y then M (10 + 3 * w) j / 2 else 0)))), (8, .int (nI ((M (10 + 3 * (w)) (j)) - ((M (10 + 3 * (w)) (j)) / (2))))), (7, .int (nI ((M (10 + 3 * (w)) (j)) / (2)))), (0, .ref (ad 0)), (1, .int (nI (w))), (2, .int (nI (E))), (3, .int (nI (y))), (4, .int (nI ((M 1 (w)) / (5)))), (6, .int (nI (j)))]) hx hb dX0_takenOfMonthsBefore_95 hl (by decide) rfl (fun ls hl => ?_)
            have hl := lv_cast (l2 := [(5, .int (nI (ssum (fun m => tks M w y m) (j + 1)))), (8, .int (nI ((M (10 + 3 * (w)) (j)) - ((M (10 + 3 * (w)) (j)) / (2))))), (7, .int (nI ((M (10 + 3 * (w)) (j)) / (2)))), (0, .ref (ad 0)), (1, .int (nI (w))), (2, .int (nI (E))), (3, .int (nI (y))), (4, .int (nI ((M 1 (w)) / (5)))), (6, .int (nI (j)))]) hl (by rw [show (ssum (fun m => tks M w y m) (j + 1)) = (((ssum (fun m => tks M w y m) (j)) + (if (j + M 1 w / 5) / 12 = y then M (10 + 3 * w) j - M (10 + 3 * w) j / 2 else 0)) + (if (j + M 1 w / 5 + 1) / 12 = y then M (10 + 3 * w) j / 2 else 0)) from (by rw [ssum_s, tks]; exact (Nat.add_assoc _ _ _).symm)])
            refine lv_iinc (v := nI (j + 1)) (lv' := [(6, .int (nI (j + 1))), (5, .int (nI (ssum (fun m => tks M w y m) (j + 1)))), (8, .int (nI ((M (10 + 3 * (w)) (j)) - ((M (10 + 3 * (w)) (j)) / (2))))), (7, .int (nI ((M (10 + 3 * (w)) (j)) / (2)))), (0, .ref (ad 0)), (1, .int (nI (w))), (2, .int (nI (E))), (3, .int (nI (y))), (4, .int (nI ((M 1 (w)) / (5))))]) hx hb dX0_takenOfMonthsBefore_97 hl (k := 8) rfl (zn_inc (j)) (by decide) rfl (fun ls hl => ?_)
            refine lv_goto (tgt := 16) hx hb dX0_takenOfMonthsBefore_100 (by decide) ?_
            exact ih16 (j + 1) (by omega) (by omega) _ (lv_sub hl [4, 5, 6, 7, 8, 1, 0] rfl)
        · skip
          refine lv_iload hx hb dX0_takenOfMonthsBefore_63 (lv_at hl 0 rfl) ?_
          refine lv_goto (tgt := 69) hx hb dX0_takenOfMonthsBefore_65 (by decide) ?_
          refine zt_i (y := nI (if (j + M 1 w / 5) / 12 = y then M (10 + 3 * w) j - M (10 + 3 * w) j / 2 else 0)) (congrArg nI (by simp_all)) ?_
          refine zr_iadd hx hb dX0_takenOfMonthsBefore_69 ?_
          refine lv_istore (lv' := [(5, .int (nI ((ssum (fun m => tks M w y m) (j)) + (if (j + M 1 w / 5) / 12 = y then M (10 + 3 * w) j - M (10 + 3 * w) j / 2 else 0)))), (8, .int (nI ((M (10 + 3 * (w)) (j)) - ((M (10 + 3 * (w)) (j)) / (2))))), (7, .int (nI ((M (10 + 3 * (w)) (j)) / (2)))), (0, .ref (ad 0)), (1, .int (nI (w))), (2, .int (nI (E))), (3, .int (nI (y))), (4, .int (nI ((M 1 (w)) / (5)))), (6, .int (nI (j)))]) hx hb dX0_takenOfMonthsBefore_70 hl (by decide) rfl (fun ls hl => ?_)
          refine lv_iload hx hb dX0_takenOfMonthsBefore_72 (lv_at hl 0 rfl) ?_
          refine lv_iload hx hb dX0_takenOfMonthsBefore_74 (lv_at hl 8 rfl) ?_
          refine lv_iload hx hb dX0_takenOfMonthsBefore_76 (lv_at hl 7 rfl) ?_
          refine zr_iadd hx hb dX0_takenOfMonthsBefore_78 ?_
          refine lv_iconst (v := nI 1) hx hb dX0_takenOfMonthsBefore_79 (by decide) ?_
          refine zr_iadd hx hb dX0_takenOfMonthsBefore_80 ?_
          refine lv_iload_n hx hb dX0_takenOfMonthsBefore_81 rfl (lv_at hl 6 rfl) ?_
          refine vp_callSi (W.runS (As := [.int (nI (((j) + ((M 1 (w)) / (5))) + (1))), .int (nI (y))]) (rest := [.int (nI ((ssum (fun m => tks M w y m) (j)) + (if (j + M 1 w / 5) / 12 = y then M (10 + 3 * w) j - M (10 + 3 * w) j / 2 else 0)))]) ⟨hx, hb, hml, hown, hts⟩ (c0_isInYear l (a := ((j) + ((M 1 (w)) / (5))) + (1)) (y := y) (by omega) (by omega)) (va_cwS 2 hts gX0_takenOfMonthsBefore_X0_isInYear rfl rfl rfl (by decide +kernel) (by decide)) psN rfl rfl hl.1 rfl (lv_room (Nat.le_of_ble_eq_true rfl)) dX0_takenOfMonthsBefore_82 (by decide)) (fun r_12 hr_12 => ?_)
          obtain ⟨b_13, rfl, hb_13⟩ := hr_12
          subst hb_13
          refine zb_Beq (tgt := 93) hx hb dX0_takenOfMonthsBefore_85 (by decide) (fun c_14 => ?_) (fun c_14 => ?_)
          · skip
            refine lv_iconst (v := nI 0) hx hb dX0_takenOfMonthsBefore_93 (by decide) ?_
            refine zt_i (y := nI (if (j + M 1 w / 5 + 1) / 12 = y then M (10 + 3 * w) j / 2 else 0)) (congrArg nI (by simp_all)) ?_
            refine zr_iadd hx hb dX0_takenOfMonthsBefore_94 ?_
            refine lv_istore (lv' := [(5, .int (nI (((ssum (fun m => tks M w y m) (j)) + (if (j + M 1 w / 5) / 12 = y then M (10 + 3 * w) j - M (10 + 3 * w) j / 2 else 0)) + (if (j + M 1 w / 5 + 1) / 12 = y then M (10 + 3 * w) j / 2 else 0)))), (8, .int (nI ((M (10 + 3 * (w)) (j)) - ((M (10 + 3 * (w)) (j)) / (2))))), (7, .int (nI ((M (10 + 3 * (w)) (j)) / (2)))), (0, .ref (ad 0)), (1, .int (nI (w))), (2, .int (nI (E))), (3, .int (nI (y))), (4, .int (nI ((M 1 (w)) / (5)))), (6, .int (nI (j)))]) hx hb dX0_takenOfMonthsBefore_95 hl (by decide) rfl (fun ls hl => ?_)
            have hl := lv_cast (l2 := [(5, .int (nI (ssum (fun m => tks M w y m) (j + 1)))), (8, .int (nI ((M (10 + 3 * (w)) (j)) - ((M (10 + 3 * (w)) (j)) / (2))))), (7, .int (nI ((M (10 + 3 * (w)) (j)) / (2)))), (0, .ref (ad 0)), (1, .int (nI (w))), (2, .int (nI (E))), (3, .int (nI (y))), (4, .int (nI ((M 1 (w)) / (5)))), (6, .int (nI (j)))]) hl (by rw [show (ssum (fun m => tks M w y m) (j + 1)) = (((ssum (fun m => tks M w y m) (j)) + (if (j + M 1 w / 5) / 12 = y then M (10 + 3 * w) j - M (10 + 3 * w) j / 2 else 0)) + (if (j + M 1 w / 5 + 1) / 12 = y then M (10 + 3 * w) j / 2 else 0)) from (by rw [ssum_s, tks]; exact (Nat.add_assoc _ _ _).symm)])
            refine lv_iinc (v := nI (j + 1)) (lv' := [(6, .int (nI (j + 1))), (5, .int (nI (ssum (fun m => tks M w y m) (j + 1)))), (8, .int (nI ((M (10 + 3 * (w)) (j)) - ((M (10 + 3 * (w)) (j)) / (2))))), (7, .int (nI ((M (10 + 3 * (w)) (j)) / (2)))), (0, .ref (ad 0)), (1, .int (nI (w))), (2, .int (nI (E))), (3, .int (nI (y))), (4, .int (nI ((M 1 (w)) / (5))))]) hx hb dX0_takenOfMonthsBefore_97 hl (k := 8) rfl (zn_inc (j)) (by decide) rfl (fun ls hl => ?_)
            refine lv_goto (tgt := 16) hx hb dX0_takenOfMonthsBefore_100 (by decide) ?_
            exact ih16 (j + 1) (by omega) (by omega) _ (lv_sub hl [4, 5, 6, 7, 8, 1, 0] rfl)
          · skip
            refine lv_iload hx hb dX0_takenOfMonthsBefore_88 (lv_at hl 2 rfl) ?_
            refine lv_goto (tgt := 94) hx hb dX0_takenOfMonthsBefore_90 (by decide) ?_
            refine zt_i (y := nI (if (j + M 1 w / 5 + 1) / 12 = y then M (10 + 3 * w) j / 2 else 0)) (congrArg nI (by simp_all)) ?_
            refine zr_iadd hx hb dX0_takenOfMonthsBefore_94 ?_
            refine lv_istore (lv' := [(5, .int (nI (((ssum (fun m => tks M w y m) (j)) + (if (j + M 1 w / 5) / 12 = y then M (10 + 3 * w) j - M (10 + 3 * w) j / 2 else 0)) + (if (j + M 1 w / 5 + 1) / 12 = y then M (10 + 3 * w) j / 2 else 0)))), (8, .int (nI ((M (10 + 3 * (w)) (j)) - ((M (10 + 3 * (w)) (j)) / (2))))), (7, .int (nI ((M (10 + 3 * (w)) (j)) / (2)))), (0, .ref (ad 0)), (1, .int (nI (w))), (2, .int (nI (E))), (3, .int (nI (y))), (4, .int (nI ((M 1 (w)) / (5)))), (6, .int (nI (j)))]) hx hb dX0_takenOfMonthsBefore_95 hl (by decide) rfl (fun ls hl => ?_)
            have hl := lv_cast (l2 := [(5, .int (nI (ssum (fun m => tks M w y m) (j + 1)))), (8, .int (nI ((M (10 + 3 * (w)) (j)) - ((M (10 + 3 * (w)) (j)) / (2))))), (7, .int (nI ((M (10 + 3 * (w)) (j)) / (2)))), (0, .ref (ad 0)), (1, .int (nI (w))), (2, .int (nI (E))), (3, .int (nI (y))), (4, .int (nI ((M 1 (w)) / (5)))), (6, .int (nI (j)))]) hl (by rw [show (ssum (fun m => tks M w y m) (j + 1)) = (((ssum (fun m => tks M w y m) (j)) + (if (j + M 1 w / 5) / 12 = y then M (10 + 3 * w) j - M (10 + 3 * w) j / 2 else 0)) + (if (j + M 1 w / 5 + 1) / 12 = y then M (10 + 3 * w) j / 2 else 0)) from (by rw [ssum_s, tks]; exact (Nat.add_assoc _ _ _).symm)])
            refine lv_iinc (v := nI (j + 1)) (lv' := [(6, .int (nI (j + 1))), (5, .int (nI (ssum (fun m => tks M w y m) (j + 1)))), (8, .int (nI ((M (10 + 3 * (w)) (j)) - ((M (10 + 3 * (w)) (j)) / (2))))), (7, .int (nI ((M (10 + 3 * (w)) (j)) / (2)))), (0, .ref (ad 0)), (1, .int (nI (w))), (2, .int (nI (E))), (3, .int (nI (y))), (4, .int (nI ((M 1 (w)) / (5))))]) hx hb dX0_takenOfMonthsBefore_97 hl (k := 8) rfl (zn_inc (j)) (by decide) rfl (fun ls hl => ?_)
            refine lv_goto (tgt := 16) hx hb dX0_takenOfMonthsBefore_100 (by decide) ?_
            exact ih16 (j + 1) (by omega) (by omega) _ (lv_sub hl [4, 5, 6, 7, 8, 1, 0] rfl)
  exact lp16 (E - (0) + 1) (0) (by omega) (by omega) _ (lv_sub hl [3, 4, 5, 6, 2, 1, 0] rfl)
set_option maxHeartbeats 4000000 in
set_option maxRecDepth 100000 in
/-- the burden of some units -/
theorem c0_burdenOfUnits (l : Launch) {D : va_G} {ad : Nat → Nat} {cI cJ cQ : ClassId} {M : Mdl} {ts : Nat → Nat} {pu : Nat → Int64} (hI : Inv M) {w v x : Nat} (hw : w < M 0 0) (hv : v < M 5 0) (hx31 : x < 2 ^ 31) (hT : ∀ r, r < 5 → ts r = ssum (fun d => M (11 + 3 * r) d) 12) : Met l yX0_burdenOfUnits wsX0_burdenOfUnits (rmP 2) (va_Pc [.ref (ad 0), .int (nI (w)), .int (nI (v)), .int (nI (x))] (KP0 D ad cI cJ cQ M ts pu)) (vp_Sl (fun r_ => r_ = lN (x * als M w v))) 0 0 (fun _ => False) := by
  refine mk_Sl (post := fun r_ => r_ = lN (x * als M w v)) (cc := cX0_burdenOfUnits) (maxL := 5) (by decide) rfl (Nat.le_of_ble_eq_true rfl) ?_
  intro p e s m args below meth c Q C0 B0 hret ls hl
  obtain ⟨hx, hb, hr, hml, hown, hts, hlocks⟩ := C0
  have hown : s.vm.findClass RX0 = some m.cls := hown
  obtain ⟨hK, hP⟩ := B0
  have hw0 : ∀ w ∈ wsX00, w.before args s = true := fun w h => hts w ((by decide +kernel : ∀ w ∈ wsX00, w ∈ wsX0_burdenOfUnits) w h)
  have b_nw := hI.nw
  have b_nv := hI.nv
  have hl : lv_has ls 5 [(0, .ref (ad 0)), (1, .int (nI (w))), (2, .int (nI (v))), (3, .int (nI (x)))] := hl
  refine lv_aload_n hx hb dX0_burdenOfUnits_0 rfl (lv_at hl 0 rfl) ?_
  refine lv_iload_n hx hb dX0_burdenOfUnits_1 rfl (lv_at hl 1 rfl) ?_
  refine lv_iload_n hx hb dX0_burdenOfUnits_2 rfl (lv_at hl 2 rfl) ?_
  refine vp_callSi (W.runV (As := [.int (nI (w)), .int (nI (v))]) (rest := []) ⟨hx, hb, hml, hown, hts⟩ (c0_reachOf l hI (w := w) (v := v) (by omega) (by omega)) (cwV 2 hts gX0_burdenOfUnits_X0_reachOf rfl rfl rfl (by decide +kernel) (by decide)) (pv0 hK hP) rfl rfl hl.1 rfl (lv_room (Nat.le_of_ble_eq_true rfl)) dX0_burdenOfUnits_3 (by decide)) (fun r_1 hr_1 => ?_)
  subst hr_1
  have f_2 := rch_le hI (w) (v)
  refine lv_istore (lv' := [(4, .int (nI (rch M (w) (v)))), (0, .ref (ad 0)), (1, .int (nI (w))), (2, .int (nI (v))), (3, .int (nI (x)))]) hx hb dX0_burdenOfUnits_6 hl (by decide) rfl (fun ls hl => ?_)
  refine lv_iload hx hb dX0_burdenOfUnits_8 (lv_at hl 0 rfl) ?_
  refine lv_iconst (v := nI 5) hx hb dX0_burdenOfUnits_10 (by decide) ?_
  refine zb_ge (tgt := 28) hx hb (by omega) (by omega) dX0_burdenOfUnits_11 (by decide) (fun c_3 => ?_) (fun c_3 => ?_)
  · skip
    refine lv_lconst (v := lN 0) hx hb dX0_burdenOfUnits_28 (by decide) ?_
    refine zt_l (y := lN (x * als M w v)) (congrArg lN (by rw [als_0 (by omega), Nat.mul_zero])) ?_
    exact hret rfl dX0_burdenOfUnits_29
  · skip
    refine lv_iload_n hx hb dX0_burdenOfUnits_14 rfl (lv_at hl 4 rfl) ?_
    refine zr_i2l hx hb (by omega) dX0_burdenOfUnits_15 ?_
    refine lv_aload_n hx hb dX0_burdenOfUnits_16 rfl (lv_at hl 1 rfl) ?_
    refine zg0 hx hb hw0 hown hK hP (by decide) rfl 7 (by decide) (hts (.fieldLink RX0 33 "WellField" "tableSums" "[I") (by decide +kernel)) rfl rfl dX0_burdenOfUnits_17 ?_
    refine lv_iload hx hb dX0_burdenOfUnits_20 (lv_at hl 0 rfl) ?_
    refine zi_ld hx hb hK hP 8 (by decide) 0 rfl rfl (by decide) (i := rch M (w) (v)) (by omega) (v := nI ((ts) (rch M (w) (v)))) rfl dX0_burdenOfUnits_22 ?_
    refine zr_i2l hx hb (by rw [hT _ (by omega)]; exact Nat.lt_of_le_of_lt (ssum_le (c := 1000) (fun k _ => hI.tb _ (by omega) k)) (by decide)) dX0_burdenOfUnits_23 ?_
    refine zr_lmul hx hb dX0_burdenOfUnits_24 ?_
    refine lv_goto (tgt := 29) hx hb dX0_burdenOfUnits_25 (by decide) ?_
    refine zt_l (y := lN (x * als M w v)) (congrArg lN (by rw [als_5 (by omega), hT _ (by omega)])) ?_
    exact hret rfl dX0_burdenOfUnits_29
set_option maxHeartbeats 4000000 in
set_option maxRecDepth 100000 in
/-- what the other well gets -/
theorem c0_unitsGot (l : Launch) {D : va_G} {ad : Nat → Nat} {cI cJ cQ : ClassId} {M : Mdl} {ts : Nat → Nat} {pu : Nat → Int64} (hI : Inv M) {f t u : Nat} (hf : f < M 0 0) (ht : t < M 0 0) (hu : u ≤ 5000) : Met l yX0_unitsGot wsX0_unitsGot (rmP 0) (va_Pc [.ref (ad 0), .int (nI (f)), .int (nI (t)), .int (nI (u))] (KP0 D ad cI cJ cQ M ts pu)) (vp_Si (fun r_ => r_ = nI (gt M f t u))) 0 0 (fun _ => False) := by
  refine mk_Si (post := fun r_ => r_ = nI (gt M f t u)) (cc := cX0_unitsGot) (maxL := 4) (by decide) rfl (Nat.le_of_ble_eq_true rfl) ?_
  intro p e s m args below meth c Q C0 B0 hret ls hl
  obtain ⟨hx, hb, hr, hml, hown, hts, hlocks⟩ := C0
  have hown : s.vm.findClass RX0 = some m.cls := hown
  obtain ⟨hK, hP⟩ := B0
  have hw0 : ∀ w ∈ wsX00, w.before args s = true := fun w h => hts w ((by decide +kernel : ∀ w ∈ wsX00, w ∈ wsX0_unitsGot) w h)
  have b_nw := hI.nw
  have b_nv := hI.nv
  have hl : lv_has ls 4 [(0, .ref (ad 0)), (1, .int (nI (f))), (2, .int (nI (t))), (3, .int (nI (u)))] := hl
  refine lv_iload_n hx hb dX0_unitsGot_0 rfl (lv_at hl 3 rfl) ?_
  refine lv_aload_n hx hb dX0_unitsGot_1 rfl (lv_at hl 0 rfl) ?_
  refine zg0 hx hb hw0 hown hK hP (by decide) rfl 8 (by decide) (hts (.fieldLink RX0 36 "WellField" "ratios" "[[I") (by decide +kernel)) rfl rfl dX0_unitsGot_2 ?_
  refine lv_aload_n hx hb dX0_unitsGot_5 rfl (lv_at hl 0 rfl) ?_
  refine zg0 hx hb hw0 hown hK hP (by decide) rfl 1 (by decide) (hts (.fieldLink RX0 13 "WellField" "wellZones" "[I") (by decide +kernel)) rfl rfl dX0_unitsGot_6 ?_
  refine lv_iload_n hx hb dX0_unitsGot_9 rfl (lv_at hl 1 rfl) ?_
  refine zi_ld hx hb hK hP 2 (by decide) 0 rfl rfl (by decide) (i := f) (by omega) (v := nI (M 2 (f))) rfl dX0_unitsGot_10 ?_
  have f_1 := hI.zo (f)
  refine zq_ld hx hb hK hP 9 (by decide) 2 rfl rfl (by decide) (i := M 2 (f)) (by omega) (a := ad (24 + (M 2 (f)))) rfl dX0_unitsGot_11 ?_
  refine lv_aload_n hx hb dX0_unitsGot_12 rfl (lv_at hl 0 rfl) ?_
  refine zg0 hx hb hw0 hown hK hP (by decide) rfl 1 (by decide) (hts (.fieldLink RX0 13 "WellField" "wellZones" "[I") (by decide +kernel)) rfl rfl dX0_unitsGot_13 ?_
  refine lv_iload_n hx hb dX0_unitsGot_16 rfl (lv_at hl 2 rfl) ?_
  refine zi_ld hx hb hK hP 2 (by decide) 0 rfl rfl (by decide) (i := t) (by omega) (v := nI (M 2 (t))) rfl dX0_unitsGot_17 ?_
  have f_2 := hI.zo (t)
  refine zi_ld hx hb hK hP (24 + (M 2 (f))) (by omega) 0 (wcE_rat (by omega)) rfl (by decide) (i := M 2 (t)) (by omega) (v := nI (M (12 + 3 * (M 2 (f))) (M 2 (t)))) rfl dX0_unitsGot_18 ?_
  have f_3 := hI.ra (M 2 (f)) (by omega) (M 2 (t))
  refine zr_imul hx hb dX0_unitsGot_19 ?_
  refine lv_bipush (v := nI 100) hx hb dX0_unitsGot_20 (by decide) ?_
  refine zr_idiv hx hb (by have := (gt_le hI f t hu).1; omega) (by omega) (by omega) dX0_unitsGot_22 ?_
  exact hret rfl dX0_unitsGot_23
set_option maxHeartbeats 4000000 in
set_option maxRecDepth 100000 in
/-- can a trade be made -/
theorem c0_canTrade (l : Launch) {D : va_G} {ad : Nat → Nat} {cI cJ cQ : ClassId} {M : Mdl} {ts : Nat → Nat} {pu : Nat → Int64} (hI : Inv M) {f t u : Nat} (hf : f < M 0 0) (ht : t < M 0 0) (hu : u ≤ 5000) (hT : ∀ r, r < 5 → ts r = ssum (fun d => M (11 + 3 * r) d) 12) : Met l yX0_canTrade wsX0_canTrade (rmP 3) (va_Pc [.ref (ad 0), .int (nI (f)), .int (nI (t)), .int (nI (u))] (KP0 D ad cI cJ cQ M ts pu)) (vp_Si (fun r => ∃ b : Bool, r = bB b ∧ b = cn M f t u)) 0 0 (fun _ => False) := by
  refine mk_Sz (post := fun b => b = cn M f t u) (cc := cX0_canTrade) (maxL := 6) (by decide) rfl (Nat.le_of_ble_eq_true rfl) ?_
  intro p e s m args below meth c Q C0 B0 hret ls hl
  obtain ⟨hx, hb, hr, hml, hown, hts, hlocks⟩ := C0
  have hown : s.vm.findClass RX0 = some m.cls := hown
  obtain ⟨hK, hP⟩ := B0
  have hw0 : ∀ w ∈ wsX00, w.before args s = true := fun w h => hts w ((by decide +kernel : ∀ w ∈ wsX00, w ∈ wsX0_canTrade) w h)
  have b_nw := hI.nw
  have b_nv := hI.nv
  have b_gt := (gt_le hI f t hu).2
  have hl : lv_has ls 6 [(0, .ref (ad 0)), (1, .int (nI (f))), (2, .int (nI (t))), (3, .int (nI (u)))] := hl
  refine lv_aload_n hx hb dX0_canTrade_0 rfl (lv_at hl 0 rfl) ?_
  refine lv_iload_n hx hb dX0_canTrade_1 rfl (lv_at hl 1 rfl) ?_
  refine lv_iload_n hx hb dX0_canTrade_2 rfl (lv_at hl 2 rfl) ?_
  refine lv_iload_n hx hb dX0_canTrade_3 rfl (lv_at hl 3 rfl) ?_
  refine vp_callSi (W.runV (As := [.int (nI (f)), .int (nI (t)), .int (nI (u))]) (rest := []) ⟨hx, hb, hml, hown, hts⟩ (c0_unitsGot l hI (f := f) (t := t) (u := u) (by omega) (by omega) (by omega)) (cwV 3 hts gX0_canTrade_X0_unitsGot rfl rfl rfl (by decide +kernel) (by decide)) (pv0 hK hP) rfl rfl hl.1 rfl (lv_room (Nat.le_of_ble_eq_true rfl)) dX0_canTrade_4 (by decide)) (fun r_1 hr_1 => ?_)
  subst hr_1
  have f_2 := (gt_le hI (f) (t) (u := u) (by omega)).2
  refine lv_istore (lv' := [(4, .int (nI (gt M (f) (t) (u)))), (0, .ref (ad 0)), (1, .int (nI (f))), (2, .int (nI (t))), (3, .int (nI (u)))]) hx hb dX0_canTrade_7 hl (by decide) rfl (fun ls hl => ?_)
  refine lv_aload_n hx hb dX0_canTrade_9 rfl (lv_at hl 1 rfl) ?_
  refine zg0 hx hb hw0 hown hK hP (by decide) rfl 2 (by decide) (hts (.fieldLink RX0 16 "WellField" "licences" "[I") (by decide +kernel)) rfl rfl dX0_canTrade_10 ?_
  refine lv_iload_n hx hb dX0_canTrade_13 rfl (lv_at hl 2 rfl) ?_
  refine zi_ld hx hb hK hP 3 (by decide) 0 rfl rfl (by decide) (i := f) (by omega) (v := nI (M 3 (f))) rfl dX0_canTrade_14 ?_
  have f_3 := hI.li (f)
  refine lv_iload_n hx hb dX0_canTrade_15 rfl (lv_at hl 4 rfl) ?_
  refine zb_lt (tgt := 34) hx hb (by omega) (by omega) dX0_canTrade_16 (by decide) (fun c_4 => ?_) (fun c_4 => ?_)
  · skip
    refine lv_iconst (v := nI 0) hx hb dX0_canTrade_34 (by decide) ?_
    exact hret (b := false) (by show false = cn M f t u; unfold cn; first | (rw [decide_eq_false (show ¬ u ≤ M 3 f by omega)]; rfl) | (rw [decide_eq_false (show ¬ M 3 t + gt M f t u ≤ 20000 by omega)]; simp; done) | (rw [cnv_f (v := v) (by omega) (by omega)]; simp; done)) rfl dX0_canTrade_35
  · skip
    refine lv_aload_n hx hb dX0_canTrade_19 rfl (lv_at hl 1 rfl) ?_
    refine zg0 hx hb hw0 hown hK hP (by decide) rfl 2 (by decide) (hts (.fieldLink RX0 16 "WellField" "licences" "[I") (by decide +kernel)) rfl rfl dX0_canTrade_20 ?_
    refine lv_iload_n hx hb dX0_canTrade_23 rfl (lv_at hl 3 rfl) ?_
    refine zi_ld hx hb hK hP 3 (by decide) 0 rfl rfl (by decide) (i := t) (by omega) (v := nI (M 3 (t))) rfl dX0_canTrade_24 ?_
    have f_5 := hI.li (t)
    refine lv_iload hx hb dX0_canTrade_25 (lv_at hl 0 rfl) ?_
    refine zr_iadd hx hb dX0_canTrade_27 ?_
    refine lv_sipush (v := nI 20000) hx hb dX0_canTrade_28 (by decide) ?_
    refine zb_le (tgt := 36) hx hb (by omega) (by omega) dX0_canTrade_31 (by decide) (fun c_6 => ?_) (fun c_6 => ?_)
    · skip
      refine lv_iconst (v := nI 0) hx hb dX0_canTrade_36 (by decide) ?_
      refine lv_istore (lv' := [(5, .int (nI (0))), (4, .int (nI (gt M (f) (t) (u)))), (0, .ref (ad 0)), (1, .int (nI (f))), (2, .int (nI (t))), (3, .int (nI (u)))]) hx hb dX0_canTrade_37 hl (by decide) rfl (fun ls hl => ?_)
      have lp39 : ∀ (n v : Nat), v ≤ M 5 0 → M 5 0 - v < n → cnv M f t u v = true → ∀ ls : Array Slot, lv_has ls 6 [(0, .ref (ad 0)), (1, .int (nI (f))), (2, .int (nI (t))), (3, .int (nI (u))), (4, .int (nI (gt M (f) (t) (u)))), (5, .int (nI (v)))] → W p l e (rmP 3) s m args below meth c s.heap [] 0 0 Q (F0 m 39 ls []) := by
        intro n
        induction n with
        | zero => intro v q1 q2; omega
        | succ n ih39 =>
          intro v q1_39 q2_39 cv ls hl
          refine lv_iload hx hb dX0_canTrade_39 (lv_at hl 5 rfl) ?_
          refine lv_aload_n hx hb dX0_canTrade_41 rfl (lv_at hl 0 rfl) ?_
          refine zg0 hx hb hw0 hown hK hP (by decide) rfl 11 (by decide) (hts (.fieldLink RX0 55 "WellField" "watchCount" "I") (by decide +kernel)) rfl rfl dX0_canTrade_42 ?_
          refine zb_ge (tgt := 77) hx hb (by omega) (by omega) dX0_canTrade_45 (by decide) (fun c_7 => ?_) (fun c_7 => ?_)
          · skip
            have q_8 : v = M 5 0 := by omega
            subst q_8
            refine lv_iconst (v := nI 1) hx hb dX0_canTrade_77 (by decide) ?_
            exact hret (b := true) (by show true = cn M f t u; unfold cn; rw [decide_eq_true (by omega), decide_eq_true (by omega)]; rw [cv]; rfl) rfl dX0_canTrade_78
          · skip
            refine lv_aload_n hx hb dX0_canTrade_48 rfl (lv_at hl 0 rfl) ?_
            refine lv_iload_n hx hb dX0_canTrade_49 rfl (lv_at hl 2 rfl) ?_
            refine lv_iload hx hb dX0_canTrade_50 (lv_at hl 5 rfl) ?_
            refine lv_iload hx hb dX0_canTrade_52 (lv_at hl 4 rfl) ?_
            refine vp_callSl (W.runV (As := [.int (nI (t)), .int (nI (v)), .int (nI (gt M (f) (t) (u)))]) (rest := []) ⟨hx, hb, hml, hown, hts⟩ (c0_burdenOfUnits l hI (w := t) (v := v) (x := gt M (f) (t) (u)) (by omega) (by omega) (by omega) hT) (cwV 3 hts gX0_canTrade_X0_burdenOfUnits rfl rfl rfl (by decide +kernel) (by decide)) (pv0 hK hP) rfl rfl hl.1 rfl (lv_room (Nat.le_of_ble_eq_true rfl)) dX0_canTrade_54 (by decide)) (fun r_9 hr_9 => ?_)
            subst hr_9
            refine lv_aload_n hx hb dX0_canTrade_57 rfl (lv_at hl 0 rfl) ?_
            refine lv_iload_n hx hb dX0_canTrade_58 rfl (lv_at hl 1 rfl) ?_
            refine lv_iload hx hb dX0_canTrade_59 (lv_at hl 5 rfl) ?_
            refine lv_iload_n hx hb dX0_canTrade_61 rfl (lv_at hl 3 rfl) ?_
            refine vp_callSl (W.runV (As := [.int (nI (f)), .int (nI (v)), .int (nI (u))]) (rest := [.long (lN ((gt M (f) (t) (u)) * als M (t) (v)))]) ⟨hx, hb, hml, hown, hts⟩ (c0_burdenOfUnits l hI (w := f) (v := v) (x := u) (by omega) (by omega) (by omega) hT) (cwV 3 hts gX0_canTrade_X0_burdenOfUnits rfl rfl rfl (by decide +kernel) (by decide)) (pv0 hK hP) rfl rfl hl.1 rfl (lv_room (Nat.le_of_ble_eq_true rfl)) dX0_canTrade_62 (by decide)) (fun r_10 hr_10 => ?_)
            subst hr_10
            refine zbL_le (tgt := 71) hx hb (by have h1 := als_le hI t v; have h2 := Nat.mul_le_mul b_gt h1; omega) (by have h1 := als_le hI f v; have h2 := Nat.mul_le_mul hu h1; omega) dX0_canTrade_65 dX0_canTrade_66 (by decide) (fun c_11 => ?_) (fun c_11 => ?_)
            · skip
              have cv2 : cnv M f t u (v + 1) = true := by show (cnv M f t u v && decide (gt M f t u * als M t v ≤ u * als M f v)) = true; rw [cv, decide_eq_true (by omega)]; rfl
              refine lv_iinc (v := nI (v + 1)) (lv' := [(5, .int (nI (v + 1))), (0, .ref (ad 0)), (1, .int (nI (f))), (2, .int (nI (t))), (3, .int (nI (u))), (4, .int (nI (gt M (f) (t) (u))))]) hx hb dX0_canTrade_71 hl (k := 5) rfl (zn_inc (v)) (by decide) rfl (fun ls hl => ?_)
              refine lv_goto (tgt := 39) hx hb dX0_canTrade_74 (by decide) ?_
              exact ih39 (v + 1) (by omega) (by omega) cv2 _ (lv_sub hl [1, 2, 3, 4, 5, 0] rfl)
            · skip
              refine lv_iconst (v := nI 0) hx hb dX0_canTrade_69 (by decide) ?_
              exact hret (b := false) (by show false = cn M f t u; unfold cn; first | (rw [decide_eq_false (show ¬ u ≤ M 3 f by omega)]; rfl) | (rw [decide_eq_false (show ¬ M 3 t + gt M f t u ≤ 20000 by omega)]; simp; done) | (rw [cnv_f (v := v) (by omega) (by omega)]; simp; done)) rfl dX0_canTrade_70
      exact lp39 (M 5 0 + 1) 0 (by omega) (by omega) rfl _ (lv_sub hl [2, 3, 4, 5, 1, 0] rfl)
    · skip
      refine lv_iconst (v := nI 0) hx hb dX0_canTrade_34 (by decide) ?_
      exact hret (b := false) (by show false = cn M f t u; unfold cn; first | (rw [decide_eq_false (show ¬ u ≤ M 3 f by omega)]; rfl) | (rw [decide_eq_false (show ¬ M 3 t + gt M f t u ≤ 20000 by omega)]; simp; done) | (rw [cnv_f (v := v) (by omega) (by omega)]; simp; done)) rfl dX0_canTrade_35
