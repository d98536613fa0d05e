set_option maxHeartbeats 4000000 in
set_option maxRecDepth 100000 in
/-- how many wells -/
theorem c0_wells (l : Launch) {D : va_G} {ad : Nat → Nat} {cI cJ cQ : ClassId} {M : Mdl} {ts : Nat → Nat} {pu : Nat → Int64} (hI : Inv M)   : Met l yX0_wells wsX0_wells (rmP 0) (va_Pc [.ref (ad 0)] (KP0 D ad cI cJ cQ M ts pu)) (vp_Si (fun r_ => r_ = nI (M 0 0))) 0 0 (fun _ => False) := by
  refine mk_Si (post := fun r_ => r_ = nI (M 0 0)) (cc := cX0_wells) (maxL := 1) (by decide) rfl (Nat.le_of_ble_eq_true rfl) ?_
  intro p e s m args below meth c Q C0 B0 hret ls hl
  obtain ⟨hx, hb, hr, hml, hown, hts, hlocks⟩ := C0
  have hown : s.vm.findClass RX0 = some m.cls := hown
  obtain ⟨hK, hP⟩ := B0
  have hw0 : ∀ w ∈ wsX00, w.before args s = true := fun w h => hts w ((by decide +kernel : ∀ w ∈ wsX00, w ∈ wsX0_wells) w h)
  have b_nw := hI.nw
  have b_nv := hI.nv
  have hl : lv_has ls 1 [(0, .ref (ad 0))] := hl
  refine lv_aload_n hx hb dX0_wells_0 rfl (lv_at hl 0 rfl) ?_
  refine zg0 hx hb hw0 hown hK hP (by decide) rfl 10 (by decide) (hts (.fieldLink RX0 47 "WellField" "wellCount" "I") (by decide +kernel)) rfl rfl dX0_wells_1 ?_
  exact hret rfl dX0_wells_4
set_option maxHeartbeats 4000000 in
set_option maxRecDepth 100000 in
/-- how many watches -/
theorem c0_watches (l : Launch) {D : va_G} {ad : Nat → Nat} {cI cJ cQ : ClassId} {M : Mdl} {ts : Nat → Nat} {pu : Nat → Int64} (hI : Inv M)   : Met l yX0_watches wsX0_watches (rmP 0) (va_Pc [.ref (ad 0)] (KP0 D ad cI cJ cQ M ts pu)) (vp_Si (fun r_ => r_ = nI (M 5 0))) 0 0 (fun _ => False) := by
  refine mk_Si (post := fun r_ => r_ = nI (M 5 0)) (cc := cX0_watches) (maxL := 1) (by decide) rfl (Nat.le_of_ble_eq_true rfl) ?_
  intro p e s m args below meth c Q C0 B0 hret ls hl
  obtain ⟨hx, hb, hr, hml, hown, hts, hlocks⟩ := C0
  have hown : s.vm.findClass RX0 = some m.cls := hown
  obtain ⟨hK, hP⟩ := B0
  have hw0 : ∀ w ∈ wsX00, w.before args s = true := fun w h => hts w ((by decide +kernel : ∀ w ∈ wsX00, w ∈ wsX0_watches) w h)
  have b_nw := hI.nw
  have b_nv := hI.nv
  have hl : lv_has ls 1 [(0, .ref (ad 0))] := hl
  refine lv_aload_n hx hb dX0_watches_0 rfl (lv_at hl 0 rfl) ?_
  refine zg0 hx hb hw0 hown hK hP (by decide) rfl 11 (by decide) (hts (.fieldLink RX0 55 "WellField" "watchCount" "I") (by decide +kernel)) rfl rfl dX0_watches_1 ?_
  exact hret rfl dX0_watches_4
set_option maxHeartbeats 4000000 in
set_option maxRecDepth 100000 in
/-- pumped -/
theorem p0_pumped (l : Launch) (hfl : l.stackTraces = false) {D : va_G} {ad : Nat → Nat} {cI cJ cQ : ClassId} {M : Mdl} {ts : Nat → Nat} {pu : Nat → Int64} {sa : Nat → Nat} {Z : Nat → Prop} {sz : Nat} (hI : Inv M)  (p0 p1 : Int32) : vx_Met l yX0_pumped wsX0_pumped (rmX 1 2) (va_Pc [.ref (ad 0), .int (p0), .int (p1)] (KP0X D ad cI cJ cQ M ts pu sa Z sz)) (vp_Si (fun r_ => (ixB p0 (M 0 0) && ixB p1 3) = true ∧ r_ = nI (yr M (clN p0) (clN p1)))) (XCE (fun E => (E = eI ∧ cd1 (ixB p0 (M 0 0) && ixB p1 3) = 1))) 2 12 (fun _ => False) := by
  refine mkX_Si (post := fun r_ => (ixB p0 (M 0 0) && ixB p1 3) = true ∧ r_ = nI (yr M (clN p0) (clN p1))) (cc := cX0_pumped) (maxL := 3) (by decide) rfl (Nat.le_of_ble_eq_true rfl) ?_
  intro p e s m args below meth c Q C0 B0 hX hret ls hl
  obtain ⟨hx, hb, hr, hml, hown, hts, hlocks⟩ := C0
  have hown : s.vm.findClass RX0 = some m.cls := hown
  obtain ⟨hsz, hKX, hK, hP⟩ := B0
  have hw0 : ∀ w ∈ wsX00, w.before args s = true := fun w h => hts w ((by decide +kernel : ∀ w ∈ wsX00, w ∈ wsX0_pumped) w h)
  have b_nw := hI.nw
  have b_nv := hI.nv
  have hl : lv_has ls 3 [(0, .ref (ad 0)), (1, .int (p0)), (2, .int (p1))] := hl
  refine lv_iload_n hx hb dX0_pumped_0 rfl (lv_at hl 1 rfl) ?_
  refine lv_aload_n hx hb dX0_pumped_1 rfl (lv_at hl 0 rfl) ?_
  refine zg0 hx hb hw0 hown hK hP (by decide) rfl 10 (by decide) (hts (.fieldLink RX0 47 "WellField" "wellCount" "I") (by decide +kernel)) rfl rfl dX0_pumped_2 ?_
  refine zx_v (vx_runS (As := [.int (p0), .int (nI (M 0 0))]) (rest := []) ⟨hx, hb, hml, hown, hts⟩ (x0_needIndex l hfl (p0) (M 0 0)) (va_cwS 2 hts gX0_pumped_X0_needIndex rfl rfl rfl (by decide +kernel) (by decide)) (psX hKX) rfl rfl hl.1 rfl (lv_room (Nat.le_of_ble_eq_true rfl)) dX0_pumped_5 (by decide)) (fun hp hz hk q1 q2 q3 => hX (by decide) (by decide) (by obtain ⟨rfl, h⟩ := hp; simp [cd1, cd2, cd3, h]) hz hk q1 q2 q3) (fun b_1 => ?_)
  refine lv_iload_n hx hb dX0_pumped_8 rfl (lv_at hl 2 rfl) ?_
  refine lv_iconst (v := nI 3) hx hb dX0_pumped_9 (by decide) ?_
  refine zx_v (vx_runS (As := [.int (p1), .int (nI (3))]) (rest := []) ⟨hx, hb, hml, hown, hts⟩ (x0_needIndex l hfl (p1) (3)) (va_cwS 2 hts gX0_pumped_X0_needIndex rfl rfl rfl (by decide +kernel) (by decide)) (psX hKX) rfl rfl hl.1 rfl (lv_room (Nat.le_of_ble_eq_true rfl)) dX0_pumped_10 (by decide)) (fun hp hz hk q1 q2 q3 => hX (by decide) (by decide) (by obtain ⟨rfl, h⟩ := hp; simp [cd1, cd2, cd3, h, b_1]) hz hk q1 q2 q3) (fun b_2 => ?_)
  obtain ⟨a, h_a, rfl⟩ := ixB_of (by omega) b_1
  have cl_a : clN (nI a) = a := clN_nI (by omega)
  obtain ⟨b, h_b, rfl⟩ := ixB_of (by omega) b_2
  have cl_b : clN (nI b) = b := clN_nI (by omega)
  refine lv_aload_n hx hb dX0_pumped_13 rfl (lv_at hl 0 rfl) ?_
  refine lv_iload_n hx hb dX0_pumped_14 rfl (lv_at hl 1 rfl) ?_
  refine lv_iload_n hx hb dX0_pumped_15 rfl (lv_at hl 2 rfl) ?_
  refine vp_callSi (W.runV (As := [.int (nI (a)), .int (nI (b))]) (rest := []) ⟨hx, hb, hml, hown, hts⟩ (c0_unitsOfYear l hI (w := a) (y := b) (by omega) (by omega)) (cwV 2 hts gX0_pumped_X0_unitsOfYear rfl rfl rfl (by decide +kernel) (by decide)) (pv0 hK hP) rfl rfl hl.1 rfl (lv_room (Nat.le_of_ble_eq_true rfl)) dX0_pumped_16 (by decide)) (fun r_3 hr_3 => ?_)
  subst hr_3
  have f_4 := yr_le hI (w := a) (by omega) (b)
  exact hret (by decide) (by decide) (And.intro (by simp [b_1, b_2]) (by show _ = _; simp only [cl_a, cl_b])) dX0_pumped_19
set_option maxHeartbeats 4000000 in
set_option maxRecDepth 100000 in
/-- beyond -/
theorem p0_beyond (l : Launch) (hfl : l.stackTraces = false) {D : va_G} {ad : Nat → Nat} {cI cJ cQ : ClassId} {M : Mdl} {ts : Nat → Nat} {pu : Nat → Int64} {sa : Nat → Nat} {Z : Nat → Prop} {sz : Nat} (hI : Inv M)  (p0 : Int32) : vx_Met l yX0_beyond wsX0_beyond (rmX 1 1) (va_Pc [.ref (ad 0), .int (p0)] (KP0X D ad cI cJ cQ M ts pu sa Z sz)) (vp_Si (fun r_ => ixB p0 3 = true ∧ r_ = nI (byd M (clN p0)))) (XCE (fun E => (E = eI ∧ cd1 (ixB p0 3) = 1))) 1 6 (fun _ => False) := by
  refine mkX_Si (post := fun r_ => ixB p0 3 = true ∧ r_ = nI (byd M (clN p0))) (cc := cX0_beyond) (maxL := 4) (by decide) rfl (Nat.le_of_ble_eq_true rfl) ?_
  intro p e s m args below meth c Q C0 B0 hX hret ls hl
  obtain ⟨hx, hb, hr, hml, hown, hts, hlocks⟩ := C0
  have hown : s.vm.findClass RX0 = some m.cls := hown
  obtain ⟨hsz, hKX, hK, hP⟩ := B0
  have hw0 : ∀ w ∈ wsX00, w.before args s = true := fun w h => hts w ((by decide +kernel : ∀ w ∈ wsX00, w ∈ wsX0_beyond) w h)
  have b_nw := hI.nw
  have b_nv := hI.nv
  have hl : lv_has ls 4 [(0, .ref (ad 0)), (1, .int (p0))] := hl
  refine lv_iload_n hx hb dX0_beyond_0 rfl (lv_at hl 1 rfl) ?_
  refine lv_iconst (v := nI 3) hx hb dX0_beyond_1 (by decide) ?_
  refine zx_v (vx_runS (As := [.int (p0), .int (nI (3))]) (rest := []) ⟨hx, hb, hml, hown, hts⟩ (x0_needIndex l hfl (p0) (3)) (va_cwS 2 hts gX0_beyond_X0_needIndex rfl rfl rfl (by decide +kernel) (by decide)) (psX hKX) rfl rfl hl.1 rfl (lv_room (Nat.le_of_ble_eq_true rfl)) dX0_beyond_2 (by decide)) (fun hp hz hk q1 q2 q3 => hX (by decide) (by decide) (by obtain ⟨rfl, h⟩ := hp; simp [cd1, cd2, cd3, h]) hz hk q1 q2 q3) (fun b_1 => ?_)
  obtain ⟨y, h_y, rfl⟩ := ixB_of (by omega) b_1
  have cl_y : clN (nI y) = y := clN_nI (by omega)
  refine lv_iconst (v := nI 0) hx hb dX0_beyond_5 (by decide) ?_
  refine lv_istore_n (lv' := [(2, .int (nI (0))), (0, .ref (ad 0)), (1, .int (nI (y)))]) hx hb dX0_beyond_6 rfl hl (by decide) rfl (fun ls hl => ?_)
  refine lv_iconst (v := nI 0) hx hb dX0_beyond_7 (by decide) ?_
  refine lv_istore_n (lv' := [(3, .int (nI (0))), (2, .int (nI (0))), (0, .ref (ad 0)), (1, .int (nI (y)))]) hx hb dX0_beyond_8 rfl hl (by decide) rfl (fun ls hl => ?_)
  have lp9 : ∀ (n w : Nat), w ≤ M 0 0 → M 0 0 - w < n → ∀ ls : Array Slot, lv_has ls 4 [(0, .ref (ad 0)), (1, .int (nI (y))), (2, .int (nI (ssum (fun w => yr M w y - M 3 w) (w)))), (3, .int (nI (w)))] → W p l e (rmX 1 1) s m args below meth c s.heap [] 1 6 Q (F0 m 9 ls []) := by
    intro n
    induction n with
    | zero => intro w q1 q2; omega
    | succ n ih9 =>
      intro w q1_9 q2_9 ls hl
      refine lv_iload_n hx hb dX0_beyond_9 rfl (lv_at hl 3 rfl) ?_
      refine lv_aload_n hx hb dX0_beyond_10 rfl (lv_at hl 0 rfl) ?_
      refine zg0 hx hb hw0 hown hK hP (by decide) rfl 10 (by decide) (hts (.fieldLink RX0 47 "WellField" "wellCount" "I") (by decide +kernel)) rfl rfl dX0_beyond_11 ?_
      refine zb_ge (tgt := 43) hx hb (by omega) (by omega) dX0_beyond_14 (by decide) (fun c_2 => ?_) (fun c_2 => ?_)
      · skip
        have q_3 : w = M 0 0 := by omega
        subst q_3
        refine lv_iload_n hx hb dX0_beyond_43 rfl (lv_at hl 2 rfl) ?_
        exact hret (by decide) (by decide) (And.intro (by simp [b_1]) (by show _ = nI (byd M _); rw [cl_y]; rfl)) dX0_beyond_44
      · skip
        refine lv_iload_n hx hb dX0_beyond_17 rfl (lv_at hl 2 rfl) ?_
        refine lv_iconst (v := nI 0) hx hb dX0_beyond_18 (by decide) ?_
        refine lv_aload_n hx hb dX0_beyond_19 rfl (lv_at hl 0 rfl) ?_
        refine lv_iload_n hx hb dX0_beyond_20 rfl (lv_at hl 3 rfl) ?_
        refine lv_iload_n hx hb dX0_beyond_21 rfl (lv_at hl 1 rfl) ?_
        refine vp_callSi (W.runV (As := [.int (nI (w)), .int (nI (y))]) (rest := [.int (nI (0)), .int (nI (ssum (fun w => yr M w y - M 3 w) (w)))]) ⟨hx, hb, hml, hown, hts⟩ (c0_unitsOfYear l hI (w := w) (y := y) (by omega) (by omega)) (cwV 2 hts gX0_beyond_X0_unitsOfYear rfl rfl rfl (by decide +kernel) (by decide)) (pv0 hK hP) rfl rfl hl.1 rfl (lv_room (Nat.le_of_ble_eq_true rfl)) dX0_beyond_22 (by decide)) (fun r_4 hr_4 => ?_)
        subst hr_4
        have f_5 := yr_le hI (w := w) (by omega) (y)
        refine lv_aload_n hx hb dX0_beyond_25 rfl (lv_at hl 0 rfl) ?_
        refine zg0 hx hb hw0 hown hK hP (by decide) rfl 2 (by decide) (hts (.fieldLink RX0 16 "WellField" "licences" "[I") (by decide +kernel)) rfl rfl dX0_beyond_26 ?_
        refine lv_iload_n hx hb dX0_beyond_29 rfl (lv_at hl 3 rfl) ?_
        refine zi_ld hx hb hK hP 3 (by decide) 0 rfl rfl (by decide) (i := w) (by omega) (v := nI (M 3 (w))) rfl dX0_beyond_30 ?_
        have f_6 := hI.li (w)
        refine lv_isub hx hb dX0_beyond_31 ?_
        refine va_mmax hx hb (hml.trans hl.1.symm) hown (hts (.methodLink RX0 71 Lib.Math.max.name) (by decide +kernel)) (hts (.static Lib.Math.max.name) (by decide +kernel)) (hts (.initialized "java/lang/Math") (by decide +kernel)) (hts (.code Lib.Math.max.name Lib.Math.max.code 2 (some .int)) (by decide +kernel)) (by decide) (Nat.le_of_ble_eq_true rfl) (by decide) (by decide) dX0_beyond_32 ?_
        refine zt_i (nmax_sub0 (by omega) (by omega)) ?_
        refine zr_iadd hx hb dX0_beyond_35 ?_
        refine lv_istore_n (lv' := [(2, .int (nI ((ssum (fun w => yr M w y - M 3 w) (w)) + ((yr M (w) (y)) - (M 3 (w)))))), (0, .ref (ad 0)), (1, .int (nI (y))), (3, .int (nI (w)))]) hx hb dX0_beyond_36 rfl hl (by decide) rfl (fun ls hl => ?_)
        refine lv_iinc (v := nI (w + 1)) (lv' := [(3, .int (nI (w + 1))), (2, .int (nI ((ssum (fun w => yr M w y - M 3 w) (w)) + ((yr M (w) (y)) - (M 3 (w)))))), (0, .ref (ad 0)), (1, .int (nI (y)))]) hx hb dX0_beyond_37 hl (k := 3) rfl (zn_inc (w)) (by decide) rfl (fun ls hl => ?_)
        refine lv_goto (tgt := 9) hx hb dX0_beyond_40 (by decide) ?_
        exact ih9 (w + 1) (by omega) (by omega) _ (lv_sub hl [2, 3, 1, 0] rfl)
  exact lp9 (M 0 0 - (0) + 1) (0) (by omega) (by omega) _ (lv_sub hl [2, 3, 1, 0] rfl)
set_option maxHeartbeats 4000000 in
set_option maxRecDepth 100000 in
/-- drawdown -/
theorem p0_drawdown (l : Launch) (hfl : l.stackTraces = false) {D : va_G} {ad : Nat → Nat} {cI cJ cQ : ClassId} {M : Mdl} {ts : Nat → Nat} {pu : Nat → Int64} {sa : Nat → Nat} {Z : Nat → Prop} {sz : Nat} (hI : Inv M)  (p0 p1 : Int32) : vx_Met l yX0_drawdown wsX0_drawdown (rmX 2 2) (va_Pc [.ref (ad 0), .int (p0), .int (p1)] (KP0X D ad cI cJ cQ M ts pu sa Z sz)) (vp_Sl (fun r_ => (ixB p0 (M 5 0) && ixB p1 36) = true ∧ r_ = lN (dd M (clN p0) (clN p1)))) (XCE (fun E => (E = eI ∧ cd1 (ixB p0 (M 5 0) && ixB p1 36) = 1))) 2 12 (fun _ => False) := by
  refine mkX_Sl (post := fun r_ => (ixB p0 (M 5 0) && ixB p1 36) = true ∧ r_ = lN (dd M (clN p0) (clN p1))) (cc := cX0_drawdown) (maxL := 3) (by decide) rfl (Nat.le_of_ble_eq_true rfl) ?_
  intro p e s m args below meth c Q C0 B0 hX hret ls hl
  obtain ⟨hx, hb, hr, hml, hown, hts, hlocks⟩ := C0
  have hown : s.vm.findClass RX0 = some m.cls := hown
  obtain ⟨hsz, hKX, hK, hP⟩ := B0
  have hw0 : ∀ w ∈ wsX00, w.before args s = true := fun w h => hts w ((by decide +kernel : ∀ w ∈ wsX00, w ∈ wsX0_drawdown) w h)
  have b_nw := hI.nw
  have b_nv := hI.nv
  have hl : lv_has ls 3 [(0, .ref (ad 0)), (1, .int (p0)), (2, .int (p1))] := hl
  refine lv_iload_n hx hb dX0_drawdown_0 rfl (lv_at hl 1 rfl) ?_
  refine lv_aload_n hx hb dX0_drawdown_1 rfl (lv_at hl 0 rfl) ?_
  refine zg0 hx hb hw0 hown hK hP (by decide) rfl 11 (by decide) (hts (.fieldLink RX0 55 "WellField" "watchCount" "I") (by decide +kernel)) rfl rfl dX0_drawdown_2 ?_
  refine zx_v (vx_runS (As := [.int (p0), .int (nI (M 5 0))]) (rest := []) ⟨hx, hb, hml, hown, hts⟩ (x0_needIndex l hfl (p0) (M 5 0)) (va_cwS 2 hts gX0_drawdown_X0_needIndex rfl rfl rfl (by decide +kernel) (by decide)) (psX hKX) rfl rfl hl.1 rfl (lv_room (Nat.le_of_ble_eq_true rfl)) dX0_drawdown_5 (by decide)) (fun hp hz hk q1 q2 q3 => hX (by decide) (by decide) (by obtain ⟨rfl, h⟩ := hp; simp [cd1, cd2, cd3, h]) hz hk q1 q2 q3) (fun b_1 => ?_)
  refine lv_iload_n hx hb dX0_drawdown_8 rfl (lv_at hl 2 rfl) ?_
  refine lv_bipush (v := nI 36) hx hb dX0_drawdown_9 (by decide) ?_
  refine zx_v (vx_runS (As := [.int (p1), .int (nI (36))]) (rest := []) ⟨hx, hb, hml, hown, hts⟩ (x0_needIndex l hfl (p1) (36)) (va_cwS 2 hts gX0_drawdown_X0_needIndex rfl rfl rfl (by decide +kernel) (by decide)) (psX hKX) rfl rfl hl.1 rfl (lv_room (Nat.le_of_ble_eq_true rfl)) dX0_drawdown_11 (by decide)) (fun hp hz hk q1 q2 q3 => hX (by decide) (by decide) (by obtain ⟨rfl, h⟩ := hp; simp [cd1, cd2, cd3, h, b_1]) hz hk q1 q2 q3) (fun b_2 => ?_)
  obtain ⟨a, h_a, rfl⟩ := ixB_of (by omega) b_1
  have cl_a : clN (nI a) = a := clN_nI (by omega)
  obtain ⟨b, h_b, rfl⟩ := ixB_of (by omega) b_2
  have cl_b : clN (nI b) = b := clN_nI (by omega)
  refine lv_aload_n hx hb dX0_drawdown_14 rfl (lv_at hl 0 rfl) ?_
  refine lv_iload_n hx hb dX0_drawdown_15 rfl (lv_at hl 1 rfl) ?_
  refine lv_iload_n hx hb dX0_drawdown_16 rfl (lv_at hl 2 rfl) ?_
  refine vp_callSl (W.runV (As := [.int (nI (a)), .int (nI (b))]) (rest := []) ⟨hx, hb, hml, hown, hts⟩ (c0_loweredIn l hI (v := a) (mo := b) (by omega) (by omega)) (cwV 2 hts gX0_drawdown_X0_loweredIn rfl rfl rfl (by decide +kernel) (by decide)) (pv0 hK hP) rfl rfl hl.1 rfl (lv_room (Nat.le_of_ble_eq_true rfl)) dX0_drawdown_17 (by decide)) (fun r_3 hr_3 => ?_)
  subst hr_3
  have f_4 := dd_le hI (a) (b)
  exact hret (by decide) (by decide) (And.intro (by simp [b_1, b_2]) (by show _ = _; simp only [cl_a, cl_b])) dX0_drawdown_20
set_option maxHeartbeats 4000000 in
set_option maxRecDepth 100000 in
/-- worstMonth -/
theorem p0_worstMonth (l : Launch) (hfl : l.stackTraces = false) {D : va_G} {ad : Nat → Nat} {cI cJ cQ : ClassId} {M : Mdl} {ts : Nat → Nat} {pu : Nat → Int64} {sa : Nat → Nat} {Z : Nat → Prop} {sz : Nat} (hI : Inv M)  (p0 : Int32) : vx_Met l yX0_worstMonth wsX0_worstMonth (rmX 2 1) (va_Pc [.ref (ad 0), .int (p0)] (KP0X D ad cI cJ cQ M ts pu sa Z sz)) (vp_Si (fun r_ => ixB p0 (M 5 0) = true ∧ r_ = nI (wst M (clN p0) 35))) (XCE (fun E => (E = eI ∧ cd1 (ixB p0 (M 5 0)) = 1))) 1 6 (fun _ => False) := by
  refine mkX_Si (post := fun r_ => ixB p0 (M 5 0) = true ∧ r_ = nI (wst M (clN p0) 35)) (cc := cX0_worstMonth) (maxL := 8) (by decide) rfl (Nat.le_of_ble_eq_true rfl) ?_
  intro p e s m args below meth c Q C0 B0 hX hret ls hl
  obtain ⟨hx, hb, hr, hml, hown, hts, hlocks⟩ := C0
  have hown : s.vm.findClass RX0 = some m.cls := hown
  obtain ⟨hsz, hKX, hK, hP⟩ := B0
  have hw0 : ∀ w ∈ wsX00, w.before args s = true := fun w h => hts w ((by decide +kernel : ∀ w ∈ wsX00, w ∈ wsX0_worstMonth) w h)
  have b_nw := hI.nw
  have b_nv := hI.nv
  have hl : lv_has ls 8 [(0, .ref (ad 0)), (1, .int (p0))] := hl
  refine lv_iload_n hx hb dX0_worstMonth_0 rfl (lv_at hl 1 rfl) ?_
  refine lv_aload_n hx hb dX0_worstMonth_1 rfl (lv_at hl 0 rfl) ?_
  refine zg0 hx hb hw0 hown hK hP (by decide) rfl 11 (by decide) (hts (.fieldLink RX0 55 "WellField" "watchCount" "I") (by decide +kernel)) rfl rfl dX0_worstMonth_2 ?_
  refine zx_v (vx_runS (As := [.int (p0), .int (nI (M 5 0))]) (rest := []) ⟨hx, hb, hml, hown, hts⟩ (x0_needIndex l hfl (p0) (M 5 0)) (va_cwS 2 hts gX0_worstMonth_X0_needIndex rfl rfl rfl (by decide +kernel) (by decide)) (psX hKX) rfl rfl hl.1 rfl (lv_room (Nat.le_of_ble_eq_true rfl)) dX0_worstMonth_5 (by decide)) (fun hp hz hk q1 q2 q3 => hX (by decide) (by decide) (by obtain ⟨rfl, h⟩ := hp; simp [cd1, cd2, cd3, h]) hz hk q1 q2 q3) (fun b_1 => ?_)
  obtain ⟨v, h_v, rfl⟩ := ixB_of (by omega) b_1
  have cl_v : clN (nI v) = v := clN_nI (by omega)
  refine lv_iconst (v := nI 0) hx hb dX0_worstMonth_8 (by decide) ?_
  refine lv_istore_n (lv' := [(2, .int (nI (0))), (0, .ref (ad 0)), (1, .int (nI (v)))]) hx hb dX0_worstMonth_9 rfl hl (by decide) rfl (fun ls hl => ?_)
  refine lv_aload_n hx hb dX0_worstMonth_10 rfl (lv_at hl 1 rfl) ?_
  refine lv_iload_n hx hb dX0_worstMonth_11 rfl (lv_at hl 2 rfl) ?_
  refine lv_iconst (v := nI 0) hx hb dX0_worstMonth_12 (by decide) ?_
  refine vp_callSl (W.runV (As := [.int (nI (v)), .int (nI (0))]) (rest := []) ⟨hx, hb, hml, hown, hts⟩ (c0_loweredIn l hI (v := v) (mo := 0) (by omega) (by omega)) (cwV 2 hts gX0_worstMonth_X0_loweredIn rfl rfl rfl (by decide +kernel) (by decide)) (pv0 hK hP) rfl rfl hl.1 rfl (lv_room (Nat.le_of_ble_eq_true rfl)) dX0_worstMonth_13 (by decide)) (fun r_2 hr_2 => ?_)
  subst hr_2
  have f_3 := dd_le hI (v) (0)
  refine lv_lstore_n (lv' := [(3, .long (lN (dd M (v) (0)))), (2, .int (nI (0))), (0, .ref (ad 0)), (1, .int (nI (v)))]) hx hb dX0_worstMonth_16 rfl hl (by decide) rfl (fun ls hl => ?_)
  refine lv_iconst (v := nI 1) hx hb dX0_worstMonth_17 (by decide) ?_
  refine lv_istore (lv' := [(5, .int (nI (1))), (3, .long (lN (dd M (v) (0)))), (2, .int (nI (0))), (0, .ref (ad 0)), (1, .int (nI (v)))]) hx hb dX0_worstMonth_18 hl (by decide) rfl (fun ls hl => ?_)
  have lp20 : ∀ (n k : Nat), k ≤ 35 → 35 - k < n → ∀ ls : Array Slot, lv_has ls 8 [(0, .ref (ad 0)), (1, .int (nI (v))), (2, .int (nI (wst M v (k)))), (3, .long (lN (dd M v (wst M v (k))))), (5, .int (nI ((k) + 1)))] → W p l e (rmX 2 1) s m args below meth c s.heap [] 1 6 Q (F0 m 20 ls []) := by
    intro n
    induction n with
    | zero => intro k q1 q2; omega
    | succ n ih20 =>
      intro k q1_20 q2_20 ls hl
      have u_k := wst_le M v k
      have u_m := dd_le hI v (wst M v k)
      refine lv_iload hx hb dX0_worstMonth_20 (lv_at hl 4 rfl) ?_
      refine lv_bipush (v := nI 36) hx hb dX0_worstMonth_22 (by decide) ?_
      refine zb_ge (tgt := 55) hx hb (by omega) (by omega) dX0_worstMonth_24 (by decide) (fun c_4 => ?_) (fun c_4 => ?_)
      · skip
        have q_5 : k = 35 := by omega
        subst q_5
        refine lv_iload_n hx hb dX0_worstMonth_55 rfl (lv_at hl 2 rfl) ?_
        exact hret (by decide) (by decide) (And.intro (by simp [b_1]) (by show _ = nI (wst M _ 35); rw [cl_v])) dX0_worstMonth_56
      · skip
        refine lv_aload_n hx hb dX0_worstMonth_27 rfl (lv_at hl 0 rfl) ?_
        refine lv_iload_n hx hb dX0_worstMonth_28 rfl (lv_at hl 1 rfl) ?_
        refine lv_iload hx hb dX0_worstMonth_29 (lv_at hl 4 rfl) ?_
        refine vp_callSl (W.runV (As := [.int (nI (v)), .int (nI ((k) + 1))]) (rest := []) ⟨hx, hb, hml, hown, hts⟩ (c0_loweredIn l hI (v := v) (mo := (k) + 1) (by omega) (by omega)) (cwV 2 hts gX0_worstMonth_X0_loweredIn rfl rfl rfl (by decide +kernel) (by decide)) (pv0 hK hP) rfl rfl hl.1 rfl (lv_room (Nat.le_of_ble_eq_true rfl)) dX0_worstMonth_31 (by decide)) (fun r_6 hr_6 => ?_)
        subst hr_6
        have f_7 := dd_le hI (v) ((k) + 1)
        refine lv_lstore (lv' := [(6, .long (lN (dd M (v) ((k) + 1)))), (0, .ref (ad 0)), (1, .int (nI (v))), (2, .int (nI (wst M v (k)))), (3, .long (lN (dd M v (wst M v (k))))), (5, .int (nI ((k) + 1)))]) hx hb dX0_worstMonth_34 hl (by decide) rfl (fun ls hl => ?_)
        refine lv_lload hx hb dX0_worstMonth_36 (lv_at hl 0 rfl) ?_
        refine lv_lload_n hx hb dX0_worstMonth_38 rfl (lv_at hl 4 rfl) ?_
        refine zbL_le (tgt := 49) hx hb (by omega) (by omega) dX0_worstMonth_39 dX0_worstMonth_40 (by decide) (fun c_8 => ?_) (fun c_8 => ?_)
        · skip
          have hl := lv_cast (l2 := [(6, .long (lN (dd M (v) ((k) + 1)))), (0, .ref (ad 0)), (1, .int (nI (v))), (2, .int (nI (wst M v (k + 1)))), (3, .long (lN (dd M v (wst M v (k))))), (5, .int (nI ((k) + 1)))]) hl (by rw [show (wst M v (k + 1)) = (wst M v (k)) from (by show (if dd M v (wst M v k) < dd M v (k + 1) then _ else _) = _; split <;> first | rfl | omega)])
          have hl := lv_cast (l2 := [(6, .long (lN (dd M (v) ((k) + 1)))), (0, .ref (ad 0)), (1, .int (nI (v))), (2, .int (nI (wst M v (k + 1)))), (3, .long (lN (dd M v (wst M v (k + 1))))), (5, .int (nI ((k) + 1)))]) hl (by rw [show (dd M v (wst M v (k + 1))) = (dd M v (wst M v (k))) from (by congr 1; show (if dd M v (wst M v k) < dd M v (k + 1) then _ else _) = _; split <;> first | rfl | omega)])
          refine lv_iinc (v := nI ((k) + 1 + 1)) (lv' := [(5, .int (nI ((k) + 1 + 1))), (6, .long (lN (dd M (v) ((k) + 1)))), (0, .ref (ad 0)), (1, .int (nI (v))), (2, .int (nI (wst M v (k + 1)))), (3, .long (lN (dd M v (wst M v (k + 1)))))]) hx hb dX0_worstMonth_49 hl (k := 5) rfl (zn_inc ((k) + 1)) (by decide) rfl (fun ls hl => ?_)
          refine lv_goto (tgt := 20) hx hb dX0_worstMonth_52 (by decide) ?_
          exact ih20 (k + 1) (by omega) (by omega) _ (lv_sub hl [2, 3, 4, 5, 0] rfl)
        · skip
          refine lv_lload hx hb dX0_worstMonth_43 (lv_at hl 0 rfl) ?_
          refine lv_lstore_n (lv' := [(3, .long (lN (dd M (v) ((k) + 1)))), (6, .long (lN (dd M (v) ((k) + 1)))), (0, .ref (ad 0)), (1, .int (nI (v))), (2, .int (nI (wst M v (k)))), (5, .int (nI ((k) + 1)))]) hx hb dX0_worstMonth_45 rfl hl (by decide) rfl (fun ls hl => ?_)
          refine lv_iload hx hb dX0_worstMonth_46 (lv_at hl 5 rfl) ?_
          refine lv_istore_n (lv' := [(2, .int (nI ((k) + 1))), (3, .long (lN (dd M (v) ((k) + 1)))), (6, .long (lN (dd M (v) ((k) + 1)))), (0, .ref (ad 0)), (1, .int (nI (v))), (5, .int (nI ((k) + 1)))]) hx hb dX0_worstMonth_48 rfl hl (by decide) rfl (fun ls hl => ?_)
          have hl := lv_cast (l2 := [(2, .int (nI (wst M v (k + 1)))), (3, .long (lN (dd M (v) ((k) + 1)))), (6, .long (lN (dd M (v) ((k) + 1)))), (0, .ref (ad 0)), (1, .int (nI (v))), (5, .int (nI ((k) + 1)))]) hl (by rw [show (wst M v (k + 1)) = ((k) + 1) from (by show (if dd M v (wst M v k) < dd M v (k + 1) then _ else _) = _; split <;> first | rfl | omega)])
          have hl := lv_cast (l2 := [(2, .int (nI (wst M v (k + 1)))), (3, .long (lN (dd M v (wst M v (k + 1))))), (6, .long (lN (dd M (v) ((k) + 1)))), (0, .ref (ad 0)), (1, .int (nI (v))), (5, .int (nI ((k) + 1)))]) hl (by rw [show (dd M v (wst M v (k + 1))) = (dd M (v) ((k) + 1)) from (by congr 1; show (if dd M v (wst M v k) < dd M v (k + 1) then _ else _) = _; split <;> first | rfl | omega)])
          refine lv_iinc (v := nI ((k) + 1 + 1)) (lv' := [(5, .int (nI ((k) + 1 + 1))), (2, .int (nI (wst M v (k + 1)))), (3, .long (lN (dd M v (wst M v (k + 1))))), (6, .long (lN (dd M (v) ((k) + 1)))), (0, .ref (ad 0)), (1, .int (nI (v)))]) hx hb dX0_worstMonth_49 hl (k := 5) rfl (zn_inc ((k) + 1)) (by decide) rfl (fun ls hl => ?_)
          refine lv_goto (tgt := 20) hx hb dX0_worstMonth_52 (by decide) ?_
          exact ih20 (k + 1) (by omega) (by omega) _ (lv_sub hl [4, 5, 1, 2, 0] rfl)
  exact lp20 (35 - (0) + 1) (0) (by omega) (by omega) _ (lv_sub hl [3, 4, 2, 1, 0] rfl)
set_option maxHeartbeats 4000000 in
set_option maxRecDepth 100000 in
/-- over -/
theorem p0_over (l : Launch) (hfl : l.stackTraces = false) {D : va_G} {ad : Nat → Nat} {cI cJ cQ : ClassId} {M : Mdl} {ts : Nat → Nat} {pu : Nat → Int64} {sa : Nat → Nat} {Z : Nat → Prop} {sz : Nat} (hI : Inv M)  (p0 : Int32) : vx_Met l yX0_over wsX0_over (rmX 2 1) (va_Pc [.ref (ad 0), .int (p0)] (KP0X D ad cI cJ cQ M ts pu sa Z sz)) (vp_Si (fun r_ => ixB p0 (M 5 0) = true ∧ r_ = nI (ovr M (clN p0)))) (XCE (fun E => (E = eI ∧ cd1 (ixB p0 (M 5 0)) = 1))) 1 6 (fun _ => False) := by
  refine mkX_Si (post := fun r_ => ixB p0 (M 5 0) = true ∧ r_ = nI (ovr M (clN p0))) (cc := cX0_over) (maxL := 4) (by decide) rfl (Nat.le_of_ble_eq_true rfl) ?_
  intro p e s m args below meth c Q C0 B0 hX hret ls hl
  obtain ⟨hx, hb, hr, hml, hown, hts, hlocks⟩ := C0
  have hown : s.vm.findClass RX0 = some m.cls := hown
  obtain ⟨hsz, hKX, hK, hP⟩ := B0
  have hw0 : ∀ w ∈ wsX00, w.before args s = true := fun w h => hts w ((by decide +kernel : ∀ w ∈ wsX00, w ∈ wsX0_over) w h)
  have b_nw := hI.nw
  have b_nv := hI.nv
  have hl : lv_has ls 4 [(0, .ref (ad 0)), (1, .int (p0))] := hl
  refine lv_iload_n hx hb dX0_over_0 rfl (lv_at hl 1 rfl) ?_
  refine lv_aload_n hx hb dX0_over_1 rfl (lv_at hl 0 rfl) ?_
  refine zg0 hx hb hw0 hown hK hP (by decide) rfl 11 (by decide) (hts (.fieldLink RX0 55 "WellField" "watchCount" "I") (by decide +kernel)) rfl rfl dX0_over_2 ?_
  refine zx_v (vx_runS (As := [.int (p0), .int (nI (M 5 0))]) (rest := []) ⟨hx, hb, hml, hown, hts⟩ (x0_needIndex l hfl (p0) (M 5 0)) (va_cwS 2 hts gX0_over_X0_needIndex rfl rfl rfl (by decide +kernel) (by decide)) (psX hKX) rfl rfl hl.1 rfl (lv_room (Nat.le_of_ble_eq_true rfl)) dX0_over_5 (by decide)) (fun hp hz hk q1 q2 q3 => hX (by decide) (by decide) (by obtain ⟨rfl, h⟩ := hp; simp [cd1, cd2, cd3, h]) hz hk q1 q2 q3) (fun b_1 => ?_)
  obtain ⟨v, h_v, rfl⟩ := ixB_of (by omega) b_1
  have cl_v : clN (nI v) = v := clN_nI (by omega)
  refine lv_iconst (v := nI 0) hx hb dX0_over_8 (by decide) ?_
  refine lv_istore_n (lv' := [(2, .int (nI (0))), (0, .ref (ad 0)), (1, .int (nI (v)))]) hx hb dX0_over_9 rfl hl (by decide) rfl (fun ls hl => ?_)
  refine lv_iconst (v := nI 0) hx hb dX0_over_10 (by decide) ?_
  refine lv_istore_n (lv' := [(3, .int (nI (0))), (2, .int (nI (0))), (0, .ref (ad 0)), (1, .int (nI (v)))]) hx hb dX0_over_11 rfl hl (by decide) rfl (fun ls hl => ?_)
  have lp12 : ∀ (n k : Nat), k ≤ 36 → 36 - k < n → ∀ ls : Array Slot, lv_has ls 4 [(0, .ref (ad 0)), (1, .int (nI (v))), (2, .int (nI (ssum (fun m => ovc M v m) (k)))), (3, .int (nI (k)))] → W p l e (rmX 2 1) s m args below meth c s.heap [] 1 6 Q (F0 m 12 ls []) := by
    intro n
    induction n with
    | zero => intro k q1 q2; omega
    | succ n ih12 =>
      intro k q1_12 q2_12 ls hl
      refine lv_iload_n hx hb dX0_over_12 rfl (lv_at hl 3 rfl) ?_
      refine lv_bipush (v := nI 36) hx hb dX0_over_13 (by decide) ?_
      refine zb_ge (tgt := 38) hx hb (by omega) (by omega) dX0_over_15 (by decide) (fun c_2 => ?_) (fun c_2 => ?_)
      · skip
        have q_3 : k = 36 := by omega
        subst q_3
        refine lv_iload_n hx hb dX0_over_38 rfl (lv_at hl 2 rfl) ?_
        exact hret (by decide) (by decide) (And.intro (by simp [b_1]) (by show _ = nI (ovr M _); rw [cl_v]; rfl)) dX0_over_39
      · skip
        refine lv_aload_n hx hb dX0_over_18 rfl (lv_at hl 0 rfl) ?_
        refine lv_iload_n hx hb dX0_over_19 rfl (lv_at hl 1 rfl) ?_
        refine lv_iload_n hx hb dX0_over_20 rfl (lv_at hl 3 rfl) ?_
        refine vp_callSl (W.runV (As := [.int (nI (v)), .int (nI (k))]) (rest := []) ⟨hx, hb, hml, hown, hts⟩ (c0_thousandthsLeft l hI (v := v) (mo := k) (by omega) (by omega)) (cwV 2 hts gX0_over_X0_thousandthsLeft rfl rfl rfl (by decide +kernel) (by decide)) (pv0 hK hP) rfl rfl hl.1 rfl (lv_room (Nat.le_of_ble_eq_true rfl)) dX0_over_21 (by decide)) (fun r_4 hr_4 => ?_)
        subst hr_4
        have f_5 := dd_le hI (v) (k)
        have f_6 := hI.lm (v)
        refine lv_lconst (v := lN 0) hx hb dX0_over_24 (by decide) ?_
        refine zbS_ge (tgt := 32) hx hb (by omega) (by omega) dX0_over_25 dX0_over_26 (by decide) (fun c_7 => ?_) (fun c_7 => ?_)
        · skip
          have hl := lv_cast (l2 := [(0, .ref (ad 0)), (1, .int (nI (v))), (2, .int (nI (ssum (fun m => ovc M v m) (k + 1)))), (3, .int (nI (k)))]) hl (by rw [show (ssum (fun m => ovc M v m) (k + 1)) = (ssum (fun m => ovc M v m) (k)) from (by show _ + ovc M v k = _; unfold ovc; split <;> omega)])
          refine lv_iinc (v := nI (k + 1)) (lv' := [(3, .int (nI (k + 1))), (0, .ref (ad 0)), (1, .int (nI (v))), (2, .int (nI (ssum (fun m => ovc M v m) (k + 1))))]) hx hb dX0_over_32 hl (k := 3) rfl (zn_inc (k)) (by decide) rfl (fun ls hl => ?_)
          refine lv_goto (tgt := 12) hx hb dX0_over_35 (by decide) ?_
          exact ih12 (k + 1) (by omega) (by omega) _ (lv_sub hl [1, 2, 3, 0] rfl)
        · skip
          refine lv_iinc (v := nI (ssum (fun m => ovc M v m) (k) + 1)) (lv' := [(2, .int (nI (ssum (fun m => ovc M v m) (k) + 1))), (0, .ref (ad 0)), (1, .int (nI (v))), (3, .int (nI (k)))]) hx hb dX0_over_29 hl (k := 2) rfl (zn_inc (ssum (fun m => ovc M v m) (k))) (by decide) rfl (fun ls hl => ?_)
          have hl := lv_cast (l2 := [(2, .int (nI (ssum (fun m => ovc M v m) (k + 1)))), (0, .ref (ad 0)), (1, .int (nI (v))), (3, .int (nI (k)))]) hl (by rw [show (ssum (fun m => ovc M v m) (k + 1)) = (ssum (fun m => ovc M v m) (k) + 1) from (by show _ + ovc M v k = _; unfold ovc; split <;> omega)])
          refine lv_iinc (v := nI (k + 1)) (lv' := [(3, .int (nI (k + 1))), (2, .int (nI (ssum (fun m => ovc M v m) (k + 1)))), (0, .ref (ad 0)), (1, .int (nI (v)))]) hx hb dX0_over_32 hl (k := 3) rfl (zn_inc (k)) (by decide) rfl (fun ls hl => ?_)
          refine lv_goto (tgt := 12) hx hb dX0_over_35 (by decide) ?_
          exact ih12 (k + 1) (by omega) (by omega) _ (lv_sub hl [2, 3, 1, 0] rfl)
  exact lp12 (36 - (0) + 1) (0) (by omega) (by omega) _ (lv_sub hl [2, 3, 1, 0] rfl)
set_option maxHeartbeats 4000000 in
set_option maxRecDepth 100000 in
/-- headroom -/
theorem p0_headroom (l : Launch) (hfl : l.stackTraces = false) {D : va_G} {ad : Nat → Nat} {cI cJ cQ : ClassId} {M : Mdl} {ts : Nat → Nat} {pu : Nat → Int64} {sa : Nat → Nat} {Z : Nat → Prop} {sz : Nat} (hI : Inv M)  (p0 p1 : Int32) : vx_Met l yX0_headroom wsX0_headroom (rmX 2 2) (va_Pc [.ref (ad 0), .int (p0), .int (p1)] (KP0X D ad cI cJ cQ M ts pu sa Z sz)) (vp_Si (fun r_ => (ixB p0 (M 0 0) && ixB p1 36) = true ∧ r_ = nI (hdr M (clN p0) (clN p1) (M 5 0)))) (XCE (fun E => (E = eI ∧ cd1 (ixB p0 (M 0 0) && ixB p1 36) = 1))) 2 12 (fun _ => False) := by
  refine mkX_Si (post := fun r_ => (ixB p0 (M 0 0) && ixB p1 36) = true ∧ r_ = nI (hdr M (clN p0) (clN p1) (M 5 0))) (cc := cX0_headroom) (maxL := 6) (by decide) rfl (Nat.le_of_ble_eq_true rfl) ?_
  intro p e s m args below meth c Q C0 B0 hX hret ls hl
  obtain ⟨hx, hb, hr, hml, hown, hts, hlocks⟩ := C0
  have hown : s.vm.findClass RX0 = some m.cls := hown
  obtain ⟨hsz, hKX, hK, hP⟩ := B0
  have hw0 : ∀ w ∈ wsX00, w.before args s = true := fun w h => hts w ((by decide +kernel : ∀ w ∈ wsX00, w ∈ wsX0_headroom) w h)
  have b_nw := hI.nw
  have b_nv := hI.nv
  have hl : lv_has ls 6 [(0, .ref (ad 0)), (1, .int (p0)), (2, .int (p1))] := hl
  refine lv_iload_n hx hb dX0_headroom_0 rfl (lv_at hl 1 rfl) ?_
  refine lv_aload_n hx hb dX0_headroom_1 rfl (lv_at hl 0 rfl) ?_
  refine zg0 hx hb hw0 hown hK hP (by decide) rfl 10 (by decide) (hts (.fieldLink RX0 47 "WellField" "wellCount" "I") (by decide +kernel)) rfl rfl dX0_headroom_2 ?_
  refine zx_v (vx_runS (As := [.int (p0), .int (nI (M 0 0))]) (rest := []) ⟨hx, hb, hml, hown, hts⟩ (x0_needIndex l hfl (p0) (M 0 0)) (va_cwS 2 hts gX0_headroom_X0_needIndex rfl rfl rfl (by decide +kernel) (by decide)) (psX hKX) rfl rfl hl.1 rfl (lv_room (Nat.le_of_ble_eq_true rfl)) dX0_headroom_5 (by decide)) (fun hp hz hk q1 q2 q3 => hX (by decide) (by decide) (by obtain ⟨rfl, h⟩ := hp; simp [cd1, cd2, cd3, h]) hz hk q1 q2 q3) (fun b_1 => ?_)
  refine lv_iload_n hx hb dX0_headroom_8 rfl (lv_at hl 2 rfl) ?_
  refine lv_bipush (v := nI 36) hx hb dX0_headroom_9 (by decide) ?_
  refine zx_v (vx_runS (As := [.int (p1), .int (nI (36))]) (rest := []) ⟨hx, hb, hml, hown, hts⟩ (x0_needIndex l hfl (p1) (36)) (va_cwS 2 hts gX0_headroom_X0_needIndex rfl rfl rfl (by decide +kernel) (by decide)) (psX hKX) rfl rfl hl.1 rfl (lv_room (Nat.le_of_ble_eq_true rfl)) dX0_headroom_11 (by decide)) (fun hp hz hk q1 q2 q3 => hX (by decide) (by decide) (by obtain ⟨rfl, h⟩ := hp; simp [cd1, cd2, cd3, h, b_1]) hz hk q1 q2 q3) (fun b_2 => ?_)
  obtain ⟨w, h_w, rfl⟩ := ixB_of (by omega) b_1
  have cl_w : clN (nI w) = w := clN_nI (by omega)
  obtain ⟨mo, h_mo, rfl⟩ := ixB_of (by omega) b_2
  have cl_mo : clN (nI mo) = mo := clN_nI (by omega)
  refine lv_sipush (v := nI 1000) hx hb dX0_headroom_14 (by decide) ?_
  refine lv_aload_n hx hb dX0_headroom_17 rfl (lv_at hl 0 rfl) ?_
  refine zg0 hx hb hw0 hown hK hP (by decide) rfl 3 (by decide) (hts (.fieldLink RX0 21 "WellField" "pumping" "[[I") (by decide +kernel)) rfl rfl dX0_headroom_18 ?_
  refine lv_iload_n hx hb dX0_headroom_21 rfl (lv_at hl 1 rfl) ?_
  refine zq_ld hx hb hK hP 4 (by decide) 2 rfl rfl (by decide) (i := w) (by omega) (a := ad (11 + (w))) rfl dX0_headroom_22 ?_
  refine lv_iload_n hx hb dX0_headroom_23 rfl (lv_at hl 2 rfl) ?_
  refine zi_ld hx hb hK hP (11 + (w)) (by omega) 0 (wcE_pump (by omega)) rfl (by decide) (i := mo) (by omega) (v := nI (M (10 + 3 * (w)) (mo))) rfl dX0_headroom_24 ?_
  have f_3 := hI.un (w) (by omega) (mo)
  refine zr_isub hx hb (by omega) dX0_headroom_25 ?_
  refine zr_i2l hx hb (by omega) dX0_headroom_26 ?_
  refine lv_lstore_n (lv' := [(3, .long (lN ((1000) - (M (10 + 3 * (w)) (mo))))), (0, .ref (ad 0)), (1, .int (nI (w))), (2, .int (nI (mo)))]) hx hb dX0_headroom_27 rfl hl (by decide) rfl (fun ls hl => ?_)
  refine lv_iconst (v := nI 0) hx hb dX0_headroom_28 (by decide) ?_
  refine lv_istore (lv' := [(5, .int (nI (0))), (3, .long (lN ((1000) - (M (10 + 3 * (w)) (mo))))), (0, .ref (ad 0)), (1, .int (nI (w))), (2, .int (nI (mo)))]) hx hb dX0_headroom_29 hl (by decide) rfl (fun ls hl => ?_)
  have lp31 : ∀ (n v : Nat), v ≤ M 5 0 → M 5 0 - v < n → ∀ ls : Array Slot, lv_has ls 6 [(0, .ref (ad 0)), (1, .int (nI (w))), (2, .int (nI (mo))), (3, .long (lN (hdr M w mo (v)))), (5, .int (nI (v)))] → W p l e (rmX 2 2) s m args below meth c s.heap [] 2 12 Q (F0 m 31 ls []) := by
    intro n
    induction n with
    | zero => intro v q1 q2; omega
    | succ n ih31 =>
      intro v q1_31 q2_31 ls hl
      have u_h := hdr_le M w mo v
      refine lv_iload hx hb dX0_headroom_31 (lv_at hl 4 rfl) ?_
      refine lv_aload_n hx hb dX0_headroom_33 rfl (lv_at hl 0 rfl) ?_
      refine zg0 hx hb hw0 hown hK hP (by decide) rfl 11 (by decide) (hts (.fieldLink RX0 55 "WellField" "watchCount" "I") (by decide +kernel)) rfl rfl dX0_headroom_34 ?_
      refine zb_ge (tgt := 65) hx hb (by omega) (by omega) dX0_headroom_37 (by decide) (fun c_4 => ?_) (fun c_4 => ?_)
      · skip
        have q_5 : v = M 5 0 := by omega
        subst q_5
        refine lv_lload_n hx hb dX0_headroom_65 rfl (lv_at hl 3 rfl) ?_
        refine zr_l2i hx hb dX0_headroom_66 ?_
        exact hret (by decide) (by decide) (And.intro (by simp [b_1, b_2]) (by show _ = nI (hdr M _ _ _); rw [cl_w, cl_mo])) dX0_headroom_67
      · skip
        refine lv_lload_n hx hb dX0_headroom_40 rfl (lv_at hl 3 rfl) ?_
        refine lv_aload_n hx hb dX0_headroom_41 rfl (lv_at hl 0 rfl) ?_
        refine lv_iload hx hb dX0_headroom_42 (lv_at hl 4 rfl) ?_
        refine lv_aload_n hx hb dX0_headroom_44 rfl (lv_at hl 0 rfl) ?_
        refine lv_iload_n hx hb dX0_headroom_45 rfl (lv_at hl 1 rfl) ?_
        refine lv_iload hx hb dX0_headroom_46 (lv_at hl 4 rfl) ?_
        refine vp_callSi (W.runV (As := [.int (nI (w)), .int (nI (v))]) (rest := [.int (nI (v)), .ref (ad 0), .long (lN (hdr M w mo (v)))]) ⟨hx, hb, hml, hown, hts⟩ (c0_reachOf l hI (w := w) (v := v) (by omega) (by omega)) (cwV 2 hts gX0_headroom_X0_reachOf rfl rfl rfl (by decide +kernel) (by decide)) (pv0 hK hP) rfl rfl hl.1 rfl (lv_room (Nat.le_of_ble_eq_true rfl)) dX0_headroom_48 (by decide)) (fun r_6 hr_6 => ?_)
        subst hr_6
        have f_7 := rch_le hI (w) (v)
        refine lv_iload_n hx hb dX0_headroom_51 rfl (lv_at hl 2 rfl) ?_
        refine vp_callSl (W.runV (As := [.int (nI (v)), .int (nI (rch M (w) (v))), .int (nI (mo))]) (rest := [.long (lN (hdr M w mo (v)))]) ⟨hx, hb, hml, hown, hts⟩ (c0_unitsLeft l hI (v := v) (r := rch M (w) (v)) (mo := mo) (by omega) (by omega) (by omega)) (cwV 3 hts gX0_headroom_X0_unitsLeft rfl rfl rfl (by decide +kernel) (by decide)) (pv0 hK hP) rfl rfl hl.1 rfl (lv_room (Nat.le_of_ble_eq_true rfl)) dX0_headroom_52 (by decide)) (fun r_8 hr_8 => ?_)
        subst hr_8
        have f_9 := ulf_le M (v) (rch M (w) (v)) (mo) (d12 (36 - (mo)))
        refine va_mmin_long hx hb (hml.trans hl.1.symm) hown (hts (.methodLink RX0 91 Lib.MathLoose.min_long.x) (by decide +kernel)) (hts (.static Lib.MathLoose.min_long.x) (by decide +kernel)) (hts (.initialized "java/lang/Math") (by decide +kernel)) (hts (.code Lib.MathLoose.min_long.x Lib.MathLoose.min_long.code 4 (some .long)) (by decide +kernel)) (by decide) (Nat.le_of_ble_eq_true rfl) (by decide) (by decide) dX0_headroom_55 ?_
        refine zt_l (min_lN (by omega) (by omega)) ?_
        refine lv_lstore_n (lv' := [(3, .long (lN (min (hdr M w mo (v)) (ulf M (v) (rch M (w) (v)) (mo) (d12 (36 - (mo))))))), (0, .ref (ad 0)), (1, .int (nI (w))), (2, .int (nI (mo))), (5, .int (nI (v)))]) hx hb dX0_headroom_58 rfl hl (by decide) rfl (fun ls hl => ?_)
        refine lv_iinc (v := nI (v + 1)) (lv' := [(5, .int (nI (v + 1))), (3, .long (lN (min (hdr M w mo (v)) (ulf M (v) (rch M (w) (v)) (mo) (d12 (36 - (mo))))))), (0, .ref (ad 0)), (1, .int (nI (w))), (2, .int (nI (mo)))]) hx hb dX0_headroom_59 hl (k := 4) rfl (zn_inc (v)) (by decide) rfl (fun ls hl => ?_)
        refine lv_goto (tgt := 31) hx hb dX0_headroom_62 (by decide) ?_
        exact ih31 (v + 1) (by omega) (by omega) _ (lv_sub hl [2, 3, 4, 1, 0] rfl)
  exact lp31 (M 5 0 - (0) + 1) (0) (by omega) (by omega) _ (lv_sub hl [2, 3, 4, 1, 0] rfl)
set_option maxHeartbeats 4000000 in
set_option maxRecDepth 100000 in
/-- heaviest -/
theorem p0_heaviest (l : Launch) (hfl : l.stackTraces = false) {D : va_G} {ad : Nat → Nat} {cI cJ cQ : ClassId} {M : Mdl} {ts : Nat → Nat} {pu : Nat → Int64} {sa : Nat → Nat} {Z : Nat → Prop} {sz : Nat} (hI : Inv M)  (p0 p1 : Int32) : vx_Met l yX0_heaviest wsX0_heaviest (rmX 2 2) (va_Pc [.ref (ad 0), .int (p0), .int (p1)] (KP0X D ad cI cJ cQ M ts pu sa Z sz)) (vp_Si (fun r_ => (ixB p0 (M 5 0) && ixB p1 36) = true ∧ r_ = hvb M (clN p0) (clN p1) (M 0 0))) (XCE (fun E => (E = eI ∧ cd1 (ixB p0 (M 5 0) && ixB p1 36) = 1))) 2 12 (fun _ => False) := by
  refine mkX_Si (post := fun r_ => (ixB p0 (M 5 0) && ixB p1 36) = true ∧ r_ = hvb M (clN p0) (clN p1) (M 0 0)) (cc := cX0_heaviest) (maxL := 9) (by decide) rfl (Nat.le_of_ble_eq_true rfl) ?_
  intro p e s m args below meth c Q C0 B0 hX hret ls hl
  obtain ⟨hx, hb, hr, hml, hown, hts, hlocks⟩ := C0
  have hown : s.vm.findClass RX0 = some m.cls := hown
  obtain ⟨hsz, hKX, hK, hP⟩ := B0
  have hw0 : ∀ w ∈ wsX00, w.before args s = true := fun w h => hts w ((by decide +kernel : ∀ w ∈ wsX00, w ∈ wsX0_heaviest) w h)
  have b_nw := hI.nw
  have b_nv := hI.nv
  have hl : lv_has ls 9 [(0, .ref (ad 0)), (1, .int (p0)), (2, .int (p1))] := hl
  refine lv_iload_n hx hb dX0_heaviest_0 rfl (lv_at hl 1 rfl) ?_
  refine lv_aload_n hx hb dX0_heaviest_1 rfl (lv_at hl 0 rfl) ?_
  refine zg0 hx hb hw0 hown hK hP (by decide) rfl 11 (by decide) (hts (.fieldLink RX0 55 "WellField" "watchCount" "I") (by decide +kernel)) rfl rfl dX0_heaviest_2 ?_
  refine zx_v (vx_runS (As := [.int (p0), .int (nI (M 5 0))]) (rest := []) ⟨hx, hb, hml, hown, hts⟩ (x0_needIndex l hfl (p0) (M 5 0)) (va_cwS 2 hts gX0_heaviest_X0_needIndex rfl rfl rfl (by decide +kernel) (by decide)) (psX hKX) rfl rfl hl.1 rfl (lv_room (Nat.le_of_ble_eq_true rfl)) dX0_heaviest_5 (by decide)) (fun hp hz hk q1 q2 q3 => hX (by decide) (by decide) (by obtain ⟨rfl, h⟩ := hp; simp [cd1, cd2, cd3, h]) hz hk q1 q2 q3) (fun b_1 => ?_)
  refine lv_iload_n hx hb dX0_heaviest_8 rfl (lv_at hl 2 rfl) ?_
  refine lv_bipush (v := nI 36) hx hb dX0_heaviest_9 (by decide) ?_
  refine zx_v (vx_runS (As := [.int (p1), .int (nI (36))]) (rest := []) ⟨hx, hb, hml, hown, hts⟩ (x0_needIndex l hfl (p1) (36)) (va_cwS 2 hts gX0_heaviest_X0_needIndex rfl rfl rfl (by decide +kernel) (by decide)) (psX hKX) rfl rfl hl.1 rfl (lv_room (Nat.le_of_ble_eq_true rfl)) dX0_heaviest_11 (by decide)) (fun hp hz hk q1 q2 q3 => hX (by decide) (by decide) (by obtain ⟨rfl, h⟩ := hp; simp [cd1, cd2, cd3, h, b_1]) hz hk q1 q2 q3) (fun b_2 => ?_)
  obtain ⟨v, h_v, rfl⟩ := ixB_of (by omega) b_1
  have cl_v : clN (nI v) = v := clN_nI (by omega)
  obtain ⟨mo, h_mo, rfl⟩ := ixB_of (by omega) b_2
  have cl_mo : clN (nI mo) = mo := clN_nI (by omega)
  refine lv_iconst (v := (-1)) hx hb dX0_heaviest_14 (by decide) ?_
  refine lv_istore_n (lv' := [(3, .int (-1)), (0, .ref (ad 0)), (1, .int (nI (v))), (2, .int (nI (mo)))]) hx hb dX0_heaviest_15 rfl hl (by decide) rfl (fun ls hl => ?_)
  refine lv_lconst (v := lN 0) hx hb dX0_heaviest_16 (by decide) ?_
  refine lv_lstore (lv' := [(4, .long (lN (0))), (3, .int (-1)), (0, .ref (ad 0)), (1, .int (nI (v))), (2, .int (nI (mo)))]) hx hb dX0_heaviest_17 hl (by decide) rfl (fun ls hl => ?_)
  refine lv_iconst (v := nI 0) hx hb dX0_heaviest_19 (by decide) ?_
  refine lv_istore (lv' := [(6, .int (nI (0))), (4, .long (lN (0))), (3, .int (-1)), (0, .ref (ad 0)), (1, .int (nI (v))), (2, .int (nI (mo)))]) hx hb dX0_heaviest_20 hl (by decide) rfl (fun ls hl => ?_)
  have lp22 : ∀ (n w : Nat), w ≤ M 0 0 → M 0 0 - w < n → ∀ ls : Array Slot, lv_has ls 9 [(0, .ref (ad 0)), (1, .int (nI (v))), (2, .int (nI (mo))), (3, .int (hvb M v mo (w))), (4, .long (lN (hvm M v mo (w)))), (6, .int (nI (w)))] → W p l e (rmX 2 2) s m args below meth c s.heap [] 2 12 Q (F0 m 22 ls []) := by
    intro n
    induction n with
    | zero => intro w q1 q2; omega
    | succ n ih22 =>
      intro w q1_22 q2_22 ls hl
      have u_h := hvm_le hI v mo w (by omega)
      refine lv_iload hx hb dX0_heaviest_22 (lv_at hl 5 rfl) ?_
      refine lv_aload_n hx hb dX0_heaviest_24 rfl (lv_at hl 0 rfl) ?_
      refine zg0 hx hb hw0 hown hK hP (by decide) rfl 10 (by decide) (hts (.fieldLink RX0 47 "WellField" "wellCount" "I") (by decide +kernel)) rfl rfl dX0_heaviest_25 ?_
      refine zb_ge (tgt := 62) hx hb (by omega) (by omega) dX0_heaviest_28 (by decide) (fun c_3 => ?_) (fun c_3 => ?_)
      · skip
        have q_4 : w = M 0 0 := by omega
        subst q_4
        refine lv_iload_n hx hb dX0_heaviest_62 rfl (lv_at hl 3 rfl) ?_
        exact hret (by decide) (by decide) (And.intro (by simp [b_1, b_2]) (by show _ = hvb M _ _ _; rw [cl_v, cl_mo])) dX0_heaviest_63
      · skip
        refine lv_aload_n hx hb dX0_heaviest_31 rfl (lv_at hl 0 rfl) ?_
        refine lv_iload hx hb dX0_heaviest_32 (lv_at hl 5 rfl) ?_
        refine lv_iload_n hx hb dX0_heaviest_34 rfl (lv_at hl 1 rfl) ?_
        refine lv_iload_n hx hb dX0_heaviest_35 rfl (lv_at hl 2 rfl) ?_
        refine vp_callSl (W.runV (As := [.int (nI (w)), .int (nI (v)), .int (nI (mo))]) (rest := []) ⟨hx, hb, hml, hown, hts⟩ (c0_loweredInAll l hI (w := w) (v := v) (mo := mo) (by omega) (by omega) (by omega)) (cwV 3 hts gX0_heaviest_X0_loweredInAll rfl rfl rfl (by decide +kernel) (by decide)) (pv0 hK hP) rfl rfl hl.1 rfl (lv_room (Nat.le_of_ble_eq_true rfl)) dX0_heaviest_36 (by decide)) (fun r_5 hr_5 => ?_)
        subst hr_5
        have f_6 := lia_le hI (w := w) (by omega) (v) (mo)
        refine lv_lstore (lv' := [(7, .long (lN (lia M (w) (v) (mo)))), (0, .ref (ad 0)), (1, .int (nI (v))), (2, .int (nI (mo))), (3, .int (hvb M v mo (w))), (4, .long (lN (hvm M v mo (w)))), (6, .int (nI (w)))]) hx hb dX0_heaviest_39 hl (by decide) rfl (fun ls hl => ?_)
        refine lv_lload hx hb dX0_heaviest_41 (lv_at hl 0 rfl) ?_
        refine lv_lload hx hb dX0_heaviest_43 (lv_at hl 5 rfl) ?_
        refine zbL_le (tgt := 56) hx hb (by omega) (by omega) dX0_heaviest_45 dX0_heaviest_46 (by decide) (fun c_7 => ?_) (fun c_7 => ?_)
        · skip
          have hl := lv_cast (l2 := [(7, .long (lN (lia M (w) (v) (mo)))), (0, .ref (ad 0)), (1, .int (nI (v))), (2, .int (nI (mo))), (3, .int (hvb M v mo (w + 1))), (4, .long (lN (hvm M v mo (w)))), (6, .int (nI (w)))]) hl (by rw [show (hvb M v mo (w + 1)) = (hvb M v mo (w)) from (by show (if hvm M v mo w < lia M w v mo then _ else _) = _; split <;> first | rfl | omega)])
          have hl := lv_cast (l2 := [(7, .long (lN (lia M (w) (v) (mo)))), (0, .ref (ad 0)), (1, .int (nI (v))), (2, .int (nI (mo))), (3, .int (hvb M v mo (w + 1))), (4, .long (lN (hvm M v mo (w + 1)))), (6, .int (nI (w)))]) hl (by rw [show (hvm M v mo (w + 1)) = (hvm M v mo (w)) from (by show (if hvm M v mo w < lia M w v mo then _ else _) = _; split <;> first | rfl | omega)])
          refine lv_iinc (v := nI (w + 1)) (lv' := [(6, .int (nI (w + 1))), (7, .long (lN (lia M (w) (v) (mo)))), (0, .ref (ad 0)), (1, .int (nI (v))), (2, .int (nI (mo))), (3, .int (hvb M v mo (w + 1))), (4, .long (lN (hvm M v mo (w + 1))))]) hx hb dX0_heaviest_56 hl (k := 6) rfl (zn_inc (w)) (by decide) rfl (fun ls hl => ?_)
          refine lv_goto (tgt := 22) hx hb dX0_heaviest_59 (by decide) ?_
          exact ih22 (w + 1) (by omega) (by omega) _ (lv_sub hl [2, 3, 4, 5, 6, 0] rfl)
        · skip
          refine lv_lload hx hb dX0_heaviest_49 (lv_at hl 0 rfl) ?_
          refine lv_lstore (lv' := [(4, .long (lN (lia M (w) (v) (mo)))), (7, .long (lN (lia M (w) (v) (mo)))), (0, .ref (ad 0)), (1, .int (nI (v))), (2, .int (nI (mo))), (3, .int (hvb M v mo (w))), (6, .int (nI (w)))]) hx hb dX0_heaviest_51 hl (by decide) rfl (fun ls hl => ?_)
          refine lv_iload hx hb dX0_heaviest_53 (lv_at hl 6 rfl) ?_
          refine lv_istore_n (lv' := [(3, .int (nI (w))), (4, .long (lN (lia M (w) (v) (mo)))), (7, .long (lN (lia M (w) (v) (mo)))), (0, .ref (ad 0)), (1, .int (nI (v))), (2, .int (nI (mo))), (6, .int (nI (w)))]) hx hb dX0_heaviest_55 rfl hl (by decide) rfl (fun ls hl => ?_)
          have hl := lv_cast (l2 := [(3, .int (hvb M v mo (w + 1))), (4, .long (lN (lia M (w) (v) (mo)))), (7, .long (lN (lia M (w) (v) (mo)))), (0, .ref (ad 0)), (1, .int (nI (v))), (2, .int (nI (mo))), (6, .int (nI (w)))]) hl (by rw [show (hvb M v mo (w + 1)) = nI (w) from (by show (if hvm M v mo w < lia M w v mo then _ else _) = _; split <;> first | rfl | omega)])
          have hl := lv_cast (l2 := [(3, .int (hvb M v mo (w + 1))), (4, .long (lN (hvm M v mo (w + 1)))), (7, .long (lN (lia M (w) (v) (mo)))), (0, .ref (ad 0)), (1, .int (nI (v))), (2, .int (nI (mo))), (6, .int (nI (w)))]) hl (by rw [show (hvm M v mo (w + 1)) = (lia M (w) (v) (mo)) from (by show (if hvm M v mo w < lia M w v mo then _ else _) = _; split <;> first | rfl | omega)])
          refine lv_iinc (v := nI (w + 1)) (lv' := [(6, .int (nI (w + 1))), (3, .int (hvb M v mo (w + 1))), (4, .long (lN (hvm M v mo (w + 1)))), (7, .long (lN (lia M (w) (v) (mo)))), (0, .ref (ad 0)), (1, .int (nI (v))), (2, .int (nI (mo)))]) hx hb dX0_heaviest_56 hl (k := 6) rfl (zn_inc (w)) (by decide) rfl (fun ls hl => ?_)
          refine lv_goto (tgt := 22) hx hb dX0_heaviest_59 (by decide) ?_
          exact ih22 (w + 1) (by omega) (by omega) _ (lv_sub hl [4, 5, 6, 1, 2, 0] rfl)
  exact lp22 (M 0 0 - (0) + 1) (0) (by omega) (by omega) _ (lv_sub hl [3, 4, 5, 2, 1, 0] rfl)
set_option maxHeartbeats 4000000 in
set_option maxRecDepth 100000 in
/-- taken -/
theorem p0_taken (l : Launch) (hfl : l.stackTraces = false) {D : va_G} {ad : Nat → Nat} {cI cJ cQ : ClassId} {M : Mdl} {ts : Nat → Nat} {pu : Nat → Int64} {sa : Nat → Nat} {Z : Nat → Prop} {sz : Nat} (hI : Inv M)  (p0 : Int32) : vx_Met l yX0_taken wsX0_taken (rmX 1 1) (va_Pc [.ref (ad 0), .int (p0)] (KP0X D ad cI cJ cQ M ts pu sa Z sz)) (vp_Si (fun r_ => ixB p0 3 = true ∧ r_ = nI (tka M (clN p0)))) (XCE (fun E => (E = eI ∧ cd1 (ixB p0 3) = 1))) 1 6 (fun _ => False) := by
  refine mkX_Si (post := fun r_ => ixB p0 3 = true ∧ r_ = nI (tka M (clN p0))) (cc := cX0_taken) (maxL := 4) (by decide) rfl (Nat.le_of_ble_eq_true rfl) ?_
  intro p e s m args below meth c Q C0 B0 hX hret ls hl
  obtain ⟨hx, hb, hr, hml, hown, hts, hlocks⟩ := C0
  have hown : s.vm.findClass RX0 = some m.cls := hown
  obtain ⟨hsz, hKX, hK, hP⟩ := B0
  have hw0 : ∀ w ∈ wsX00, w.before args s = true := fun w h => hts w ((by decide +kernel : ∀ w ∈ wsX00, w ∈ wsX0_taken) w h)
  have b_nw := hI.nw
  have b_nv := hI.nv
  have hl : lv_has ls 4 [(0, .ref (ad 0)), (1, .int (p0))] := hl
  refine lv_iload_n hx hb dX0_taken_0 rfl (lv_at hl 1 rfl) ?_
  refine lv_iconst (v := nI 3) hx hb dX0_taken_1 (by decide) ?_
  refine zx_v (vx_runS (As := [.int (p0), .int (nI (3))]) (rest := []) ⟨hx, hb, hml, hown, hts⟩ (x0_needIndex l hfl (p0) (3)) (va_cwS 2 hts gX0_taken_X0_needIndex rfl rfl rfl (by decide +kernel) (by decide)) (psX hKX) rfl rfl hl.1 rfl (lv_room (Nat.le_of_ble_eq_true rfl)) dX0_taken_2 (by decide)) (fun hp hz hk q1 q2 q3 => hX (by decide) (by decide) (by obtain ⟨rfl, h⟩ := hp; simp [cd1, cd2, cd3, h]) hz hk q1 q2 q3) (fun b_1 => ?_)
  obtain ⟨y, h_y, rfl⟩ := ixB_of (by omega) b_1
  have cl_y : clN (nI y) = y := clN_nI (by omega)
  refine lv_iconst (v := nI 0) hx hb dX0_taken_5 (by decide) ?_
  refine lv_istore_n (lv' := [(2, .int (nI (0))), (0, .ref (ad 0)), (1, .int (nI (y)))]) hx hb dX0_taken_6 rfl hl (by decide) rfl (fun ls hl => ?_)
  refine lv_iconst (v := nI 0) hx hb dX0_taken_7 (by decide) ?_
  refine lv_istore_n (lv' := [(3, .int (nI (0))), (2, .int (nI (0))), (0, .ref (ad 0)), (1, .int (nI (y)))]) hx hb dX0_taken_8 rfl hl (by decide) rfl (fun ls hl => ?_)
  have lp9 : ∀ (n w : Nat), w ≤ M 0 0 → M 0 0 - w < n → ∀ ls : Array Slot, lv_has ls 4 [(0, .ref (ad 0)), (1, .int (nI (y))), (2, .int (nI (ssum (fun w => tk M w y 36) (w)))), (3, .int (nI (w)))] → W p l e (rmX 1 1) s m args below meth c s.heap [] 1 6 Q (F0 m 9 ls []) := by
    intro n
    induction n with
    | zero => intro w q1 q2; omega
    | succ n ih9 =>
      intro w q1_9 q2_9 ls hl
      refine lv_iload_n hx hb dX0_taken_9 rfl (lv_at hl 3 rfl) ?_
      refine lv_aload_n hx hb dX0_taken_10 rfl (lv_at hl 0 rfl) ?_
      refine zg0 hx hb hw0 hown hK hP (by decide) rfl 10 (by decide) (hts (.fieldLink RX0 47 "WellField" "wellCount" "I") (by decide +kernel)) rfl rfl dX0_taken_11 ?_
      refine zb_ge (tgt := 34) hx hb (by omega) (by omega) dX0_taken_14 (by decide) (fun c_2 => ?_) (fun c_2 => ?_)
      · skip
        have q_3 : w = M 0 0 := by omega
        subst q_3
        refine lv_iload_n hx hb dX0_taken_34 rfl (lv_at hl 2 rfl) ?_
        exact hret (by decide) (by decide) (And.intro (by simp [b_1]) (by show _ = nI (tka M _); rw [cl_y]; rfl)) dX0_taken_35
      · skip
        refine lv_iload_n hx hb dX0_taken_17 rfl (lv_at hl 2 rfl) ?_
        refine lv_aload_n hx hb dX0_taken_18 rfl (lv_at hl 0 rfl) ?_
        refine lv_iload_n hx hb dX0_taken_19 rfl (lv_at hl 3 rfl) ?_
        refine lv_bipush (v := nI 36) hx hb dX0_taken_20 (by decide) ?_
        refine lv_iload_n hx hb dX0_taken_22 rfl (lv_at hl 1 rfl) ?_
        refine vp_callSi (W.runV (As := [.int (nI (w)), .int (nI (36)), .int (nI (y))]) (rest := [.int (nI (ssum (fun w => tk M w y 36) (w)))]) ⟨hx, hb, hml, hown, hts⟩ (c0_takenOfMonthsBefore l hI (w := w) (E := 36) (y := y) (by omega) (by omega) (by omega)) (cwV 3 hts gX0_taken_X0_takenOfMonthsBefore rfl rfl rfl (by decide +kernel) (by decide)) (pv0 hK hP) rfl rfl hl.1 rfl (lv_room (Nat.le_of_ble_eq_true rfl)) dX0_taken_23 (by decide)) (fun r_4 hr_4 => ?_)
        subst hr_4
        refine zr_iadd hx hb dX0_taken_26 ?_
        refine lv_istore_n (lv' := [(2, .int (nI ((ssum (fun w => tk M w y 36) (w)) + (tk M (w) (y) (36))))), (0, .ref (ad 0)), (1, .int (nI (y))), (3, .int (nI (w)))]) hx hb dX0_taken_27 rfl hl (by decide) rfl (fun ls hl => ?_)
        refine lv_iinc (v := nI (w + 1)) (lv' := [(3, .int (nI (w + 1))), (2, .int (nI ((ssum (fun w => tk M w y 36) (w)) + (tk M (w) (y) (36))))), (0, .ref (ad 0)), (1, .int (nI (y)))]) hx hb dX0_taken_28 hl (k := 3) rfl (zn_inc (w)) (by decide) rfl (fun ls hl => ?_)
        refine lv_goto (tgt := 9) hx hb dX0_taken_31 (by decide) ?_
        exact ih9 (w + 1) (by omega) (by omega) _ (lv_sub hl [2, 3, 1, 0] rfl)
  exact lp9 (M 0 0 - (0) + 1) (0) (by omega) (by omega) _ (lv_sub hl [2, 3, 1, 0] rfl)
set_option maxHeartbeats 4000000 in
set_option maxRecDepth 100000 in
/-- takenLate -/
theorem p0_takenLate (l : Launch) (hfl : l.stackTraces = false) {D : va_G} {ad : Nat → Nat} {cI cJ cQ : ClassId} {M : Mdl} {ts : Nat → Nat} {pu : Nat → Int64} {sa : Nat → Nat} {Z : Nat → Prop} {sz : Nat} (hI : Inv M)  (p0 p1 : Int32) : vx_Met l yX0_takenLate wsX0_takenLate (rmX 1 2) (va_Pc [.ref (ad 0), .int (p0), .int (p1)] (KP0X D ad cI cJ cQ M ts pu sa Z sz)) (vp_Si (fun r_ => (ixB p0 (M 0 0) && ixB p1 3) = true ∧ r_ = nI (tk M (clN p0) (clN p1) (clN p1 * 12)))) (XCE (fun E => (E = eI ∧ cd1 (ixB p0 (M 0 0) && ixB p1 3) = 1))) 2 12 (fun _ => False) := by
  refine mkX_Si (post := fun r_ => (ixB p0 (M 0 0) && ixB p1 3) = true ∧ r_ = nI (tk M (clN p0) (clN p1) (clN p1 * 12))) (cc := cX0_takenLate) (maxL := 3) (by decide) rfl (Nat.le_of_ble_eq_true rfl) ?_
  intro p e s m args below meth c Q C0 B0 hX hret ls hl
  obtain ⟨hx, hb, hr, hml, hown, hts, hlocks⟩ := C0
  have hown : s.vm.findClass RX0 = some m.cls := hown
  obtain ⟨hsz, hKX, hK, hP⟩ := B0
  have hw0 : ∀ w ∈ wsX00, w.before args s = true := fun w h => hts w ((by decide +kernel : ∀ w ∈ wsX00, w ∈ wsX0_takenLate) w h)
  have b_nw := hI.nw
  have b_nv := hI.nv
  have hl : lv_has ls 3 [(0, .ref (ad 0)), (1, .int (p0)), (2, .int (p1))] := hl
  refine lv_iload_n hx hb dX0_takenLate_0 rfl (lv_at hl 1 rfl) ?_
  refine lv_aload_n hx hb dX0_takenLate_1 rfl (lv_at hl 0 rfl) ?_
  refine zg0 hx hb hw0 hown hK hP (by decide) rfl 10 (by decide) (hts (.fieldLink RX0 47 "WellField" "wellCount" "I") (by decide +kernel)) rfl rfl dX0_takenLate_2 ?_
  refine zx_v (vx_runS (As := [.int (p0), .int (nI (M 0 0))]) (rest := []) ⟨hx, hb, hml, hown, hts⟩ (x0_needIndex l hfl (p0) (M 0 0)) (va_cwS 2 hts gX0_takenLate_X0_needIndex rfl rfl rfl (by decide +kernel) (by decide)) (psX hKX) rfl rfl hl.1 rfl (lv_room (Nat.le_of_ble_eq_true rfl)) dX0_takenLate_5 (by decide)) (fun hp hz hk q1 q2 q3 => hX (by decide) (by decide) (by obtain ⟨rfl, h⟩ := hp; simp [cd1, cd2, cd3, h]) hz hk q1 q2 q3) (fun b_1 => ?_)
  refine lv_iload_n hx hb dX0_takenLate_8 rfl (lv_at hl 2 rfl) ?_
  refine lv_iconst (v := nI 3) hx hb dX0_takenLate_9 (by decide) ?_
  refine zx_v (vx_runS (As := [.int (p1), .int (nI (3))]) (rest := []) ⟨hx, hb, hml, hown, hts⟩ (x0_needIndex l hfl (p1) (3)) (va_cwS 2 hts gX0_takenLate_X0_needIndex rfl rfl rfl (by decide +kernel) (by decide)) (psX hKX) rfl rfl hl.1 rfl (lv_room (Nat.le_of_ble_eq_true rfl)) dX0_takenLate_10 (by decide)) (fun hp hz hk q1 q2 q3 => hX (by decide) (by decide) (by obtain ⟨rfl, h⟩ := hp; simp [cd1, cd2, cd3, h, b_1]) hz hk q1 q2 q3) (fun b_2 => ?_)
  obtain ⟨w, h_w, rfl⟩ := ixB_of (by omega) b_1
  have cl_w : clN (nI w) = w := clN_nI (by omega)
  obtain ⟨y, h_y, rfl⟩ := ixB_of (by omega) b_2
  have cl_y : clN (nI y) = y := clN_nI (by omega)
  refine lv_aload_n hx hb dX0_takenLate_13 rfl (lv_at hl 0 rfl) ?_
  refine lv_iload_n hx hb dX0_takenLate_14 rfl (lv_at hl 1 rfl) ?_
  refine lv_iload_n hx hb dX0_takenLate_15 rfl (lv_at hl 2 rfl) ?_
  refine lv_bipush (v := nI 12) hx hb dX0_takenLate_16 (by decide) ?_
  refine zr_imul hx hb dX0_takenLate_18 ?_
  refine lv_iload_n hx hb dX0_takenLate_19 rfl (lv_at hl 2 rfl) ?_
  refine vp_callSi (W.runV (As := [.int (nI (w)), .int (nI ((y) * (12))), .int (nI (y))]) (rest := []) ⟨hx, hb, hml, hown, hts⟩ (c0_takenOfMonthsBefore l hI (w := w) (E := (y) * (12)) (y := y) (by omega) (by omega) (by omega)) (cwV 3 hts gX0_takenLate_X0_takenOfMonthsBefore rfl rfl rfl (by decide +kernel) (by decide)) (pv0 hK hP) rfl rfl hl.1 rfl (lv_room (Nat.le_of_ble_eq_true rfl)) dX0_takenLate_20 (by decide)) (fun r_3 hr_3 => ?_)
  subst hr_3
  exact hret (by decide) (by decide) (And.intro (by simp [b_1, b_2]) (by show _ = nI (tk M _ _ _); rw [cl_w, cl_y])) dX0_takenLate_23
set_option maxHeartbeats 4000000 in
set_option maxRecDepth 100000 in
/-- licence -/
theorem p0_licence (l : Launch) (hfl : l.stackTraces = false) {D : va_G} {ad : Nat → Nat} {cI cJ cQ : ClassId} {M : Mdl} {ts : Nat → Nat} {pu : Nat → Int64} {sa : Nat → Nat} {Z : Nat → Prop} {sz : Nat} (hI : Inv M)  (p0 : Int32) : vx_Met l yX0_licence wsX0_licence (rmX 1 1) (va_Pc [.ref (ad 0), .int (p0)] (KP0X D ad cI cJ cQ M ts pu sa Z sz)) (vp_Si (fun r_ => ixB p0 (M 0 0) = true ∧ r_ = nI (M 3 (clN p0)))) (XCE (fun E => (E = eI ∧ cd1 (ixB p0 (M 0 0)) = 1))) 1 6 (fun _ => False) := by
  refine mkX_Si (post := fun r_ => ixB p0 (M 0 0) = true ∧ r_ = nI (M 3 (clN p0))) (cc := cX0_licence) (maxL := 2) (by decide) rfl (Nat.le_of_ble_eq_true rfl) ?_
  intro p e s m args below meth c Q C0 B0 hX hret ls hl
  obtain ⟨hx, hb, hr, hml, hown, hts, hlocks⟩ := C0
  have hown : s.vm.findClass RX0 = some m.cls := hown
  obtain ⟨hsz, hKX, hK, hP⟩ := B0
  have hw0 : ∀ w ∈ wsX00, w.before args s = true := fun w h => hts w ((by decide +kernel : ∀ w ∈ wsX00, w ∈ wsX0_licence) w h)
  have b_nw := hI.nw
  have b_nv := hI.nv
  have hl : lv_has ls 2 [(0, .ref (ad 0)), (1, .int (p0))] := hl
  refine lv_iload_n hx hb dX0_licence_0 rfl (lv_at hl 1 rfl) ?_
  refine lv_aload_n hx hb dX0_licence_1 rfl (lv_at hl 0 rfl) ?_
  refine zg0 hx hb hw0 hown hK hP (by decide) rfl 10 (by decide) (hts (.fieldLink RX0 47 "WellField" "wellCount" "I") (by decide +kernel)) rfl rfl dX0_licence_2 ?_
  refine zx_v (vx_runS (As := [.int (p0), .int (nI (M 0 0))]) (rest := []) ⟨hx, hb, hml, hown, hts⟩ (x0_needIndex l hfl (p0) (M 0 0)) (va_cwS 2 hts gX0_licence_X0_needIndex rfl rfl rfl (by decide +kernel) (by decide)) (psX hKX) rfl rfl hl.1 rfl (lv_room (Nat.le_of_ble_eq_true rfl)) dX0_licence_5 (by decide)) (fun hp hz hk q1 q2 q3 => hX (by decide) (by decide) (by obtain ⟨rfl, h⟩ := hp; simp [cd1, cd2, cd3, h]) hz hk q1 q2 q3) (fun b_1 => ?_)
  obtain ⟨w, h_w, rfl⟩ := ixB_of (by omega) b_1
  have cl_w : clN (nI w) = w := clN_nI (by omega)
  refine lv_aload_n hx hb dX0_licence_8 rfl (lv_at hl 0 rfl) ?_
  refine zg0 hx hb hw0 hown hK hP (by decide) rfl 2 (by decide) (hts (.fieldLink RX0 16 "WellField" "licences" "[I") (by decide +kernel)) rfl rfl dX0_licence_9 ?_
  refine lv_iload_n hx hb dX0_licence_12 rfl (lv_at hl 1 rfl) ?_
  refine zi_ld hx hb hK hP 3 (by decide) 0 rfl rfl (by decide) (i := w) (by omega) (v := nI (M 3 (w))) rfl dX0_licence_13 ?_
  have f_2 := hI.li (w)
  exact hret (by decide) (by decide) (And.intro (by simp [b_1]) (by show _ = nI (M 3 _); rw [cl_w])) dX0_licence_14
set_option maxHeartbeats 4000000 in
set_option maxRecDepth 100000 in
/-- burden -/
theorem p0_burden (l : Launch) (hfl : l.stackTraces = false) {D : va_G} {ad : Nat → Nat} {cI cJ cQ : ClassId} {M : Mdl} {ts : Nat → Nat} {pu : Nat → Int64} {sa : Nat → Nat} {Z : Nat → Prop} {sz : Nat} (hI : Inv M) (hT : hTs M ts) (p0 : Int32) : vx_Met l yX0_burden wsX0_burden (rmX 2 1) (va_Pc [.ref (ad 0), .int (p0)] (KP0X D ad cI cJ cQ M ts pu sa Z sz)) (vp_Sl (fun r_ => ixB p0 (M 5 0) = true ∧ r_ = lN (bud M (clN p0)))) (XCE (fun E => (E = eI ∧ cd1 (ixB p0 (M 5 0)) = 1))) 1 6 (fun _ => False) := by
  refine mkX_Sl (post := fun r_ => ixB p0 (M 5 0) = true ∧ r_ = lN (bud M (clN p0))) (cc := cX0_burden) (maxL := 5) (by decide) rfl (Nat.le_of_ble_eq_true rfl) ?_
  intro p e s m args below meth c Q C0 B0 hX hret ls hl
  obtain ⟨hx, hb, hr, hml, hown, hts, hlocks⟩ := C0
  have hown : s.vm.findClass RX0 = some m.cls := hown
  obtain ⟨hsz, hKX, hK, hP⟩ := B0
  have hw0 : ∀ w ∈ wsX00, w.before args s = true := fun w h => hts w ((by decide +kernel : ∀ w ∈ wsX00, w ∈ wsX0_burden) w h)
  have b_nw := hI.nw
  have b_nv := hI.nv
  have hl : lv_has ls 5 [(0, .ref (ad 0)), (1, .int (p0))] := hl
  refine lv_iload_n hx hb dX0_burden_0 rfl (lv_at hl 1 rfl) ?_
  refine lv_aload_n hx hb dX0_burden_1 rfl (lv_at hl 0 rfl) ?_
  refine zg0 hx hb hw0 hown hK hP (by decide) rfl 11 (by decide) (hts (.fieldLink RX0 55 "WellField" "watchCount" "I") (by decide +kernel)) rfl rfl dX0_burden_2 ?_
  refine zx_v (vx_runS (As := [.int (p0), .int (nI (M 5 0))]) (rest := []) ⟨hx, hb, hml, hown, hts⟩ (x0_needIndex l hfl (p0) (M 5 0)) (va_cwS 2 hts gX0_burden_X0_needIndex rfl rfl rfl (by decide +kernel) (by decide)) (psX hKX) rfl rfl hl.1 rfl (lv_room (Nat.le_of_ble_eq_true rfl)) dX0_burden_5 (by decide)) (fun hp hz hk q1 q2 q3 => hX (by decide) (by decide) (by obtain ⟨rfl, h⟩ := hp; simp [cd1, cd2, cd3, h]) hz hk q1 q2 q3) (fun b_1 => ?_)
  obtain ⟨v, h_v, rfl⟩ := ixB_of (by omega) b_1
  have cl_v : clN (nI v) = v := clN_nI (by omega)
  refine lv_lconst (v := lN 0) hx hb dX0_burden_8 (by decide) ?_
  refine lv_lstore_n (lv' := [(2, .long (lN (0))), (0, .ref (ad 0)), (1, .int (nI (v)))]) hx hb dX0_burden_9 rfl hl (by decide) rfl (fun ls hl => ?_)
  refine lv_iconst (v := nI 0) hx hb dX0_burden_10 (by decide) ?_
  refine lv_istore (lv' := [(4, .int (nI (0))), (2, .long (lN (0))), (0, .ref (ad 0)), (1, .int (nI (v)))]) hx hb dX0_burden_11 hl (by decide) rfl (fun ls hl => ?_)
  have lp13 : ∀ (n w : Nat), w ≤ M 0 0 → M 0 0 - w < n → ∀ ls : Array Slot, lv_has ls 5 [(0, .ref (ad 0)), (1, .int (nI (v))), (2, .long (lN (ssum (fun w => M 3 w * als M w v) (w)))), (4, .int (nI (w)))] → W p l e (rmX 2 1) s m args below meth c s.heap [] 1 6 Q (F0 m 13 ls []) := by
    intro n
    induction n with
    | zero => intro w q1 q2; omega
    | succ n ih13 =>
      intro w q1_13 q2_13 ls hl
      refine lv_iload hx hb dX0_burden_13 (lv_at hl 3 rfl) ?_
      refine lv_aload_n hx hb dX0_burden_15 rfl (lv_at hl 0 rfl) ?_
      refine zg0 hx hb hw0 hown hK hP (by decide) rfl 10 (by decide) (hts (.fieldLink RX0 47 "WellField" "wellCount" "I") (by decide +kernel)) rfl rfl dX0_burden_16 ?_
      refine zb_ge (tgt := 45) hx hb (by omega) (by omega) dX0_burden_19 (by decide) (fun c_2 => ?_) (fun c_2 => ?_)
      · skip
        have q_3 : w = M 0 0 := by omega
        subst q_3
        refine lv_lload_n hx hb dX0_burden_45 rfl (lv_at hl 2 rfl) ?_
        exact hret (by decide) (by decide) (And.intro (by simp [b_1]) (by show _ = lN (bud M _); rw [cl_v]; rfl)) dX0_burden_46
      · skip
        refine lv_lload_n hx hb dX0_burden_22 rfl (lv_at hl 2 rfl) ?_
        refine lv_aload_n hx hb dX0_burden_23 rfl (lv_at hl 0 rfl) ?_
        refine lv_iload hx hb dX0_burden_24 (lv_at hl 3 rfl) ?_
        refine lv_iload_n hx hb dX0_burden_26 rfl (lv_at hl 1 rfl) ?_
        refine lv_aload_n hx hb dX0_burden_27 rfl (lv_at hl 0 rfl) ?_
        refine zg0 hx hb hw0 hown hK hP (by decide) rfl 2 (by decide) (hts (.fieldLink RX0 16 "WellField" "licences" "[I") (by decide +kernel)) rfl rfl dX0_burden_28 ?_
        refine lv_iload hx hb dX0_burden_31 (lv_at hl 3 rfl) ?_
        refine zi_ld hx hb hK hP 3 (by decide) 0 rfl rfl (by decide) (i := w) (by omega) (v := nI (M 3 (w))) rfl dX0_burden_33 ?_
        have f_4 := hI.li (w)
        refine vp_callSl (W.runV (As := [.int (nI (w)), .int (nI (v)), .int (nI (M 3 (w)))]) (rest := [.long (lN (ssum (fun w => M 3 w * als M w v) (w)))]) ⟨hx, hb, hml, hown, hts⟩ (c0_burdenOfUnits l hI (w := w) (v := v) (x := M 3 (w)) (by omega) (by omega) (by omega) hT) (cwV 3 hts gX0_burden_X0_burdenOfUnits rfl rfl rfl (by decide +kernel) (by decide)) (pv0 hK hP) rfl rfl hl.1 rfl (lv_room (Nat.le_of_ble_eq_true rfl)) dX0_burden_34 (by decide)) (fun r_5 hr_5 => ?_)
        subst hr_5
        refine zr_ladd hx hb dX0_burden_37 ?_
        refine lv_lstore_n (lv' := [(2, .long (lN ((ssum (fun w => M 3 w * als M w v) (w)) + ((M 3 (w)) * als M (w) (v))))), (0, .ref (ad 0)), (1, .int (nI (v))), (4, .int (nI (w)))]) hx hb dX0_burden_38 rfl hl (by decide) rfl (fun ls hl => ?_)
        refine lv_iinc (v := nI (w + 1)) (lv' := [(4, .int (nI (w + 1))), (2, .long (lN ((ssum (fun w => M 3 w * als M w v) (w)) + ((M 3 (w)) * als M (w) (v))))), (0, .ref (ad 0)), (1, .int (nI (v)))]) hx hb dX0_burden_39 hl (k := 3) rfl (zn_inc (w)) (by decide) rfl (fun ls hl => ?_)
        refine lv_goto (tgt := 13) hx hb dX0_burden_42 (by decide) ?_
        exact ih13 (w + 1) (by omega) (by omega) _ (lv_sub hl [2, 3, 1, 0] rfl)
  exact lp13 (M 0 0 - (0) + 1) (0) (by omega) (by omega) _ (lv_sub hl [2, 3, 1, 0] rfl)
