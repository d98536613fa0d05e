set_option maxHeartbeats 4000000 in
set_option maxRecDepth 100000 in
theorem x0_needIndex (l : Launch) (hfl : l.stackTraces = false) {sa : Nat → Nat} {Z : Nat → Prop} (i : Int32) (n : Nat) : vx_Met l yX0_needIndex wsX0_needIndex (rmX 0 1) (va_Pc [.int i, .int (nI n)] (KX sa Z)) (va_Sv (fun _ => ixB i n = true)) (XCE (fun E => E = eI ∧ ixB i n = false)) 1 6 (fun _ => False) := by
  refine mkX_Sv (cc := cX0_needIndex) (maxL := 2) (by decide) rfl (Nat.le_of_ble_eq_true rfl) ?_
  intro p e s m args below meth c C0 ht B0 hret ls hl
  obtain ⟨hx, hb, hr, hml, hown, hts, hlocks⟩ := C0
  have hown : s.vm.findClass RX0 = some m.cls := hown
  obtain ⟨k1, k2, k3, k4, k5, k6, k7, k8, k9, k10, k11, k12⟩ := B0
  have hl : lv_has ls 2 [(0, .int i), (1, .int (nI n))] := hl
  refine lv_iload_n hx hb dX0_needIndex_0 rfl (lv_at hl 0 rfl) ?_
  refine lv_if_lt (tgt := 9) hx hb dX0_needIndex_1 (by decide) (fun c1 => ?_) (fun c1 => ?_)
  · refine vx_throwS (own := RX0) (cls := eI) (text := "no such number") (names := ["java/lang/RuntimeException", "java/lang/Exception"]) (ik := 114) (is := 116) (ic := 118) (sa := sa 0) (A := Z) hx hb hfl hown (by decide +kernel) (by decide +kernel) (hts (.classLink RX0 114 "java/lang/IndexOutOfBoundsException") (by decide +kernel)) (hts (.initialized "java/lang/IndexOutOfBoundsException") (by decide +kernel)) k3 (vx_hat (B := [.castable eI eI, .declares (Bundle.initS "java/lang/RuntimeException"), .declares (Bundle.initS "java/lang/Exception"), .declares (Bundle.initS Bundle.tN)]) (fun w h => hts w (List.mem_cons_of_mem _ (List.mem_append_right _ h))) (by decide +kernel) (vx_c (va_Nw.use rfl k7) (vx_c (va_Nw.use rfl k10) (vx_c (va_Nw.use rfl k11) (vx_c (va_Nw.use rfl k12) vx_n))))) (by decide +kernel) k1 k2 va_S.rf (hl.1.trans hml.symm) dX0_needIndex_9 dX0_needIndex_12 dX0_needIndex_13 dX0_needIndex_15 dX0_needIndex_18 (fun x h => (ht x h).elim) (by decide) (Nat.le_of_ble_eq_true rfl) (by decide) (by decide) hlocks (fun t _ h1 h2 => ⟨⟨rfl, decide_eq_false (fun z => by have h0 := z.1; rw [Int32.le_iff_toInt_le] at h0; rw [Int32.lt_iff_toInt_lt] at c1; omega)⟩, h1, fun q h _ => h2 q h⟩) (fun z h => by cases h) (by decide) (by decide)
  · refine lv_iload_n hx hb dX0_needIndex_4 rfl (lv_at hl 0 rfl) ?_
    refine lv_iload_n hx hb dX0_needIndex_5 rfl (lv_at hl 1 rfl) ?_
    refine lv_icmp_lt (tgt := 19) hx hb dX0_needIndex_6 (by decide) (fun c2 => ?_) (fun c2 => ?_)
    · exact hret (by decide) (by decide) (decide_eq_true ⟨by rw [Int32.le_iff_toInt_le]; rw [Int32.lt_iff_toInt_lt] at c1; omega, c2⟩) dX0_needIndex_19
    · refine vx_throwS (own := RX0) (cls := eI) (text := "no such number") (names := ["java/lang/RuntimeException", "java/lang/Exception"]) (ik := 114) (is := 116) (ic := 118) (sa := sa 0) (A := Z) hx hb hfl hown (by decide +kernel) (by decide +kernel) (hts (.classLink RX0 114 "java/lang/IndexOutOfBoundsException") (by decide +kernel)) (hts (.initialized "java/lang/IndexOutOfBoundsException") (by decide +kernel)) k3 (vx_hat (B := [.castable eI eI, .declares (Bundle.initS "java/lang/RuntimeException"), .declares (Bundle.initS "java/lang/Exception"), .declares (Bundle.initS Bundle.tN)]) (fun w h => hts w (List.mem_cons_of_mem _ (List.mem_append_right _ h))) (by decide +kernel) (vx_c (va_Nw.use rfl k7) (vx_c (va_Nw.use rfl k10) (vx_c (va_Nw.use rfl k11) (vx_c (va_Nw.use rfl k12) vx_n))))) (by decide +kernel) k1 k2 va_S.rf (hl.1.trans hml.symm) dX0_needIndex_9 dX0_needIndex_12 dX0_needIndex_13 dX0_needIndex_15 dX0_needIndex_18 (fun x h => (ht x h).elim) (by decide) (Nat.le_of_ble_eq_true rfl) (by decide) (by decide) hlocks (fun t _ h1 h2 => ⟨⟨rfl, decide_eq_false (fun z => c2 z.2)⟩, h1, fun q h _ => h2 q h⟩) (fun z h => by cases h) (by decide) (by decide)
set_option maxHeartbeats 4000000 in
set_option maxRecDepth 100000 in
theorem x0_needRange (l : Launch) (hfl : l.stackTraces = false) {sa : Nat → Nat} {Z : Nat → Prop} (i lo hi : Int32) : vx_Met l yX0_needRange wsX0_needRange (rmX 0 1) (va_Pc [.int i, .int lo, .int hi] (KX sa Z)) (va_Sv (fun _ => rgB i lo hi = true)) (XCE (fun E => E = eA ∧ rgB i lo hi = false)) 1 6 (fun _ => False) := by
  refine mkX_Sv (cc := cX0_needRange) (maxL := 3) (by decide) rfl (Nat.le_of_ble_eq_true rfl) ?_
  intro p e s m args below meth c C0 ht B0 hret ls hl
  obtain ⟨hx, hb, hr, hml, hown, hts, hlocks⟩ := C0
  have hown : s.vm.findClass RX0 = some m.cls := hown
  obtain ⟨k1, k2, k3, k4, k5, k6, k7, k8, k9, k10, k11, k12⟩ := B0
  have hl : lv_has ls 3 [(0, .int i), (1, .int lo), (2, .int hi)] := hl
  refine lv_iload_n hx hb dX0_needRange_0 rfl (lv_at hl 0 rfl) ?_
  refine lv_iload_n hx hb dX0_needRange_1 rfl (lv_at hl 1 rfl) ?_
  refine lv_icmp_lt (tgt := 10) hx hb dX0_needRange_2 (by decide) (fun c1 => ?_) (fun c1 => ?_)
  · refine vx_throwS (own := RX0) (cls := eA) (text := "out of its range") (names := ["java/lang/RuntimeException", "java/lang/Exception"]) (ik := 121) (is := 123) (ic := 125) (sa := sa 1) (A := Z) hx hb hfl hown (by decide +kernel) (by decide +kernel) (hts (.classLink RX0 121 "java/lang/IllegalArgumentException") (by decide +kernel)) (hts (.initialized "java/lang/IllegalArgumentException") (by decide +kernel)) k4 (vx_hat (B := [.castable eA eA, .declares (Bundle.initS "java/lang/RuntimeException"), .declares (Bundle.initS "java/lang/Exception"), .declares (Bundle.initS Bundle.tN)]) (fun w h => hts w (List.mem_cons_of_mem _ (List.mem_append_right _ h))) (by decide +kernel) (vx_c (va_Nw.use rfl k8) (vx_c (va_Nw.use rfl k10) (vx_c (va_Nw.use rfl k11) (vx_c (va_Nw.use rfl k12) vx_n))))) (by decide +kernel) k1 k2 va_S.rf (hl.1.trans hml.symm) dX0_needRange_10 dX0_needRange_13 dX0_needRange_14 dX0_needRange_16 dX0_needRange_19 (fun x h => (ht x h).elim) (by decide) (Nat.le_of_ble_eq_true rfl) (by decide) (by decide) hlocks (fun t _ h1 h2 => ⟨⟨rfl, decide_eq_false (fun z => by have h0 := z.1; rw [Int32.le_iff_toInt_le] at h0; rw [Int32.lt_iff_toInt_lt] at c1; omega)⟩, h1, fun q h _ => h2 q h⟩) (fun z h => by cases h) (by decide) (by decide)
  · refine lv_iload_n hx hb dX0_needRange_5 rfl (lv_at hl 0 rfl) ?_
    refine lv_iload_n hx hb dX0_needRange_6 rfl (lv_at hl 2 rfl) ?_
    refine lv_icmp_le (tgt := 20) hx hb dX0_needRange_7 (by decide) (fun c2 => ?_) (fun c2 => ?_)
    · exact hret (by decide) (by decide) (decide_eq_true ⟨by rw [Int32.le_iff_toInt_le]; rw [Int32.lt_iff_toInt_lt] at c1; omega, c2⟩) dX0_needRange_20
    · refine vx_throwS (own := RX0) (cls := eA) (text := "out of its range") (names := ["java/lang/RuntimeException", "java/lang/Exception"]) (ik := 121) (is := 123) (ic := 125) (sa := sa 1) (A := Z) hx hb hfl hown (by decide +kernel) (by decide +kernel) (hts (.classLink RX0 121 "java/lang/IllegalArgumentException") (by decide +kernel)) (hts (.initialized "java/lang/IllegalArgumentException") (by decide +kernel)) k4 (vx_hat (B := [.castable eA eA, .declares (Bundle.initS "java/lang/RuntimeException"), .declares (Bundle.initS "java/lang/Exception"), .declares (Bundle.initS Bundle.tN)]) (fun w h => hts w (List.mem_cons_of_mem _ (List.mem_append_right _ h))) (by decide +kernel) (vx_c (va_Nw.use rfl k8) (vx_c (va_Nw.use rfl k10) (vx_c (va_Nw.use rfl k11) (vx_c (va_Nw.use rfl k12) vx_n))))) (by decide +kernel) k1 k2 va_S.rf (hl.1.trans hml.symm) dX0_needRange_10 dX0_needRange_13 dX0_needRange_14 dX0_needRange_16 dX0_needRange_19 (fun x h => (ht x h).elim) (by decide) (Nat.le_of_ble_eq_true rfl) (by decide) (by decide) hlocks (fun t _ h1 h2 => ⟨⟨rfl, decide_eq_false (fun z => c2 z.2)⟩, h1, fun q h _ => h2 q h⟩) (fun z h => by cases h) (by decide) (by decide)
set_option maxHeartbeats 4000000 in
set_option maxRecDepth 100000 in
theorem x0_needAllowed (l : Launch) (hfl : l.stackTraces = false) {sa : Nat → Nat} {Z : Nat → Prop} (b : Bool) : vx_Met l yX0_needAllowed wsX0_needAllowed (rmX 0 1) (va_Pc [.int (bB b)] (KX sa Z)) (va_Sv (fun _ => b = true)) (XCE (fun E => E = eS ∧ b = false)) 1 6 (fun _ => False) := by
  refine mkX_Sv (cc := cX0_needAllowed) (maxL := 1) (by decide) rfl (Nat.le_of_ble_eq_true rfl) ?_
  intro p e s m args below meth c C0 ht B0 hret ls hl
  obtain ⟨hx, hb, hr, hml, hown, hts, hlocks⟩ := C0
  have hown : s.vm.findClass RX0 = some m.cls := hown
  obtain ⟨k1, k2, k3, k4, k5, k6, k7, k8, k9, k10, k11, k12⟩ := B0
  have hl : lv_has ls 1 [(0, .int (bB b))] := hl
  refine lv_iload_n hx hb dX0_needAllowed_0 rfl (lv_at hl 0 rfl) ?_
  refine zb_Bne (tgt := 14) hx hb dX0_needAllowed_1 (by decide) (fun c1 => ?_) (fun c1 => ?_)
  · exact hret (by decide) (by decide) c1 dX0_needAllowed_14
  · refine vx_throwS (own := RX0) (cls := eS) (text := "not allowed as things stand") (names := ["java/lang/RuntimeException", "java/lang/Exception"]) (ik := 126) (is := 128) (ic := 130) (sa := sa 2) (A := Z) hx hb hfl hown (by decide +kernel) (by decide +kernel) (hts (.classLink RX0 126 "java/lang/IllegalStateException") (by decide +kernel)) (hts (.initialized "java/lang/IllegalStateException") (by decide +kernel)) k5 (vx_hat (B := [.castable eS eS, .declares (Bundle.initS "java/lang/RuntimeException"), .declares (Bundle.initS "java/lang/Exception"), .declares (Bundle.initS Bundle.tN)]) (fun w h => hts w (List.mem_cons_of_mem _ (List.mem_append_right _ h))) (by decide +kernel) (vx_c (va_Nw.use rfl k9) (vx_c (va_Nw.use rfl k10) (vx_c (va_Nw.use rfl k11) (vx_c (va_Nw.use rfl k12) vx_n))))) (by decide +kernel) k1 k2 va_S.rf (hl.1.trans hml.symm) dX0_needAllowed_4 dX0_needAllowed_7 dX0_needAllowed_8 dX0_needAllowed_10 dX0_needAllowed_13 (fun x h => (ht x h).elim) (by decide) (Nat.le_of_ble_eq_true rfl) (by decide) (by decide) hlocks (fun t _ h1 h2 => ⟨⟨rfl, c1⟩, h1, fun q h _ => h2 q h⟩) (fun z h => by cases h) (by decide) (by decide)
set_option maxHeartbeats 4000000 in
set_option maxRecDepth 100000 in
theorem x0_needTwoWells (l : Launch) (hfl : l.stackTraces = false) {sa : Nat → Nat} {Z : Nat → Prop} {D : va_G} {ad : Nat → Nat} {cI cJ cQ : ClassId} {M : Mdl} {ts : Nat → Nat} {pu : Nat → Int64} {sz : Nat} (hI : Inv M) (i j : Int32) : vx_Met l yX0_needTwoWells wsX0_needTwoWells (rmX 1 3) (va_Pc [.ref (ad 0), .int i, .int j] (KP0X D ad cI cJ cQ M ts pu sa Z sz)) (va_Sv (fun _ => (ixB i (M 0 0) && ixB j (M 0 0)) = true ∧ i ≠ j)) (XCE (fun E => (E = eI ∧ (ixB i (M 0 0) && ixB j (M 0 0)) = false) ∨ (E = eA ∧ (ixB i (M 0 0) && ixB j (M 0 0)) = true ∧ i = j))) 3 18 (fun _ => False) := by
  refine mkX_Sv (cc := cX0_needTwoWells) (maxL := 3) (by decide) rfl (Nat.le_of_ble_eq_true rfl) ?_
  intro p e s m args below meth c C0 ht B0 hret ls hl
  obtain ⟨hx, hb, hr, hml, hown, hts, hlocks⟩ := C0
  have hown : s.vm.findClass RX0 = some m.cls := hown
  obtain ⟨hsz, hKX, hK, hP⟩ := B0
  have hKX0 := hKX
  obtain ⟨k1, k2, k3, k4, k5, k6, k7, k8, k9, k10, k11, k12⟩ := hKX
  have hw0 : ∀ w ∈ wsX00, w.before args s = true := fun w h => hts w ((by decide +kernel : ∀ w ∈ wsX00, w ∈ wsX0_needTwoWells) w h)
  have hl : lv_has ls 3 [(0, .ref (ad 0)), (1, .int i), (2, .int j)] := hl
  refine lv_iload_n hx hb dX0_needTwoWells_0 rfl (lv_at hl 1 rfl) ?_
  refine lv_aload_n hx hb dX0_needTwoWells_1 rfl (lv_at hl 0 rfl) ?_
  refine zg0 hx hb hw0 hown hK hP (by decide) rfl 10 (by decide) (hts (.fieldLink RX0 47 "WellField" "wellCount" "I") (by decide +kernel)) rfl rfl dX0_needTwoWells_2 ?_
  refine zx_v (vx_runS (As := [.int i, .int (nI (M 0 0))]) (rest := []) ⟨hx, hb, hml, hown, hts⟩ (x0_needIndex l hfl i (M 0 0)) (va_cwS 2 hts gX0_needTwoWells_X0_needIndex rfl rfl rfl (by decide +kernel) (by decide)) (psX hKX0) rfl rfl hl.1 rfl (lv_room (Nat.le_of_ble_eq_true rfl)) dX0_needTwoWells_5 (by decide)) (fun hp hz hk q1 q2 q3 => vx_out (fun x h => (ht x h).elim) hlocks q1 q2 q3 (fun t hT _ => ⟨Or.inl ⟨hp.1, by rw [hp.2]; rfl⟩, by rw [hT]; exact hz, fun q h _ => by rw [hT]; exact hk q h⟩) (fun z h => by cases h) (by decide) (by decide)) (fun hp => ?_)
  refine lv_iload_n hx hb dX0_needTwoWells_8 rfl (lv_at hl 2 rfl) ?_
  refine lv_aload_n hx hb dX0_needTwoWells_9 rfl (lv_at hl 0 rfl) ?_
  refine zg0 hx hb hw0 hown hK hP (by decide) rfl 10 (by decide) (hts (.fieldLink RX0 47 "WellField" "wellCount" "I") (by decide +kernel)) rfl rfl dX0_needTwoWells_10 ?_
  have h1 := hp
  refine zx_v (vx_runS (As := [.int j, .int (nI (M 0 0))]) (rest := []) ⟨hx, hb, hml, hown, hts⟩ (x0_needIndex l hfl j (M 0 0)) (va_cwS 2 hts gX0_needTwoWells_X0_needIndex rfl rfl rfl (by decide +kernel) (by decide)) (psX hKX0) rfl rfl hl.1 rfl (lv_room (Nat.le_of_ble_eq_true rfl)) dX0_needTwoWells_13 (by decide)) (fun hp hz hk q1 q2 q3 => vx_out (fun x h => (ht x h).elim) hlocks q1 q2 q3 (fun t hT _ => ⟨Or.inl ⟨hp.1, by rw [hp.2, Bool.and_false]⟩, by rw [hT]; exact hz, fun q h _ => by rw [hT]; exact hk q h⟩) (fun z h => by cases h) (by decide) (by decide)) (fun hp => ?_)
  have hbth : (ixB i (M 0 0) && ixB j (M 0 0)) = true := by rw [h1, hp]; rfl
  refine lv_iload_n hx hb dX0_needTwoWells_16 rfl (lv_at hl 1 rfl) ?_
  refine lv_iload_n hx hb dX0_needTwoWells_17 rfl (lv_at hl 2 rfl) ?_
  refine lv_icmp_ne (tgt := 31) hx hb dX0_needTwoWells_18 (by decide) (fun c2 => ?_) (fun c2 => ?_)
  · exact hret (by decide) (by decide) ⟨hbth, c2⟩ dX0_needTwoWells_31
  · refine vx_throwS (own := RX0) (cls := eA) (text := "both wells are the same") (names := ["java/lang/RuntimeException", "java/lang/Exception"]) (ik := 121) (is := 131) (ic := 125) (sa := sa 3) (A := Z) hx hb hfl hown (by decide +kernel) (by decide +kernel) (hts (.classLink RX0 121 "java/lang/IllegalArgumentException") (by decide +kernel)) (hts (.initialized "java/lang/IllegalArgumentException") (by decide +kernel)) k6 (vx_hat (B := [.castable eA eA, .declares (Bundle.initS "java/lang/RuntimeException"), .declares (Bundle.initS "java/lang/Exception"), .declares (Bundle.initS Bundle.tN)]) (fun w h => hts w (List.mem_cons_of_mem _ (List.mem_append_left _ (List.mem_append_right _ h)))) (by decide +kernel) (vx_c (va_Nw.use rfl k8) (vx_c (va_Nw.use rfl k10) (vx_c (va_Nw.use rfl k11) (vx_c (va_Nw.use rfl k12) vx_n))))) (by decide +kernel) k1 k2 va_S.rf (hl.1.trans hml.symm) dX0_needTwoWells_21 dX0_needTwoWells_24 dX0_needTwoWells_25 dX0_needTwoWells_27 dX0_needTwoWells_30 (fun x h => (ht x h).elim) (by decide) (Nat.le_of_ble_eq_true rfl) (by decide) (by decide) hlocks (fun t _ h1 h2 => ⟨Or.inr ⟨rfl, hbth, c2⟩, h1, fun q h _ => h2 q h⟩) (fun z h => by cases h) (by decide) (by decide)
