set_option maxHeartbeats 4000000 in
set_option maxRecDepth 100000 in
theorem c1_may (l : Launch) {D : va_G} {ad : Nat → Nat} {cI : ClassId} {M : Mdl} {th : Int32} {sz : Nat} (hnd : ndz 9 ad) (a1 : Bool) : Met l yX1_may wsX1_may (rmP 0) (va_Pc [.ref (ad 0), .int (bB (a1))] (KP1S D ad cI M th sz)) (va_Qi (fun r_ (u_ : Unit) => ∃ b_ : Bool, r_ = bB b_ ∧ b_ = (a1)) (fun (u_ : Unit) t_ => KP1 D ad cI M (nI (cd1 a1)) t_) (azs 9 ad sz)) 0 0 (azs 9 ad sz) := by
  refine mk_Qz (S := Unit) (post := fun b_ u_ => b_ = (a1)) (BQ := fun u_ t_ => KP1 D ad cI M (nI (cd1 a1)) t_) (cc := cX1_may) (maxL := 2) (by decide) rfl (Nat.le_of_ble_eq_true rfl) ?_
  intro p e s m args below meth c Q C0 B0 hret ls hl
  obtain ⟨hx, hb, hr, hml, hown, hts, hlocks⟩ := C0
  have hown : s.vm.findClass RX1 = some m.cls := hown
  obtain ⟨hsz, hK, hP⟩ := B0
  have hw0 : ∀ w ∈ wsX10, w.before args s = true := fun w h => hts w ((by decide +kernel : ∀ w ∈ wsX10, w ∈ wsX1_may) w h)
  subst hsz
  have hAd : ∀ i, i < 9 → azs 9 ad s.heap.size (ad i) := fun i h => azs_i h
  have hS : va_S (azs 9 ad s.heap.size) s.heap s.heap [] := va_S.rf
  have hl : lv_has ls 2 [(0, .ref (ad 0)), (1, .int (bB (a1)))] := hl
  refine lv_aload_n hx hb dX1_may_0 rfl (lv_at hl 0 rfl) ?_
  refine lv_iload_n hx hb dX1_may_1 rfl (lv_at hl 1 rfl) ?_
  refine zb_Beq (tgt := 9) hx hb dX1_may_2 (by decide) (fun c_1 => ?_) (fun c_1 => ?_)
  · skip
    refine lv_iconst (v := nI 1) hx hb dX1_may_9 (by decide) ?_
    refine zt_i (y := nI (cd1 a1)) (congrArg nI (by simp [cd1, c_1])) ?_
    refine zp1 hx hb hw0 hown hK hP hnd hAd hS (by decide) rfl 10 (by decide) (hts (.fieldLink RX1 34 "WellFieldModel" "thrown" "I") (by decide +kernel)) rfl rfl (by decide +kernel) (Nat.le_of_ble_eq_true rfl) (wmE ad cI (M) (nI (cd1 a1))) wmS_th dX1_may_10 (fun H locs hP hS => ?_)
    refine lv_iload_n hx hb dX1_may_13 rfl (lv_at hl 1 rfl) ?_
    exact hret (b := a1) (u := ()) rfl rfl hS (fun t ht hA => ⟨va_K.moved hA hK, by rw [ht]; exact hP⟩) dX1_may_14
  · skip
    refine lv_iconst (v := nI 0) hx hb dX1_may_5 (by decide) ?_
    refine lv_goto (tgt := 10) hx hb dX1_may_6 (by decide) ?_
    refine zt_i (y := nI (cd1 a1)) (congrArg nI (by simp [cd1, c_1])) ?_
    refine zp1 hx hb hw0 hown hK hP hnd hAd hS (by decide) rfl 10 (by decide) (hts (.fieldLink RX1 34 "WellFieldModel" "thrown" "I") (by decide +kernel)) rfl rfl (by decide +kernel) (Nat.le_of_ble_eq_true rfl) (wmE ad cI (M) (nI (cd1 a1))) wmS_th dX1_may_10 (fun H locs hP hS => ?_)
    refine lv_iload_n hx hb dX1_may_13 rfl (lv_at hl 1 rfl) ?_
    exact hret (b := a1) (u := ()) rfl rfl hS (fun t ht hA => ⟨va_K.moved hA hK, by rw [ht]; exact hP⟩) dX1_may_14
set_option maxHeartbeats 4000000 in
set_option maxRecDepth 100000 in
theorem c1_mayBoth (l : Launch) {D : va_G} {ad : Nat → Nat} {cI : ClassId} {M : Mdl} {th : Int32} {sz : Nat} (hnd : ndz 9 ad) (a1 a2 : Bool) : Met l yX1_mayBoth wsX1_mayBoth (rmP 0) (va_Pc [.ref (ad 0), .int (bB (a1)), .int (bB (a2))] (KP1S D ad cI M th sz)) (va_Qi (fun r_ (u_ : Unit) => ∃ b_ : Bool, r_ = bB b_ ∧ b_ = (a1 && a2)) (fun (u_ : Unit) t_ => KP1 D ad cI M (nI (cd2 a1 a2)) t_) (azs 9 ad sz)) 0 0 (azs 9 ad sz) := by
  refine mk_Qz (S := Unit) (post := fun b_ u_ => b_ = (a1 && a2)) (BQ := fun u_ t_ => KP1 D ad cI M (nI (cd2 a1 a2)) t_) (cc := cX1_mayBoth) (maxL := 3) (by decide) rfl (Nat.le_of_ble_eq_true rfl) ?_
  intro p e s m args below meth c Q C0 B0 hret ls hl
  obtain ⟨hx, hb, hr, hml, hown, hts, hlocks⟩ := C0
  have hown : s.vm.findClass RX1 = some m.cls := hown
  obtain ⟨hsz, hK, hP⟩ := B0
  have hw0 : ∀ w ∈ wsX10, w.before args s = true := fun w h => hts w ((by decide +kernel : ∀ w ∈ wsX10, w ∈ wsX1_mayBoth) w h)
  subst hsz
  have hAd : ∀ i, i < 9 → azs 9 ad s.heap.size (ad i) := fun i h => azs_i h
  have hS : va_S (azs 9 ad s.heap.size) s.heap s.heap [] := va_S.rf
  have hl : lv_has ls 3 [(0, .ref (ad 0)), (1, .int (bB (a1))), (2, .int (bB (a2)))] := hl
  refine lv_aload_n hx hb dX1_mayBoth_0 rfl (lv_at hl 0 rfl) ?_
  refine lv_iload_n hx hb dX1_mayBoth_1 rfl (lv_at hl 1 rfl) ?_
  refine zb_Bne (tgt := 9) hx hb dX1_mayBoth_2 (by decide) (fun c_1 => ?_) (fun c_1 => ?_)
  · skip
    refine lv_iload_n hx hb dX1_mayBoth_9 rfl (lv_at hl 2 rfl) ?_
    refine zb_Bne (tgt := 17) hx hb dX1_mayBoth_10 (by decide) (fun c_2 => ?_) (fun c_2 => ?_)
    · skip
      refine lv_iconst (v := nI 0) hx hb dX1_mayBoth_17 (by decide) ?_
      refine zt_i (y := nI (cd2 a1 a2)) (congrArg nI (by simp [cd2, c_1, c_2])) ?_
      refine zp1 hx hb hw0 hown hK hP hnd hAd hS (by decide) rfl 10 (by decide) (hts (.fieldLink RX1 34 "WellFieldModel" "thrown" "I") (by decide +kernel)) rfl rfl (by decide +kernel) (Nat.le_of_ble_eq_true rfl) (wmE ad cI (M) (nI (cd2 a1 a2))) wmS_th dX1_mayBoth_18 (fun H locs hP hS => ?_)
      refine lv_aload_n hx hb dX1_mayBoth_21 rfl (lv_at hl 0 rfl) ?_
      refine zg1 hx hb hw0 hown hK hP (by decide) rfl 10 (by decide) (hts (.fieldLink RX1 34 "WellFieldModel" "thrown" "I") (by decide +kernel)) rfl rfl dX1_mayBoth_22 ?_
      refine zt_i (y := nI 0) (congrArg nI (by simp [cd2, c_1, c_2])) ?_
      refine zb_0ne (tgt := 32) hx hb (by omega) dX1_mayBoth_25 (by decide) (fun c_3 => ?_) (fun c_3 => ?_)
      · skip
        exact absurd c_3 (by omega)
      · skip
        refine lv_iconst (v := nI 1) hx hb dX1_mayBoth_28 (by decide) ?_
        refine lv_goto (tgt := 33) hx hb dX1_mayBoth_29 (by decide) ?_
        exact hret (b := true) (u := ()) (by simp [c_1, c_2]) rfl hS (fun t ht hA => ⟨va_K.moved hA hK, by rw [ht]; exact hP⟩) dX1_mayBoth_33
    · skip
      refine lv_iconst (v := nI 2) hx hb dX1_mayBoth_13 (by decide) ?_
      refine lv_goto (tgt := 18) hx hb dX1_mayBoth_14 (by decide) ?_
      refine zt_i (y := nI (cd2 a1 a2)) (congrArg nI (by simp [cd2, c_1, c_2])) ?_
      refine zp1 hx hb hw0 hown hK hP hnd hAd hS (by decide) rfl 10 (by decide) (hts (.fieldLink RX1 34 "WellFieldModel" "thrown" "I") (by decide +kernel)) rfl rfl (by decide +kernel) (Nat.le_of_ble_eq_true rfl) (wmE ad cI (M) (nI (cd2 a1 a2))) wmS_th dX1_mayBoth_18 (fun H locs hP hS => ?_)
      refine lv_aload_n hx hb dX1_mayBoth_21 rfl (lv_at hl 0 rfl) ?_
      refine zg1 hx hb hw0 hown hK hP (by decide) rfl 10 (by decide) (hts (.fieldLink RX1 34 "WellFieldModel" "thrown" "I") (by decide +kernel)) rfl rfl dX1_mayBoth_22 ?_
      refine zt_i (y := nI 2) (congrArg nI (by simp [cd2, c_1, c_2])) ?_
      refine zb_0ne (tgt := 32) hx hb (by omega) dX1_mayBoth_25 (by decide) (fun c_4 => ?_) (fun c_4 => ?_)
      · skip
        refine lv_iconst (v := nI 0) hx hb dX1_mayBoth_32 (by decide) ?_
        exact hret (b := false) (u := ()) (by simp [c_1, c_2]) rfl hS (fun t ht hA => ⟨va_K.moved hA hK, by rw [ht]; exact hP⟩) dX1_mayBoth_33
      · skip
        exact absurd c_4 (by omega)
  · skip
    refine lv_iconst (v := nI 1) hx hb dX1_mayBoth_5 (by decide) ?_
    refine lv_goto (tgt := 18) hx hb dX1_mayBoth_6 (by decide) ?_
    refine zt_i (y := nI (cd2 a1 a2)) (congrArg nI (by simp [cd2, c_1])) ?_
    refine zp1 hx hb hw0 hown hK hP hnd hAd hS (by decide) rfl 10 (by decide) (hts (.fieldLink RX1 34 "WellFieldModel" "thrown" "I") (by decide +kernel)) rfl rfl (by decide +kernel) (Nat.le_of_ble_eq_true rfl) (wmE ad cI (M) (nI (cd2 a1 a2))) wmS_th dX1_mayBoth_18 (fun H locs hP hS => ?_)
    refine lv_aload_n hx hb dX1_mayBoth_21 rfl (lv_at hl 0 rfl) ?_
    refine zg1 hx hb hw0 hown hK hP (by decide) rfl 10 (by decide) (hts (.fieldLink RX1 34 "WellFieldModel" "thrown" "I") (by decide +kernel)) rfl rfl dX1_mayBoth_22 ?_
    refine zt_i (y := nI 1) (congrArg nI (by simp [cd2, c_1])) ?_
    refine zb_0ne (tgt := 32) hx hb (by omega) dX1_mayBoth_25 (by decide) (fun c_5 => ?_) (fun c_5 => ?_)
    · skip
      refine lv_iconst (v := nI 0) hx hb dX1_mayBoth_32 (by decide) ?_
      exact hret (b := false) (u := ()) (by simp [c_1, c_5]) rfl hS (fun t ht hA => ⟨va_K.moved hA hK, by rw [ht]; exact hP⟩) dX1_mayBoth_33
    · skip
      exact absurd c_5 (by omega)
set_option maxHeartbeats 4000000 in
set_option maxRecDepth 100000 in
theorem c1_mayAll (l : Launch) {D : va_G} {ad : Nat → Nat} {cI : ClassId} {M : Mdl} {th : Int32} {sz : Nat} (hnd : ndz 9 ad) (a1 a2 a3 : Bool) : Met l yX1_mayAll wsX1_mayAll (rmP 0) (va_Pc [.ref (ad 0), .int (bB (a1)), .int (bB (a2)), .int (bB (a3))] (KP1S D ad cI M th sz)) (va_Qi (fun r_ (u_ : Unit) => ∃ b_ : Bool, r_ = bB b_ ∧ b_ = (a1 && a2 && a3)) (fun (u_ : Unit) t_ => KP1 D ad cI M (nI (cd3 a1 a2 a3)) t_) (azs 9 ad sz)) 0 0 (azs 9 ad sz) := by
  refine mk_Qz (S := Unit) (post := fun b_ u_ => b_ = (a1 && a2 && a3)) (BQ := fun u_ t_ => KP1 D ad cI M (nI (cd3 a1 a2 a3)) t_) (cc := cX1_mayAll) (maxL := 4) (by decide) rfl (Nat.le_of_ble_eq_true rfl) ?_
  intro p e s m args below meth c Q C0 B0 hret ls hl
  obtain ⟨hx, hb, hr, hml, hown, hts, hlocks⟩ := C0
  have hown : s.vm.findClass RX1 = some m.cls := hown
  obtain ⟨hsz, hK, hP⟩ := B0
  have hw0 : ∀ w ∈ wsX10, w.before args s = true := fun w h => hts w ((by decide +kernel : ∀ w ∈ wsX10, w ∈ wsX1_mayAll) w h)
  subst hsz
  have hAd : ∀ i, i < 9 → azs 9 ad s.heap.size (ad i) := fun i h => azs_i h
  have hS : va_S (azs 9 ad s.heap.size) s.heap s.heap [] := va_S.rf
  have hl : lv_has ls 4 [(0, .ref (ad 0)), (1, .int (bB (a1))), (2, .int (bB (a2))), (3, .int (bB (a3)))] := hl
  refine lv_aload_n hx hb dX1_mayAll_0 rfl (lv_at hl 0 rfl) ?_
  refine lv_iload_n hx hb dX1_mayAll_1 rfl (lv_at hl 1 rfl) ?_
  refine zb_Bne (tgt := 9) hx hb dX1_mayAll_2 (by decide) (fun c_1 => ?_) (fun c_1 => ?_)
  · skip
    refine lv_iload_n hx hb dX1_mayAll_9 rfl (lv_at hl 2 rfl) ?_
    refine zb_Bne (tgt := 17) hx hb dX1_mayAll_10 (by decide) (fun c_2 => ?_) (fun c_2 => ?_)
    · skip
      refine lv_iload_n hx hb dX1_mayAll_17 rfl (lv_at hl 3 rfl) ?_
      refine zb_Bne (tgt := 25) hx hb dX1_mayAll_18 (by decide) (fun c_3 => ?_) (fun c_3 => ?_)
      · skip
        refine lv_iconst (v := nI 0) hx hb dX1_mayAll_25 (by decide) ?_
        refine zt_i (y := nI (cd3 a1 a2 a3)) (congrArg nI (by simp [cd3, c_1, c_2, c_3])) ?_
        refine zp1 hx hb hw0 hown hK hP hnd hAd hS (by decide) rfl 10 (by decide) (hts (.fieldLink RX1 34 "WellFieldModel" "thrown" "I") (by decide +kernel)) rfl rfl (by decide +kernel) (Nat.le_of_ble_eq_true rfl) (wmE ad cI (M) (nI (cd3 a1 a2 a3))) wmS_th dX1_mayAll_26 (fun H locs hP hS => ?_)
        refine lv_aload_n hx hb dX1_mayAll_29 rfl (lv_at hl 0 rfl) ?_
        refine zg1 hx hb hw0 hown hK hP (by decide) rfl 10 (by decide) (hts (.fieldLink RX1 34 "WellFieldModel" "thrown" "I") (by decide +kernel)) rfl rfl dX1_mayAll_30 ?_
        refine zt_i (y := nI 0) (congrArg nI (by simp [cd3, c_1, c_2, c_3])) ?_
        refine zb_0ne (tgt := 40) hx hb (by omega) dX1_mayAll_33 (by decide) (fun c_4 => ?_) (fun c_4 => ?_)
        · skip
          exact absurd c_4 (by omega)
        · skip
          refine lv_iconst (v := nI 1) hx hb dX1_mayAll_36 (by decide) ?_
          refine lv_goto (tgt := 41) hx hb dX1_mayAll_37 (by decide) ?_
          exact hret (b := true) (u := ()) (by simp [c_1, c_2, c_3]) rfl hS (fun t ht hA => ⟨va_K.moved hA hK, by rw [ht]; exact hP⟩) dX1_mayAll_41
      · skip
        refine lv_iconst (v := nI 3) hx hb dX1_mayAll_21 (by decide) ?_
        refine lv_goto (tgt := 26) hx hb dX1_mayAll_22 (by decide) ?_
        refine zt_i (y := nI (cd3 a1 a2 a3)) (congrArg nI (by simp [cd3, c_1, c_2, c_3])) ?_
        refine zp1 hx hb hw0 hown hK hP hnd hAd hS (by decide) rfl 10 (by decide) (hts (.fieldLink RX1 34 "WellFieldModel" "thrown" "I") (by decide +kernel)) rfl rfl (by decide +kernel) (Nat.le_of_ble_eq_true rfl) (wmE ad cI (M) (nI (cd3 a1 a2 a3))) wmS_th dX1_mayAll_26 (fun H locs hP hS => ?_)
        refine lv_aload_n hx hb dX1_mayAll_29 rfl (lv_at hl 0 rfl) ?_
        refine zg1 hx hb hw0 hown hK hP (by decide) rfl 10 (by decide) (hts (.fieldLink RX1 34 "WellFieldModel" "thrown" "I") (by decide +kernel)) rfl rfl dX1_mayAll_30 ?_
        refine zt_i (y := nI 3) (congrArg nI (by simp [cd3, c_1, c_2, c_3])) ?_
        refine zb_0ne (tgt := 40) hx hb (by omega) dX1_mayAll_33 (by decide) (fun c_5 => ?_) (fun c_5 => ?_)
        · skip
          refine lv_iconst (v := nI 0) hx hb dX1_mayAll_40 (by decide) ?_
          exact hret (b := false) (u := ()) (by simp [c_1, c_2, c_3]) rfl hS (fun t ht hA => ⟨va_K.moved hA hK, by rw [ht]; exact hP⟩) dX1_mayAll_41
        · skip
          exact absurd c_5 (by omega)
    · skip
      refine lv_iconst (v := nI 2) hx hb dX1_mayAll_13 (by decide) ?_
      refine lv_goto (tgt := 26) hx hb dX1_mayAll_14 (by decide) ?_
      refine zt_i (y := nI (cd3 a1 a2 a3)) (congrArg nI (by simp [cd3, c_1, c_2])) ?_
      refine zp1 hx hb hw0 hown hK hP hnd hAd hS (by decide) rfl 10 (by decide) (hts (.fieldLink RX1 34 "WellFieldModel" "thrown" "I") (by decide +kernel)) rfl rfl (by decide +kernel) (Nat.le_of_ble_eq_true rfl) (wmE ad cI (M) (nI (cd3 a1 a2 a3))) wmS_th dX1_mayAll_26 (fun H locs hP hS => ?_)
      refine lv_aload_n hx hb dX1_mayAll_29 rfl (lv_at hl 0 rfl) ?_
      refine zg1 hx hb hw0 hown hK hP (by decide) rfl 10 (by decide) (hts (.fieldLink RX1 34 "WellFieldModel" "thrown" "I") (by decide +kernel)) rfl rfl dX1_mayAll_30 ?_
      refine zt_i (y := nI 2) (congrArg nI (by simp [cd3, c_1, c_2])) ?_
      refine zb_0ne (tgt := 40) hx hb (by omega) dX1_mayAll_33 (by decide) (fun c_6 => ?_) (fun c_6 => ?_)
      · skip
        refine lv_iconst (v := nI 0) hx hb dX1_mayAll_40 (by decide) ?_
        exact hret (b := false) (u := ()) (by simp [c_1, c_2, c_6]) rfl hS (fun t ht hA => ⟨va_K.moved hA hK, by rw [ht]; exact hP⟩) dX1_mayAll_41
      · skip
        exact absurd c_6 (by omega)
  · skip
    refine lv_iconst (v := nI 1) hx hb dX1_mayAll_5 (by decide) ?_
    refine lv_goto (tgt := 26) hx hb dX1_mayAll_6 (by decide) ?_
    refine zt_i (y := nI (cd3 a1 a2 a3)) (congrArg nI (by simp [cd3, c_1])) ?_
    refine zp1 hx hb hw0 hown hK hP hnd hAd hS (by decide) rfl 10 (by decide) (hts (.fieldLink RX1 34 "WellFieldModel" "thrown" "I") (by decide +kernel)) rfl rfl (by decide +kernel) (Nat.le_of_ble_eq_true rfl) (wmE ad cI (M) (nI (cd3 a1 a2 a3))) wmS_th dX1_mayAll_26 (fun H locs hP hS => ?_)
    refine lv_aload_n hx hb dX1_mayAll_29 rfl (lv_at hl 0 rfl) ?_
    refine zg1 hx hb hw0 hown hK hP (by decide) rfl 10 (by decide) (hts (.fieldLink RX1 34 "WellFieldModel" "thrown" "I") (by decide +kernel)) rfl rfl dX1_mayAll_30 ?_
    refine zt_i (y := nI 1) (congrArg nI (by simp [cd3, c_1])) ?_
    refine zb_0ne (tgt := 40) hx hb (by omega) dX1_mayAll_33 (by decide) (fun c_7 => ?_) (fun c_7 => ?_)
    · skip
      refine lv_iconst (v := nI 0) hx hb dX1_mayAll_40 (by decide) ?_
      exact hret (b := false) (u := ()) (by simp [c_1, c_7]) rfl hS (fun t ht hA => ⟨va_K.moved hA hK, by rw [ht]; exact hP⟩) dX1_mayAll_41
    · skip
      exact absurd c_7 (by omega)
set_option maxHeartbeats 4000000 in
set_option maxRecDepth 100000 in
theorem r0_wells (l : Launch) {D : va_G} {ad : Nat → Nat} {cI : ClassId} {M : Mdl} {th : Int32} {sz : Nat} (hnd : ndz 9 ad) : Met l yX1_wells wsX1_wells (rmP 0) (va_Pc [.ref (ad 0)] (KP1S D ad cI M th sz)) (va_Qi (fun r_ (u_ : Unit) => r_ = nI (M 0 0)) (fun (u_ : Unit) t_ => KP1 D ad cI M (nI (0)) t_) (azs 9 ad sz)) 0 0 (azs 9 ad sz) := by
  refine mk_Qi (S := Unit) (post := fun r_ u_ => r_ = nI (M 0 0)) (BQ := fun u_ t_ => KP1 D ad cI M (nI (0)) t_) (cc := cX1_wells) (maxL := 1) (by decide) rfl (Nat.le_of_ble_eq_true rfl) ?_
  intro p e s m args below meth c Q C0 B0 hret ls hl
  obtain ⟨hx, hb, hr, hml, hown, hts, hlocks⟩ := C0
  have hown : s.vm.findClass RX1 = some m.cls := hown
  obtain ⟨hsz, hK, hP⟩ := B0
  have hw0 : ∀ w ∈ wsX10, w.before args s = true := fun w h => hts w ((by decide +kernel : ∀ w ∈ wsX10, w ∈ wsX1_wells) w h)
  subst hsz
  have hAd : ∀ i, i < 9 → azs 9 ad s.heap.size (ad i) := fun i h => azs_i h
  have hS : va_S (azs 9 ad s.heap.size) s.heap s.heap [] := va_S.rf
  have hl : lv_has ls 1 [(0, .ref (ad 0))] := hl
  refine lv_aload_n hx hb dX1_wells_0 rfl (lv_at hl 0 rfl) ?_
  refine lv_iconst (v := nI 0) hx hb dX1_wells_1 (by decide) ?_
  refine zp1 hx hb hw0 hown hK hP hnd hAd hS (by decide) rfl 10 (by decide) (hts (.fieldLink RX1 34 "WellFieldModel" "thrown" "I") (by decide +kernel)) rfl rfl (by decide +kernel) (Nat.le_of_ble_eq_true rfl) (wmE ad cI (M) (nI (0))) wmS_th dX1_wells_2 (fun H locs hP hS => ?_)
  refine lv_aload_n hx hb dX1_wells_5 rfl (lv_at hl 0 rfl) ?_
  refine zg1 hx hb hw0 hown hK hP (by decide) rfl 0 (by decide) (hts (.fieldLink RX1 38 "WellFieldModel" "wells" "I") (by decide +kernel)) rfl rfl dX1_wells_6 ?_
  exact hret (u := ()) rfl hS (fun t ht hA => ⟨va_K.moved hA hK, by rw [ht]; exact hP⟩) dX1_wells_9
set_option maxHeartbeats 4000000 in
set_option maxRecDepth 100000 in
theorem r0_watches (l : Launch) {D : va_G} {ad : Nat → Nat} {cI : ClassId} {M : Mdl} {th : Int32} {sz : Nat} (hnd : ndz 9 ad) : Met l yX1_watches wsX1_watches (rmP 0) (va_Pc [.ref (ad 0)] (KP1S D ad cI M th sz)) (va_Qi (fun r_ (u_ : Unit) => r_ = nI (M 5 0)) (fun (u_ : Unit) t_ => KP1 D ad cI M (nI (0)) t_) (azs 9 ad sz)) 0 0 (azs 9 ad sz) := by
  refine mk_Qi (S := Unit) (post := fun r_ u_ => r_ = nI (M 5 0)) (BQ := fun u_ t_ => KP1 D ad cI M (nI (0)) t_) (cc := cX1_watches) (maxL := 1) (by decide) rfl (Nat.le_of_ble_eq_true rfl) ?_
  intro p e s m args below meth c Q C0 B0 hret ls hl
  obtain ⟨hx, hb, hr, hml, hown, hts, hlocks⟩ := C0
  have hown : s.vm.findClass RX1 = some m.cls := hown
  obtain ⟨hsz, hK, hP⟩ := B0
  have hw0 : ∀ w ∈ wsX10, w.before args s = true := fun w h => hts w ((by decide +kernel : ∀ w ∈ wsX10, w ∈ wsX1_watches) w h)
  subst hsz
  have hAd : ∀ i, i < 9 → azs 9 ad s.heap.size (ad i) := fun i h => azs_i h
  have hS : va_S (azs 9 ad s.heap.size) s.heap s.heap [] := va_S.rf
  have hl : lv_has ls 1 [(0, .ref (ad 0))] := hl
  refine lv_aload_n hx hb dX1_watches_0 rfl (lv_at hl 0 rfl) ?_
  refine lv_iconst (v := nI 0) hx hb dX1_watches_1 (by decide) ?_
  refine zp1 hx hb hw0 hown hK hP hnd hAd hS (by decide) rfl 10 (by decide) (hts (.fieldLink RX1 34 "WellFieldModel" "thrown" "I") (by decide +kernel)) rfl rfl (by decide +kernel) (Nat.le_of_ble_eq_true rfl) (wmE ad cI (M) (nI (0))) wmS_th dX1_watches_2 (fun H locs hP hS => ?_)
  refine lv_aload_n hx hb dX1_watches_5 rfl (lv_at hl 0 rfl) ?_
  refine zg1 hx hb hw0 hown hK hP (by decide) rfl 5 (by decide) (hts (.fieldLink RX1 45 "WellFieldModel" "watches" "I") (by decide +kernel)) rfl rfl dX1_watches_6 ?_
  exact hret (u := ()) rfl hS (fun t ht hA => ⟨va_K.moved hA hK, by rw [ht]; exact hP⟩) dX1_watches_9
