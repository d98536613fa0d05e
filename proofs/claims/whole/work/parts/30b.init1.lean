set_option maxHeartbeats 8000000 in
set_option maxRecDepth 100000 in
theorem c1_init (l : Launch) {D : va_G} {h0 sz : Nat} : Met l yX1_init wsX1_init ({ frames := 1, cells := 8, slots := 389, locals := 12 }) (va_Pc [.ref h0] (fun U => U.heap.size = sz ∧ va_P D vwCl [(h0, .inr (1, [.int 0, .null, .null, .null, .null, .int 0, .null, .null, .null, .null, .int 0]))] U.heap ∧ va_K D vwCl [] U ∧ h0 < sz)) (va_Qv (fun (u_ : (Nat → Nat) × ClassId) => u_.1 0 = h0 ∧ ndz 9 u_.1 ∧ ∀ i, i < 9 → aIn h0 sz (u_.1 i)) (fun (u_ : (Nat → Nat) × ClassId) t_ => KP1 D u_.1 u_.2 (rall 3) (nI 0) t_) (aIn h0 sz)) 8 389 (aIn h0 sz) := by
  refine mkI_Qv (S := (Nat → Nat) × ClassId) (post := fun u_ => u_.1 0 = h0 ∧ ndz 9 u_.1 ∧ ∀ i, i < 9 → aIn h0 sz (u_.1 i)) (BQ := fun u_ t_ => KP1 D u_.1 u_.2 (rall 3) (nI 0) t_) (cc := cX1_init) (maxL := 2) (by decide) rfl (Nat.le_of_ble_eq_true rfl) rfl ?_
  intro p e s m args below meth c Q C0 hin B0 hret ls hl
  obtain ⟨hx, hb, hr, hml, hown, hts, hlocks⟩ := C0
  have hown : s.vm.findClass RX1 = some m.cls := hown
  obtain ⟨hsz, hP, hK, hh0⟩ := B0
  subst hsz
  have hw0 : ∀ w ∈ wsX10, w.before args s = true := fun w h => hts w ((by decide +kernel : ∀ w ∈ wsX10, w ∈ wsX1_init) w h)
  have hA : ∀ q : Nat, s.heap.size ≤ q → aIn h0 s.heap.size q := fun q h => Or.inr h
  have hS : va_S (aIn h0 s.heap.size) s.heap s.heap [] := va_S.rf
  have hD : va_D (aIn h0 s.heap.size) [(h0, .inr (1, [.int 0, .null, .null, .null, .null, .int 0, .null, .null, .null, .null, .int 0]))] := ⟨fun i j p q hp hq _ => by have h1 := (List.getElem?_eq_some_iff.mp hp).1; have h2 := (List.getElem?_eq_some_iff.mp hq).1; simp at h1 h2; omega, fun k q hq => by have h1 := (List.getElem?_eq_some_iff.mp hq).1; have h2 : k = 0 := (by simp at h1; omega); subst h2; cases hq; exact Or.inl rfl⟩
  have hl : lv_has ls 2 [(0, .ref h0)] := hl
  have harr := hts (.arrayClass .int) (by decide +kernel)
  refine lv_aload_n hx hb dX1_init_0 rfl (lv_at hl 0 rfl) ?_
  refine W.objInit hx hb hown (hts (.methodLink RX1 1 objectInit) (by decide +kernel)) (hts (.instanceMethod objectInit) (by decide +kernel)) (hts (.code objectInit ⟨#[0xb1]⟩ 1 none) (by decide +kernel)) rfl (by rw [hml]; exact hl.1) rfl dX1_init_1 (Nat.le_of_ble_eq_true rfl) (Nat.le_of_ble_eq_true rfl) ?_
  refine W.eq (g2 := F0 m 4 ls []) rfl ?_
  refine lv_aload_n hx hb dX1_init_4 rfl (lv_at hl 0 rfl) ?_
  refine lv_bipush (v := nI 8) hx hb dX1_init_5 (by decide) ?_
  refine va_newa (atype := .int) (ty := .int) (a0 := (8, .inl (fun i => nI (Mz 1 i)))) hx hb harr rfl hK hP hD hS hA (fun _ => rfl) (nI_pos (by decide)) (nI_clamp (by decide)) (by decide) (by decide) (by decide) dX1_init_7 (fun q1 cA H hK hP hD hS => ?_)
  have hc_cI := (hK.2 0 _ rfl).2
  obtain ⟨cI, e_cI⟩ : ∃ cI, cI = cA := ⟨_, rfl⟩
  subst e_cI
  have hK : va_K D vwCl [(cI, .int)] s := hK
  have hP : va_P D vwCl ((h0, .inr (1, [.int 0, .null, .null, .null, .null, .int 0, .null, .null, .null, .null, .int 0])) :: ([] ++ [(q1, .inl (cI, (8, .inl (fun i => nI (Mz 1 i)))))])) H := hP
  have hD : va_D (aIn h0 s.heap.size) ((h0, .inr (1, [.int 0, .null, .null, .null, .null, .int 0, .null, .null, .null, .null, .int 0])) :: ([] ++ [(q1, .inl (cI, (8, .inl (fun i => nI (Mz 1 i)))))])) := hD
  refine va_putF (own := RX1) (ref := RX1) (ci := 1) (v := .ref q1) (ty := .array .int) (C := RX1) (T := TX1) (N := 11) hx hb (Ts := wsX10) hw0 (fun _ h => h) tyX1 tyX1_ok nmX1 hown hK hP hD hS 0 rfl rfl 1 (by decide) (hts (.fieldLink RX1 7 "WellFieldModel" "place" "[I") (by decide +kernel)) (fun _ h9 => h9) rfl hin rfl (by decide +kernel) rfl rfl (Nat.le_of_ble_eq_true rfl) dX1_init_9 (fun H locs hP hD hS => ?_)
  have hP : va_P D vwCl ((h0, .inr (1, [.int 0, .ref q1, .null, .null, .null, .int 0, .null, .null, .null, .null, .int 0])) :: ([] ++ [(q1, .inl (cI, (8, .inl (fun i => nI (Mz 1 i)))))])) H := hP
  have hD : va_D (aIn h0 s.heap.size) ((h0, .inr (1, [.int 0, .ref q1, .null, .null, .null, .int 0, .null, .null, .null, .null, .int 0])) :: ([] ++ [(q1, .inl (cI, (8, .inl (fun i => nI (Mz 1 i)))))])) := hD
  refine lv_aload_n hx hb dX1_init_12 rfl (lv_at hl 0 rfl) ?_
  refine lv_bipush (v := nI 8) hx hb dX1_init_13 (by decide) ?_
  refine va_newa (atype := .int) (ty := .int) (a0 := (8, .inl (fun i => nI (Mz 2 i)))) hx hb harr rfl hK hP hD hS hA (fun _ => rfl) (nI_pos (by decide)) (nI_clamp (by decide)) (by decide) (by decide) (by decide) dX1_init_15 (fun q2 cA H hK hP hD hS => ?_)
  have e9 : cI = cA := (Option.some.inj ((hK.2 1 _ rfl).2.symm.trans hc_cI)).symm
  subst e9
  have hK : va_K D vwCl [(cI, .int)] s := hK.sub [0] rfl
  have hP : va_P D vwCl ((h0, .inr (1, [.int 0, .ref q1, .null, .null, .null, .int 0, .null, .null, .null, .null, .int 0])) :: ([] ++ [(q1, .inl (cI, (8, .inl (fun i => nI (Mz 1 i)))))] ++ [(q2, .inl (cI, (8, .inl (fun i => nI (Mz 2 i)))))])) H := hP
  have hD : va_D (aIn h0 s.heap.size) ((h0, .inr (1, [.int 0, .ref q1, .null, .null, .null, .int 0, .null, .null, .null, .null, .int 0])) :: ([] ++ [(q1, .inl (cI, (8, .inl (fun i => nI (Mz 1 i)))))] ++ [(q2, .inl (cI, (8, .inl (fun i => nI (Mz 2 i)))))])) := hD
  refine va_putF (own := RX1) (ref := RX1) (ci := 1) (v := .ref q2) (ty := .array .int) (C := RX1) (T := TX1) (N := 11) hx hb (Ts := wsX10) hw0 (fun _ h => h) tyX1 tyX1_ok nmX1 hown hK hP hD hS 0 rfl rfl 2 (by decide) (hts (.fieldLink RX1 13 "WellFieldModel" "zone" "[I") (by decide +kernel)) (fun _ h9 => h9) rfl hin rfl (by decide +kernel) rfl rfl (Nat.le_of_ble_eq_true rfl) dX1_init_17 (fun H locs hP hD hS => ?_)
  have hP : va_P D vwCl ((h0, .inr (1, [.int 0, .ref q1, .ref q2, .null, .null, .int 0, .null, .null, .null, .null, .int 0])) :: ([] ++ [(q1, .inl (cI, (8, .inl (fun i => nI (Mz 1 i)))))] ++ [(q2, .inl (cI, (8, .inl (fun i => nI (Mz 2 i)))))])) H := hP
  have hD : va_D (aIn h0 s.heap.size) ((h0, .inr (1, [.int 0, .ref q1, .ref q2, .null, .null, .int 0, .null, .null, .null, .null, .int 0])) :: ([] ++ [(q1, .inl (cI, (8, .inl (fun i => nI (Mz 1 i)))))] ++ [(q2, .inl (cI, (8, .inl (fun i => nI (Mz 2 i)))))])) := hD
  refine lv_aload_n hx hb dX1_init_20 rfl (lv_at hl 0 rfl) ?_
  refine lv_bipush (v := nI 8) hx hb dX1_init_21 (by decide) ?_
  refine va_newa (atype := .int) (ty := .int) (a0 := (8, .inl (fun i => nI (Mz 3 i)))) hx hb harr rfl hK hP hD hS hA (fun _ => rfl) (nI_pos (by decide)) (nI_clamp (by decide)) (by decide) (by decide) (by decide) dX1_init_23 (fun q3 cA H hK hP hD hS => ?_)
  have e9 : cI = cA := (Option.some.inj ((hK.2 1 _ rfl).2.symm.trans hc_cI)).symm
  subst e9
  have hK : va_K D vwCl [(cI, .int)] s := hK.sub [0] rfl
  have hP : va_P D vwCl ((h0, .inr (1, [.int 0, .ref q1, .ref q2, .null, .null, .int 0, .null, .null, .null, .null, .int 0])) :: ([] ++ [(q1, .inl (cI, (8, .inl (fun i => nI (Mz 1 i)))))] ++ [(q2, .inl (cI, (8, .inl (fun i => nI (Mz 2 i)))))] ++ [(q3, .inl (cI, (8, .inl (fun i => nI (Mz 3 i)))))])) H := hP
  have hD : va_D (aIn h0 s.heap.size) ((h0, .inr (1, [.int 0, .ref q1, .ref q2, .null, .null, .int 0, .null, .null, .null, .null, .int 0])) :: ([] ++ [(q1, .inl (cI, (8, .inl (fun i => nI (Mz 1 i)))))] ++ [(q2, .inl (cI, (8, .inl (fun i => nI (Mz 2 i)))))] ++ [(q3, .inl (cI, (8, .inl (fun i => nI (Mz 3 i)))))])) := hD
  refine va_putF (own := RX1) (ref := RX1) (ci := 1) (v := .ref q3) (ty := .array .int) (C := RX1) (T := TX1) (N := 11) hx hb (Ts := wsX10) hw0 (fun _ h => h) tyX1 tyX1_ok nmX1 hown hK hP hD hS 0 rfl rfl 3 (by decide) (hts (.fieldLink RX1 16 "WellFieldModel" "licence" "[I") (by decide +kernel)) (fun _ h9 => h9) rfl hin rfl (by decide +kernel) rfl rfl (Nat.le_of_ble_eq_true rfl) dX1_init_25 (fun H locs hP hD hS => ?_)
  have hP : va_P D vwCl ((h0, .inr (1, [.int 0, .ref q1, .ref q2, .ref q3, .null, .int 0, .null, .null, .null, .null, .int 0])) :: ([] ++ [(q1, .inl (cI, (8, .inl (fun i => nI (Mz 1 i)))))] ++ [(q2, .inl (cI, (8, .inl (fun i => nI (Mz 2 i)))))] ++ [(q3, .inl (cI, (8, .inl (fun i => nI (Mz 3 i)))))])) H := hP
  have hD : va_D (aIn h0 s.heap.size) ((h0, .inr (1, [.int 0, .ref q1, .ref q2, .ref q3, .null, .int 0, .null, .null, .null, .null, .int 0])) :: ([] ++ [(q1, .inl (cI, (8, .inl (fun i => nI (Mz 1 i)))))] ++ [(q2, .inl (cI, (8, .inl (fun i => nI (Mz 2 i)))))] ++ [(q3, .inl (cI, (8, .inl (fun i => nI (Mz 3 i)))))])) := hD
  refine lv_aload_n hx hb dX1_init_28 rfl (lv_at hl 0 rfl) ?_
  refine lv_sipush (v := nI 288) hx hb dX1_init_29 (by decide) ?_
  refine va_newa (atype := .int) (ty := .int) (a0 := (288, .inl (fun i => nI (Mz (10 + 3 * (i / 36)) (i % 36))))) hx hb harr rfl hK hP hD hS hA (fun _ => rfl) (nI_pos (by decide)) (nI_clamp (by decide)) (by decide) (by decide) (by decide) dX1_init_32 (fun q4 cA H hK hP hD hS => ?_)
  have e9 : cI = cA := (Option.some.inj ((hK.2 1 _ rfl).2.symm.trans hc_cI)).symm
  subst e9
  have hK : va_K D vwCl [(cI, .int)] s := hK.sub [0] rfl
  have hP : va_P D vwCl ((h0, .inr (1, [.int 0, .ref q1, .ref q2, .ref q3, .null, .int 0, .null, .null, .null, .null, .int 0])) :: ([] ++ [(q1, .inl (cI, (8, .inl (fun i => nI (Mz 1 i)))))] ++ [(q2, .inl (cI, (8, .inl (fun i => nI (Mz 2 i)))))] ++ [(q3, .inl (cI, (8, .inl (fun i => nI (Mz 3 i)))))] ++ [(q4, .inl (cI, (288, .inl (fun i => nI (Mz (10 + 3 * (i / 36)) (i % 36))))))])) H := hP
  have hD : va_D (aIn h0 s.heap.size) ((h0, .inr (1, [.int 0, .ref q1, .ref q2, .ref q3, .null, .int 0, .null, .null, .null, .null, .int 0])) :: ([] ++ [(q1, .inl (cI, (8, .inl (fun i => nI (Mz 1 i)))))] ++ [(q2, .inl (cI, (8, .inl (fun i => nI (Mz 2 i)))))] ++ [(q3, .inl (cI, (8, .inl (fun i => nI (Mz 3 i)))))] ++ [(q4, .inl (cI, (288, .inl (fun i => nI (Mz (10 + 3 * (i / 36)) (i % 36))))))])) := hD
  refine va_putF (own := RX1) (ref := RX1) (ci := 1) (v := .ref q4) (ty := .array .int) (C := RX1) (T := TX1) (N := 11) hx hb (Ts := wsX10) hw0 (fun _ h => h) tyX1 tyX1_ok nmX1 hown hK hP hD hS 0 rfl rfl 4 (by decide) (hts (.fieldLink RX1 19 "WellFieldModel" "units" "[I") (by decide +kernel)) (fun _ h9 => h9) rfl hin rfl (by decide +kernel) rfl rfl (Nat.le_of_ble_eq_true rfl) dX1_init_34 (fun H locs hP hD hS => ?_)
  have hP : va_P D vwCl ((h0, .inr (1, [.int 0, .ref q1, .ref q2, .ref q3, .ref q4, .int 0, .null, .null, .null, .null, .int 0])) :: ([] ++ [(q1, .inl (cI, (8, .inl (fun i => nI (Mz 1 i)))))] ++ [(q2, .inl (cI, (8, .inl (fun i => nI (Mz 2 i)))))] ++ [(q3, .inl (cI, (8, .inl (fun i => nI (Mz 3 i)))))] ++ [(q4, .inl (cI, (288, .inl (fun i => nI (Mz (10 + 3 * (i / 36)) (i % 36))))))])) H := hP
  have hD : va_D (aIn h0 s.heap.size) ((h0, .inr (1, [.int 0, .ref q1, .ref q2, .ref q3, .ref q4, .int 0, .null, .null, .null, .null, .int 0])) :: ([] ++ [(q1, .inl (cI, (8, .inl (fun i => nI (Mz 1 i)))))] ++ [(q2, .inl (cI, (8, .inl (fun i => nI (Mz 2 i)))))] ++ [(q3, .inl (cI, (8, .inl (fun i => nI (Mz 3 i)))))] ++ [(q4, .inl (cI, (288, .inl (fun i => nI (Mz (10 + 3 * (i / 36)) (i % 36))))))])) := hD
  refine lv_aload_n hx hb dX1_init_37 rfl (lv_at hl 0 rfl) ?_
  refine lv_iconst (v := nI 4) hx hb dX1_init_38 (by decide) ?_
  refine va_newa (atype := .int) (ty := .int) (a0 := (4, .inl (fun i => nI (Mz 6 i)))) hx hb harr rfl hK hP hD hS hA (fun _ => rfl) (nI_pos (by decide)) (nI_clamp (by decide)) (by decide) (by decide) (by decide) dX1_init_39 (fun q5 cA H hK hP hD hS => ?_)
  have e9 : cI = cA := (Option.some.inj ((hK.2 1 _ rfl).2.symm.trans hc_cI)).symm
  subst e9
  have hK : va_K D vwCl [(cI, .int)] s := hK.sub [0] rfl
  have hP : va_P D vwCl ((h0, .inr (1, [.int 0, .ref q1, .ref q2, .ref q3, .ref q4, .int 0, .null, .null, .null, .null, .int 0])) :: ([] ++ [(q1, .inl (cI, (8, .inl (fun i => nI (Mz 1 i)))))] ++ [(q2, .inl (cI, (8, .inl (fun i => nI (Mz 2 i)))))] ++ [(q3, .inl (cI, (8, .inl (fun i => nI (Mz 3 i)))))] ++ [(q4, .inl (cI, (288, .inl (fun i => nI (Mz (10 + 3 * (i / 36)) (i % 36))))))] ++ [(q5, .inl (cI, (4, .inl (fun i => nI (Mz 6 i)))))])) H := hP
  have hD : va_D (aIn h0 s.heap.size) ((h0, .inr (1, [.int 0, .ref q1, .ref q2, .ref q3, .ref q4, .int 0, .null, .null, .null, .null, .int 0])) :: ([] ++ [(q1, .inl (cI, (8, .inl (fun i => nI (Mz 1 i)))))] ++ [(q2, .inl (cI, (8, .inl (fun i => nI (Mz 2 i)))))] ++ [(q3, .inl (cI, (8, .inl (fun i => nI (Mz 3 i)))))] ++ [(q4, .inl (cI, (288, .inl (fun i => nI (Mz (10 + 3 * (i / 36)) (i % 36))))))] ++ [(q5, .inl (cI, (4, .inl (fun i => nI (Mz 6 i)))))])) := hD
  refine va_putF (own := RX1) (ref := RX1) (ci := 1) (v := .ref q5) (ty := .array .int) (C := RX1) (T := TX1) (N := 11) hx hb (Ts := wsX10) hw0 (fun _ h => h) tyX1 tyX1_ok nmX1 hown hK hP hD hS 0 rfl rfl 6 (by decide) (hts (.fieldLink RX1 22 "WellFieldModel" "spot" "[I") (by decide +kernel)) (fun _ h9 => h9) rfl hin rfl (by decide +kernel) rfl rfl (Nat.le_of_ble_eq_true rfl) dX1_init_41 (fun H locs hP hD hS => ?_)
  have hP : va_P D vwCl ((h0, .inr (1, [.int 0, .ref q1, .ref q2, .ref q3, .ref q4, .int 0, .ref q5, .null, .null, .null, .int 0])) :: ([] ++ [(q1, .inl (cI, (8, .inl (fun i => nI (Mz 1 i)))))] ++ [(q2, .inl (cI, (8, .inl (fun i => nI (Mz 2 i)))))] ++ [(q3, .inl (cI, (8, .inl (fun i => nI (Mz 3 i)))))] ++ [(q4, .inl (cI, (288, .inl (fun i => nI (Mz (10 + 3 * (i / 36)) (i % 36))))))] ++ [(q5, .inl (cI, (4, .inl (fun i => nI (Mz 6 i)))))])) H := hP
  have hD : va_D (aIn h0 s.heap.size) ((h0, .inr (1, [.int 0, .ref q1, .ref q2, .ref q3, .ref q4, .int 0, .ref q5, .null, .null, .null, .int 0])) :: ([] ++ [(q1, .inl (cI, (8, .inl (fun i => nI (Mz 1 i)))))] ++ [(q2, .inl (cI, (8, .inl (fun i => nI (Mz 2 i)))))] ++ [(q3, .inl (cI, (8, .inl (fun i => nI (Mz 3 i)))))] ++ [(q4, .inl (cI, (288, .inl (fun i => nI (Mz (10 + 3 * (i / 36)) (i % 36))))))] ++ [(q5, .inl (cI, (4, .inl (fun i => nI (Mz 6 i)))))])) := hD
  refine lv_aload_n hx hb dX1_init_44 rfl (lv_at hl 0 rfl) ?_
  refine lv_iconst (v := nI 4) hx hb dX1_init_45 (by decide) ?_
  refine va_newa (atype := .int) (ty := .int) (a0 := (4, .inl (fun i => nI (Mz 7 i)))) hx hb harr rfl hK hP hD hS hA (fun _ => rfl) (nI_pos (by decide)) (nI_clamp (by decide)) (by decide) (by decide) (by decide) dX1_init_46 (fun q6 cA H hK hP hD hS => ?_)
  have e9 : cI = cA := (Option.some.inj ((hK.2 1 _ rfl).2.symm.trans hc_cI)).symm
  subst e9
  have hK : va_K D vwCl [(cI, .int)] s := hK.sub [0] rfl
  have hP : va_P D vwCl ((h0, .inr (1, [.int 0, .ref q1, .ref q2, .ref q3, .ref q4, .int 0, .ref q5, .null, .null, .null, .int 0])) :: ([] ++ [(q1, .inl (cI, (8, .inl (fun i => nI (Mz 1 i)))))] ++ [(q2, .inl (cI, (8, .inl (fun i => nI (Mz 2 i)))))] ++ [(q3, .inl (cI, (8, .inl (fun i => nI (Mz 3 i)))))] ++ [(q4, .inl (cI, (288, .inl (fun i => nI (Mz (10 + 3 * (i / 36)) (i % 36))))))] ++ [(q5, .inl (cI, (4, .inl (fun i => nI (Mz 6 i)))))] ++ [(q6, .inl (cI, (4, .inl (fun i => nI (Mz 7 i)))))])) H := hP
  have hD : va_D (aIn h0 s.heap.size) ((h0, .inr (1, [.int 0, .ref q1, .ref q2, .ref q3, .ref q4, .int 0, .ref q5, .null, .null, .null, .int 0])) :: ([] ++ [(q1, .inl (cI, (8, .inl (fun i => nI (Mz 1 i)))))] ++ [(q2, .inl (cI, (8, .inl (fun i => nI (Mz 2 i)))))] ++ [(q3, .inl (cI, (8, .inl (fun i => nI (Mz 3 i)))))] ++ [(q4, .inl (cI, (288, .inl (fun i => nI (Mz (10 + 3 * (i / 36)) (i % 36))))))] ++ [(q5, .inl (cI, (4, .inl (fun i => nI (Mz 6 i)))))] ++ [(q6, .inl (cI, (4, .inl (fun i => nI (Mz 7 i)))))])) := hD
  refine va_putF (own := RX1) (ref := RX1) (ci := 1) (v := .ref q6) (ty := .array .int) (C := RX1) (T := TX1) (N := 11) hx hb (Ts := wsX10) hw0 (fun _ h => h) tyX1 tyX1_ok nmX1 hown hK hP hD hS 0 rfl rfl 7 (by decide) (hts (.fieldLink RX1 25 "WellFieldModel" "limit" "[I") (by decide +kernel)) (fun _ h9 => h9) rfl hin rfl (by decide +kernel) rfl rfl (Nat.le_of_ble_eq_true rfl) dX1_init_48 (fun H locs hP hD hS => ?_)
  have hP : va_P D vwCl ((h0, .inr (1, [.int 0, .ref q1, .ref q2, .ref q3, .ref q4, .int 0, .ref q5, .ref q6, .null, .null, .int 0])) :: ([] ++ [(q1, .inl (cI, (8, .inl (fun i => nI (Mz 1 i)))))] ++ [(q2, .inl (cI, (8, .inl (fun i => nI (Mz 2 i)))))] ++ [(q3, .inl (cI, (8, .inl (fun i => nI (Mz 3 i)))))] ++ [(q4, .inl (cI, (288, .inl (fun i => nI (Mz (10 + 3 * (i / 36)) (i % 36))))))] ++ [(q5, .inl (cI, (4, .inl (fun i => nI (Mz 6 i)))))] ++ [(q6, .inl (cI, (4, .inl (fun i => nI (Mz 7 i)))))])) H := hP
  have hD : va_D (aIn h0 s.heap.size) ((h0, .inr (1, [.int 0, .ref q1, .ref q2, .ref q3, .ref q4, .int 0, .ref q5, .ref q6, .null, .null, .int 0])) :: ([] ++ [(q1, .inl (cI, (8, .inl (fun i => nI (Mz 1 i)))))] ++ [(q2, .inl (cI, (8, .inl (fun i => nI (Mz 2 i)))))] ++ [(q3, .inl (cI, (8, .inl (fun i => nI (Mz 3 i)))))] ++ [(q4, .inl (cI, (288, .inl (fun i => nI (Mz (10 + 3 * (i / 36)) (i % 36))))))] ++ [(q5, .inl (cI, (4, .inl (fun i => nI (Mz 6 i)))))] ++ [(q6, .inl (cI, (4, .inl (fun i => nI (Mz 7 i)))))])) := hD
  refine lv_aload_n hx hb dX1_init_51 rfl (lv_at hl 0 rfl) ?_
  refine lv_bipush (v := nI 60) hx hb dX1_init_52 (by decide) ?_
  refine va_newa (atype := .int) (ty := .int) (a0 := (60, .inl (fun i => nI (Mz (11 + 3 * (i / 12)) (i % 12))))) hx hb harr rfl hK hP hD hS hA (fun _ => rfl) (nI_pos (by decide)) (nI_clamp (by decide)) (by decide) (by decide) (by decide) dX1_init_54 (fun q7 cA H hK hP hD hS => ?_)
  have e9 : cI = cA := (Option.some.inj ((hK.2 1 _ rfl).2.symm.trans hc_cI)).symm
  subst e9
  have hK : va_K D vwCl [(cI, .int)] s := hK.sub [0] rfl
  have hP : va_P D vwCl ((h0, .inr (1, [.int 0, .ref q1, .ref q2, .ref q3, .ref q4, .int 0, .ref q5, .ref q6, .null, .null, .int 0])) :: ([] ++ [(q1, .inl (cI, (8, .inl (fun i => nI (Mz 1 i)))))] ++ [(q2, .inl (cI, (8, .inl (fun i => nI (Mz 2 i)))))] ++ [(q3, .inl (cI, (8, .inl (fun i => nI (Mz 3 i)))))] ++ [(q4, .inl (cI, (288, .inl (fun i => nI (Mz (10 + 3 * (i / 36)) (i % 36))))))] ++ [(q5, .inl (cI, (4, .inl (fun i => nI (Mz 6 i)))))] ++ [(q6, .inl (cI, (4, .inl (fun i => nI (Mz 7 i)))))] ++ [(q7, .inl (cI, (60, .inl (fun i => nI (Mz (11 + 3 * (i / 12)) (i % 12))))))])) H := hP
  have hD : va_D (aIn h0 s.heap.size) ((h0, .inr (1, [.int 0, .ref q1, .ref q2, .ref q3, .ref q4, .int 0, .ref q5, .ref q6, .null, .null, .int 0])) :: ([] ++ [(q1, .inl (cI, (8, .inl (fun i => nI (Mz 1 i)))))] ++ [(q2, .inl (cI, (8, .inl (fun i => nI (Mz 2 i)))))] ++ [(q3, .inl (cI, (8, .inl (fun i => nI (Mz 3 i)))))] ++ [(q4, .inl (cI, (288, .inl (fun i => nI (Mz (10 + 3 * (i / 36)) (i % 36))))))] ++ [(q5, .inl (cI, (4, .inl (fun i => nI (Mz 6 i)))))] ++ [(q6, .inl (cI, (4, .inl (fun i => nI (Mz 7 i)))))] ++ [(q7, .inl (cI, (60, .inl (fun i => nI (Mz (11 + 3 * (i / 12)) (i % 12))))))])) := hD
  refine va_putF (own := RX1) (ref := RX1) (ci := 1) (v := .ref q7) (ty := .array .int) (C := RX1) (T := TX1) (N := 11) hx hb (Ts := wsX10) hw0 (fun _ h => h) tyX1 tyX1_ok nmX1 hown hK hP hD hS 0 rfl rfl 8 (by decide) (hts (.fieldLink RX1 28 "WellFieldModel" "table" "[I") (by decide +kernel)) (fun _ h9 => h9) rfl hin rfl (by decide +kernel) rfl rfl (Nat.le_of_ble_eq_true rfl) dX1_init_56 (fun H locs hP hD hS => ?_)
  have hP : va_P D vwCl ((h0, .inr (1, [.int 0, .ref q1, .ref q2, .ref q3, .ref q4, .int 0, .ref q5, .ref q6, .ref q7, .null, .int 0])) :: ([] ++ [(q1, .inl (cI, (8, .inl (fun i => nI (Mz 1 i)))))] ++ [(q2, .inl (cI, (8, .inl (fun i => nI (Mz 2 i)))))] ++ [(q3, .inl (cI, (8, .inl (fun i => nI (Mz 3 i)))))] ++ [(q4, .inl (cI, (288, .inl (fun i => nI (Mz (10 + 3 * (i / 36)) (i % 36))))))] ++ [(q5, .inl (cI, (4, .inl (fun i => nI (Mz 6 i)))))] ++ [(q6, .inl (cI, (4, .inl (fun i => nI (Mz 7 i)))))] ++ [(q7, .inl (cI, (60, .inl (fun i => nI (Mz (11 + 3 * (i / 12)) (i % 12))))))])) H := hP
  have hD : va_D (aIn h0 s.heap.size) ((h0, .inr (1, [.int 0, .ref q1, .ref q2, .ref q3, .ref q4, .int 0, .ref q5, .ref q6, .ref q7, .null, .int 0])) :: ([] ++ [(q1, .inl (cI, (8, .inl (fun i => nI (Mz 1 i)))))] ++ [(q2, .inl (cI, (8, .inl (fun i => nI (Mz 2 i)))))] ++ [(q3, .inl (cI, (8, .inl (fun i => nI (Mz 3 i)))))] ++ [(q4, .inl (cI, (288, .inl (fun i => nI (Mz (10 + 3 * (i / 36)) (i % 36))))))] ++ [(q5, .inl (cI, (4, .inl (fun i => nI (Mz 6 i)))))] ++ [(q6, .inl (cI, (4, .inl (fun i => nI (Mz 7 i)))))] ++ [(q7, .inl (cI, (60, .inl (fun i => nI (Mz (11 + 3 * (i / 12)) (i % 12))))))])) := hD
  refine lv_aload_n hx hb dX1_init_59 rfl (lv_at hl 0 rfl) ?_
  refine lv_bipush (v := nI 9) hx hb dX1_init_60 (by decide) ?_
  refine va_newa (atype := .int) (ty := .int) (a0 := (9, .inl (fun i => nI (Mz (12 + 3 * (i / 3)) (i % 3))))) hx hb harr rfl hK hP hD hS hA (fun _ => rfl) (nI_pos (by decide)) (nI_clamp (by decide)) (by decide) (by decide) (by decide) dX1_init_62 (fun q8 cA H hK hP hD hS => ?_)
  have e9 : cI = cA := (Option.some.inj ((hK.2 1 _ rfl).2.symm.trans hc_cI)).symm
  subst e9
  have hK : va_K D vwCl [(cI, .int)] s := hK.sub [0] rfl
  have hP : va_P D vwCl ((h0, .inr (1, [.int 0, .ref q1, .ref q2, .ref q3, .ref q4, .int 0, .ref q5, .ref q6, .ref q7, .null, .int 0])) :: ([] ++ [(q1, .inl (cI, (8, .inl (fun i => nI (Mz 1 i)))))] ++ [(q2, .inl (cI, (8, .inl (fun i => nI (Mz 2 i)))))] ++ [(q3, .inl (cI, (8, .inl (fun i => nI (Mz 3 i)))))] ++ [(q4, .inl (cI, (288, .inl (fun i => nI (Mz (10 + 3 * (i / 36)) (i % 36))))))] ++ [(q5, .inl (cI, (4, .inl (fun i => nI (Mz 6 i)))))] ++ [(q6, .inl (cI, (4, .inl (fun i => nI (Mz 7 i)))))] ++ [(q7, .inl (cI, (60, .inl (fun i => nI (Mz (11 + 3 * (i / 12)) (i % 12))))))] ++ [(q8, .inl (cI, (9, .inl (fun i => nI (Mz (12 + 3 * (i / 3)) (i % 3))))))])) H := hP
  have hD : va_D (aIn h0 s.heap.size) ((h0, .inr (1, [.int 0, .ref q1, .ref q2, .ref q3, .ref q4, .int 0, .ref q5, .ref q6, .ref q7, .null, .int 0])) :: ([] ++ [(q1, .inl (cI, (8, .inl (fun i => nI (Mz 1 i)))))] ++ [(q2, .inl (cI, (8, .inl (fun i => nI (Mz 2 i)))))] ++ [(q3, .inl (cI, (8, .inl (fun i => nI (Mz 3 i)))))] ++ [(q4, .inl (cI, (288, .inl (fun i => nI (Mz (10 + 3 * (i / 36)) (i % 36))))))] ++ [(q5, .inl (cI, (4, .inl (fun i => nI (Mz 6 i)))))] ++ [(q6, .inl (cI, (4, .inl (fun i => nI (Mz 7 i)))))] ++ [(q7, .inl (cI, (60, .inl (fun i => nI (Mz (11 + 3 * (i / 12)) (i % 12))))))] ++ [(q8, .inl (cI, (9, .inl (fun i => nI (Mz (12 + 3 * (i / 3)) (i % 3))))))])) := hD
  refine va_putF (own := RX1) (ref := RX1) (ci := 1) (v := .ref q8) (ty := .array .int) (C := RX1) (T := TX1) (N := 11) hx hb (Ts := wsX10) hw0 (fun _ h => h) tyX1 tyX1_ok nmX1 hown hK hP hD hS 0 rfl rfl 9 (by decide) (hts (.fieldLink RX1 31 "WellFieldModel" "ratio" "[I") (by decide +kernel)) (fun _ h9 => h9) rfl hin rfl (by decide +kernel) rfl rfl (Nat.le_of_ble_eq_true rfl) dX1_init_64 (fun H locs hP hD hS => ?_)
  have hP : va_P D vwCl ((h0, .inr (1, [.int 0, .ref q1, .ref q2, .ref q3, .ref q4, .int 0, .ref q5, .ref q6, .ref q7, .ref q8, .int 0])) :: ([] ++ [(q1, .inl (cI, (8, .inl (fun i => nI (Mz 1 i)))))] ++ [(q2, .inl (cI, (8, .inl (fun i => nI (Mz 2 i)))))] ++ [(q3, .inl (cI, (8, .inl (fun i => nI (Mz 3 i)))))] ++ [(q4, .inl (cI, (288, .inl (fun i => nI (Mz (10 + 3 * (i / 36)) (i % 36))))))] ++ [(q5, .inl (cI, (4, .inl (fun i => nI (Mz 6 i)))))] ++ [(q6, .inl (cI, (4, .inl (fun i => nI (Mz 7 i)))))] ++ [(q7, .inl (cI, (60, .inl (fun i => nI (Mz (11 + 3 * (i / 12)) (i % 12))))))] ++ [(q8, .inl (cI, (9, .inl (fun i => nI (Mz (12 + 3 * (i / 3)) (i % 3))))))])) H := hP
  have hD : va_D (aIn h0 s.heap.size) ((h0, .inr (1, [.int 0, .ref q1, .ref q2, .ref q3, .ref q4, .int 0, .ref q5, .ref q6, .ref q7, .ref q8, .int 0])) :: ([] ++ [(q1, .inl (cI, (8, .inl (fun i => nI (Mz 1 i)))))] ++ [(q2, .inl (cI, (8, .inl (fun i => nI (Mz 2 i)))))] ++ [(q3, .inl (cI, (8, .inl (fun i => nI (Mz 3 i)))))] ++ [(q4, .inl (cI, (288, .inl (fun i => nI (Mz (10 + 3 * (i / 36)) (i % 36))))))] ++ [(q5, .inl (cI, (4, .inl (fun i => nI (Mz 6 i)))))] ++ [(q6, .inl (cI, (4, .inl (fun i => nI (Mz 7 i)))))] ++ [(q7, .inl (cI, (60, .inl (fun i => nI (Mz (11 + 3 * (i / 12)) (i % 12))))))] ++ [(q8, .inl (cI, (9, .inl (fun i => nI (Mz (12 + 3 * (i / 3)) (i % 3))))))])) := hD
  refine W.widen (k := 8) (n := 389) (by decide) (by decide) ?_
  obtain ⟨ad, had⟩ : ∃ ad : Nat → Nat, ad = fun k => ([h0, q1, q2, q3, q4, q5, q6, q7, q8] : List Nat).getD k 0 := ⟨_, rfl⟩
  have hpos : ∀ k, k < 9 → ∃ e9, (((h0, .inr (1, [.int 0, .ref q1, .ref q2, .ref q3, .ref q4, .int 0, .ref q5, .ref q6, .ref q7, .ref q8, .int 0])) :: ([] ++ [(q1, .inl (cI, (8, .inl (fun i => nI (Mz 1 i)))))] ++ [(q2, .inl (cI, (8, .inl (fun i => nI (Mz 2 i)))))] ++ [(q3, .inl (cI, (8, .inl (fun i => nI (Mz 3 i)))))] ++ [(q4, .inl (cI, (288, .inl (fun i => nI (Mz (10 + 3 * (i / 36)) (i % 36))))))] ++ [(q5, .inl (cI, (4, .inl (fun i => nI (Mz 6 i)))))] ++ [(q6, .inl (cI, (4, .inl (fun i => nI (Mz 7 i)))))] ++ [(q7, .inl (cI, (60, .inl (fun i => nI (Mz (11 + 3 * (i / 12)) (i % 12))))))] ++ [(q8, .inl (cI, (9, .inl (fun i => nI (Mz (12 + 3 * (i / 3)) (i % 3))))))])) : va_W)[([0, 1, 2, 3, 4, 5, 6, 7, 8] : List Nat).getD k 0]? = some (ad k, e9) := by
    intro k hk
    subst had
    exact match k, hk with
    | 0, _ => ⟨_, rfl⟩
    | 1, _ => ⟨_, rfl⟩
    | 2, _ => ⟨_, rfl⟩
    | 3, _ => ⟨_, rfl⟩
    | 4, _ => ⟨_, rfl⟩
    | 5, _ => ⟨_, rfl⟩
    | 6, _ => ⟨_, rfl⟩
    | 7, _ => ⟨_, rfl⟩
    | 8, _ => ⟨_, rfl⟩
    | n + 9, h => absurd h (by omega)
  have hpi : ∀ i, i < 9 → ∀ j, j < 9 → ([0, 1, 2, 3, 4, 5, 6, 7, 8] : List Nat).getD i 0 = ([0, 1, 2, 3, 4, 5, 6, 7, 8] : List Nat).getD j 0 → i = j := by decide +kernel
  have hnd : ndz 9 ad := fun i j hi hj h => by
    obtain ⟨e1, h1⟩ := hpos i hi
    obtain ⟨e2, h2⟩ := hpos j hj
    exact hpi i hi j hj (hD.1 _ _ _ _ h1 h2 h)
  have hAd : ∀ i, i < 9 → aIn h0 s.heap.size (ad i) := fun i hi => by
    obtain ⟨e1, h1⟩ := hpos i hi
    exact hD.2 _ _ h1
  have had0 : ad 0 = h0 := by rw [had]; rfl
  have hP9 : va_P D vwCl (wz 9 ad (wmE ad cI Mz (nI 0))) H := by
    intro k q hk
    obtain ⟨hk1, rfl⟩ := wz_inv hk
    subst had
    exact match k, hk1 with
    | 0, _ => hP 0 _ rfl
    | 1, _ => hP 1 _ rfl
    | 2, _ => hP 2 _ rfl
    | 3, _ => hP 3 _ rfl
    | 4, _ => hP 4 _ rfl
    | 5, _ => hP 5 _ rfl
    | 6, _ => hP 6 _ rfl
    | 7, _ => hP 7 _ rfl
    | 8, _ => hP 8 _ rfl
    | n + 9, h => absurd h (by omega)
  clear hP hpos hpi
  have hP := hP9
  have hK : va_K D vwCl [(cI, .int)] s := hK
  rw [← had0] at hl
  refine lv_iconst (v := nI 0) hx hb dX1_init_67 (by decide) ?_
  refine lv_istore_n (lv' := [(1, .int (nI (0))), (0, .ref (ad 0))]) hx hb dX1_init_68 rfl hl (by decide) rfl (fun ls hl => ?_)
  have lp69 : ∀ (n k : Nat), k ≤ 9 → 9 - k < n → ∀ (H : Heap) (locs : List Loc), va_P D vwCl (wz 9 ad (wmE ad cI (rflat (k)) (nI 0))) H → va_S (aIn h0 s.heap.size) s.heap H locs → ∀ ls : Array Slot, lv_has ls 2 [(0, .ref (ad 0)), (1, .int (nI (k)))] → W p l e ({ frames := 1, cells := 8, slots := 389, locals := 12 }) s m args below meth c H locs 8 389 Q (F0 m 69 ls []) := by
    intro n
    induction n with
    | zero => intro k q1 q2; omega
    | succ n ih69 =>
      intro k q1_69 q2_69 H locs hP hS ls hl
      refine lv_iload_n hx hb dX1_init_69 rfl (lv_at hl 1 rfl) ?_
      refine lv_bipush (v := nI 9) hx hb dX1_init_70 (by decide) ?_
      refine zb_ge (tgt := 89) hx hb (by omega) (by omega) dX1_init_72 (by decide) (fun c_1 => ?_) (fun c_1 => ?_)
      · skip
        have q_2 : k = 9 := by omega
        subst q_2
        exact hret (u := (ad, cI)) (by decide) (by decide) ⟨had0, hnd, hAd⟩ hS (fun t ht hA => ⟨va_K.moved hA hK, by rw [ht]; exact hP⟩) dX1_init_89
      · skip
        refine lv_aload_n hx hb dX1_init_75 rfl (lv_at hl 0 rfl) ?_
        refine zg1 hx hb hw0 hown hK hP (by decide) rfl 9 (by decide) (hts (.fieldLink RX1 31 "WellFieldModel" "ratio" "[I") (by decide +kernel)) rfl rfl dX1_init_76 ?_
        refine lv_iload_n hx hb dX1_init_79 rfl (lv_at hl 1 rfl) ?_
        refine lv_bipush (v := nI 100) hx hb dX1_init_80 (by decide) ?_
        have e82 : k = 3 * (k / 3) + k % 3 := by omega
        refine W.eq (g2 := F0 m 82 ls [.int (nI (100)), .int (nI (3 * (k / 3) + k % 3)), .ref (ad 8)]) (by rw [← e82]) ?_
        refine zi_st hx hb hK hP hnd hAd hS 8 (by decide) 0 rfl rfl (by decide) (i := 3 * (k / 3) + k % 3) (by omega) (wmE ad cI (mup (rflat (k)) (12 + 3 * (k / 3)) (k % 3) (100)) (nI 0)) (wmS_ra (by omega) (by omega)) dX1_init_82 (fun H locs hP hS => ?_)
        refine lv_iinc (v := nI (k + 1)) (lv' := [(1, .int (nI (k + 1))), (0, .ref (ad 0))]) hx hb dX1_init_83 hl (k := 1) rfl (zn_inc (k)) (by decide) rfl (fun ls hl => ?_)
        refine lv_goto (tgt := 69) hx hb dX1_init_86 (by decide) ?_
        exact ih69 (k + 1) (by omega) (by omega) _ _ hP hS _ (lv_sub hl [1, 0] rfl)
  exact lp69 (9 - (0) + 1) (0) (by omega) (by omega) _ _ hP hS _ (lv_sub hl [1, 0] rfl)
