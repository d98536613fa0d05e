set_option maxHeartbeats 8000000 in
set_option maxRecDepth 100000 in
theorem c0_init (l : Launch) {D : va_G} {h0 sz : Nat} : Met l yX0_init wsX0_init ({ frames := 1, cells := 26, slots := 446, locals := 12 }) (va_Pc [.ref h0] (fun U => U.heap.size = sz ∧ va_P D vwCl [(h0, .inr (0, [.null, .null, .null, .null, .null, .null, .null, .null, .null, .null, .int 0, .int 0]))] U.heap ∧ va_K D vwCl [] U ∧ va_AOA .int U ∧ h0 < sz)) (va_Qv (fun (u_ : (Nat → Nat) × ClassId × ClassId × ClassId) => u_.1 0 = h0 ∧ ndz 27 u_.1 ∧ ∀ i, i < 27 → aIn h0 sz (u_.1 i)) (fun (u_ : (Nat → Nat) × ClassId × ClassId × ClassId) t_ => KP0 D u_.1 u_.2.1 u_.2.2.1 u_.2.2.2 (rall 3) (fun _ => 0) (fun _ => lN 0) t_) (aIn h0 sz)) 26 446 (aIn h0 sz) := by
  refine mkI_Qv (S := (Nat → Nat) × ClassId × ClassId × ClassId) (post := fun u_ => u_.1 0 = h0 ∧ ndz 27 u_.1 ∧ ∀ i, i < 27 → aIn h0 sz (u_.1 i)) (BQ := fun u_ t_ => KP0 D u_.1 u_.2.1 u_.2.2.1 u_.2.2.2 (rall 3) (fun _ => 0) (fun _ => lN 0) t_) (cc := cX0_init) (maxL := 3) (by decide) rfl (Nat.le_of_ble_eq_true rfl) rfl ?_
  intro p e s m args below meth c Q C0 hin B0 hret ls hl
  obtain ⟨hx, hb, hr, hml, hown, hts, hlocks⟩ := C0
  have hown : s.vm.findClass RX0 = some m.cls := hown
  obtain ⟨hsz, hP, hK, hAO, hh0⟩ := B0
  subst hsz
  have hw0 : ∀ w ∈ wsX00, w.before args s = true := fun w h => hts w ((by decide +kernel : ∀ w ∈ wsX00, w ∈ wsX0_init) w h)
  have hA : ∀ q : Nat, s.heap.size ≤ q → aIn h0 s.heap.size q := fun q h => Or.inr h
  have hS : va_S (aIn h0 s.heap.size) s.heap s.heap [] := va_S.rf
  have hD : va_D (aIn h0 s.heap.size) [(h0, .inr (0, [.null, .null, .null, .null, .null, .null, .null, .null, .null, .null, .int 0, .int 0]))] := ⟨fun i j p q hp hq _ => by have h1 := (List.getElem?_eq_some_iff.mp hp).1; have h2 := (List.getElem?_eq_some_iff.mp hq).1; simp at h1 h2; omega, fun k q hq => by have h1 := (List.getElem?_eq_some_iff.mp hq).1; have h2 : k = 0 := (by simp at h1; omega); subst h2; cases hq; exact Or.inl rfl⟩
  have hl : lv_has ls 3 [(0, .ref h0)] := hl
  have harr := hts (.arrayClass .int) (by decide +kernel)
  refine lv_aload_n hx hb dX0_init_0 rfl (lv_at hl 0 rfl) ?_
  refine W.objInit hx hb hown (hts (.methodLink RX0 1 objectInit) (by decide +kernel)) (hts (.instanceMethod objectInit) (by decide +kernel)) (hts (.code objectInit ⟨#[0xb1]⟩ 1 none) (by decide +kernel)) rfl (by rw [hml]; exact hl.1) rfl dX0_init_1 (Nat.le_of_ble_eq_true rfl) (Nat.le_of_ble_eq_true rfl) ?_
  refine W.eq (g2 := F0 m 4 ls []) rfl ?_
  refine lv_aload_n hx hb dX0_init_4 rfl (lv_at hl 0 rfl) ?_
  refine lv_bipush (v := nI 8) hx hb dX0_init_5 (by decide) ?_
  refine va_newa (atype := .int) (ty := .int) (a0 := (8, .inl (fun i => nI (Mz 1 i)))) hx hb harr rfl hK hP hD hS hA (fun _ => rfl) (nI_pos (by decide)) (nI_clamp (by decide)) (by decide) (by decide) (by decide) dX0_init_7 (fun q1 cA H hK hP hD hS => ?_)
  have hc_cI := (hK.2 0 _ rfl).2
  obtain ⟨cI, e_cI⟩ : ∃ cI, cI = cA := ⟨_, rfl⟩
  subst e_cI
  have hK : va_K D vwCl [(cI, .int)] s := hK
  have hP : va_P D vwCl ((h0, .inr (0, [.null, .null, .null, .null, .null, .null, .null, .null, .null, .null, .int 0, .int 0])) :: ([] ++ [(q1, .inl (cI, (8, .inl (fun i => nI (Mz 1 i)))))])) H := hP
  have hD : va_D (aIn h0 s.heap.size) ((h0, .inr (0, [.null, .null, .null, .null, .null, .null, .null, .null, .null, .null, .int 0, .int 0])) :: ([] ++ [(q1, .inl (cI, (8, .inl (fun i => nI (Mz 1 i)))))])) := hD
  refine va_putF (own := RX0) (ref := RX0) (ci := 0) (v := .ref q1) (ty := .array .int) (C := RX0) (T := TX0) (N := 12) hx hb (Ts := wsX00) hw0 (fun _ h => h) tyX0 tyX0_ok nmX0 hown hK hP hD hS 0 rfl rfl 0 (by decide) (hts (.fieldLink RX0 9 "WellField" "wellPlaces" "[I") (by decide +kernel)) (fun _ h9 => h9) rfl hin rfl (by decide +kernel) rfl rfl (Nat.le_of_ble_eq_true rfl) dX0_init_9 (fun H locs hP hD hS => ?_)
  have hP : va_P D vwCl ((h0, .inr (0, [.ref q1, .null, .null, .null, .null, .null, .null, .null, .null, .null, .int 0, .int 0])) :: ([] ++ [(q1, .inl (cI, (8, .inl (fun i => nI (Mz 1 i)))))])) H := hP
  have hD : va_D (aIn h0 s.heap.size) ((h0, .inr (0, [.ref q1, .null, .null, .null, .null, .null, .null, .null, .null, .null, .int 0, .int 0])) :: ([] ++ [(q1, .inl (cI, (8, .inl (fun i => nI (Mz 1 i)))))])) := hD
  refine lv_aload_n hx hb dX0_init_12 rfl (lv_at hl 0 rfl) ?_
  refine lv_bipush (v := nI 8) hx hb dX0_init_13 (by decide) ?_
  refine va_newa (atype := .int) (ty := .int) (a0 := (8, .inl (fun i => nI (Mz 2 i)))) hx hb harr rfl hK hP hD hS hA (fun _ => rfl) (nI_pos (by decide)) (nI_clamp (by decide)) (by decide) (by decide) (by decide) dX0_init_15 (fun q2 cA H hK hP hD hS => ?_)
  have e9 : cI = cA := (Option.some.inj ((hK.2 1 _ rfl).2.symm.trans hc_cI)).symm
  subst e9
  have hK : va_K D vwCl [(cI, .int)] s := hK.sub [0] rfl
  have hP : va_P D vwCl ((h0, .inr (0, [.ref q1, .null, .null, .null, .null, .null, .null, .null, .null, .null, .int 0, .int 0])) :: ([] ++ [(q1, .inl (cI, (8, .inl (fun i => nI (Mz 1 i)))))] ++ [(q2, .inl (cI, (8, .inl (fun i => nI (Mz 2 i)))))])) H := hP
  have hD : va_D (aIn h0 s.heap.size) ((h0, .inr (0, [.ref q1, .null, .null, .null, .null, .null, .null, .null, .null, .null, .int 0, .int 0])) :: ([] ++ [(q1, .inl (cI, (8, .inl (fun i => nI (Mz 1 i)))))] ++ [(q2, .inl (cI, (8, .inl (fun i => nI (Mz 2 i)))))])) := hD
  refine va_putF (own := RX0) (ref := RX0) (ci := 0) (v := .ref q2) (ty := .array .int) (C := RX0) (T := TX0) (N := 12) hx hb (Ts := wsX00) hw0 (fun _ h => h) tyX0 tyX0_ok nmX0 hown hK hP hD hS 0 rfl rfl 1 (by decide) (hts (.fieldLink RX0 13 "WellField" "wellZones" "[I") (by decide +kernel)) (fun _ h9 => h9) rfl hin rfl (by decide +kernel) rfl rfl (Nat.le_of_ble_eq_true rfl) dX0_init_17 (fun H locs hP hD hS => ?_)
  have hP : va_P D vwCl ((h0, .inr (0, [.ref q1, .ref q2, .null, .null, .null, .null, .null, .null, .null, .null, .int 0, .int 0])) :: ([] ++ [(q1, .inl (cI, (8, .inl (fun i => nI (Mz 1 i)))))] ++ [(q2, .inl (cI, (8, .inl (fun i => nI (Mz 2 i)))))])) H := hP
  have hD : va_D (aIn h0 s.heap.size) ((h0, .inr (0, [.ref q1, .ref q2, .null, .null, .null, .null, .null, .null, .null, .null, .int 0, .int 0])) :: ([] ++ [(q1, .inl (cI, (8, .inl (fun i => nI (Mz 1 i)))))] ++ [(q2, .inl (cI, (8, .inl (fun i => nI (Mz 2 i)))))])) := hD
  refine lv_aload_n hx hb dX0_init_20 rfl (lv_at hl 0 rfl) ?_
  refine lv_bipush (v := nI 8) hx hb dX0_init_21 (by decide) ?_
  refine va_newa (atype := .int) (ty := .int) (a0 := (8, .inl (fun i => nI (Mz 3 i)))) hx hb harr rfl hK hP hD hS hA (fun _ => rfl) (nI_pos (by decide)) (nI_clamp (by decide)) (by decide) (by decide) (by decide) dX0_init_23 (fun q3 cA H hK hP hD hS => ?_)
  have e9 : cI = cA := (Option.some.inj ((hK.2 1 _ rfl).2.symm.trans hc_cI)).symm
  subst e9
  have hK : va_K D vwCl [(cI, .int)] s := hK.sub [0] rfl
  have hP : va_P D vwCl ((h0, .inr (0, [.ref q1, .ref q2, .null, .null, .null, .null, .null, .null, .null, .null, .int 0, .int 0])) :: ([] ++ [(q1, .inl (cI, (8, .inl (fun i => nI (Mz 1 i)))))] ++ [(q2, .inl (cI, (8, .inl (fun i => nI (Mz 2 i)))))] ++ [(q3, .inl (cI, (8, .inl (fun i => nI (Mz 3 i)))))])) H := hP
  have hD : va_D (aIn h0 s.heap.size) ((h0, .inr (0, [.ref q1, .ref q2, .null, .null, .null, .null, .null, .null, .null, .null, .int 0, .int 0])) :: ([] ++ [(q1, .inl (cI, (8, .inl (fun i => nI (Mz 1 i)))))] ++ [(q2, .inl (cI, (8, .inl (fun i => nI (Mz 2 i)))))] ++ [(q3, .inl (cI, (8, .inl (fun i => nI (Mz 3 i)))))])) := hD
  refine va_putF (own := RX0) (ref := RX0) (ci := 0) (v := .ref q3) (ty := .array .int) (C := RX0) (T := TX0) (N := 12) hx hb (Ts := wsX00) hw0 (fun _ h => h) tyX0 tyX0_ok nmX0 hown hK hP hD hS 0 rfl rfl 2 (by decide) (hts (.fieldLink RX0 16 "WellField" "licences" "[I") (by decide +kernel)) (fun _ h9 => h9) rfl hin rfl (by decide +kernel) rfl rfl (Nat.le_of_ble_eq_true rfl) dX0_init_25 (fun H locs hP hD hS => ?_)
  have hP : va_P D vwCl ((h0, .inr (0, [.ref q1, .ref q2, .ref q3, .null, .null, .null, .null, .null, .null, .null, .int 0, .int 0])) :: ([] ++ [(q1, .inl (cI, (8, .inl (fun i => nI (Mz 1 i)))))] ++ [(q2, .inl (cI, (8, .inl (fun i => nI (Mz 2 i)))))] ++ [(q3, .inl (cI, (8, .inl (fun i => nI (Mz 3 i)))))])) H := hP
  have hD : va_D (aIn h0 s.heap.size) ((h0, .inr (0, [.ref q1, .ref q2, .ref q3, .null, .null, .null, .null, .null, .null, .null, .int 0, .int 0])) :: ([] ++ [(q1, .inl (cI, (8, .inl (fun i => nI (Mz 1 i)))))] ++ [(q2, .inl (cI, (8, .inl (fun i => nI (Mz 2 i)))))] ++ [(q3, .inl (cI, (8, .inl (fun i => nI (Mz 3 i)))))])) := hD
  refine lv_aload_n hx hb dX0_init_28 rfl (lv_at hl 0 rfl) ?_
  refine lv_bipush (v := nI 8) hx hb dX0_init_29 (by decide) ?_
  refine lv_bipush (v := nI 36) hx hb dX0_init_31 (by decide) ?_
  refine z_mna (own := RX0) (N := 8) (K := 36) hx hb hown (hts (.classLink RX0 19 "[[I") (by decide +kernel)) hAO harr hc_cI hK hP hD hS hA (by decide) (by decide) (by decide) (by decide) dX0_init_33 (fun q4 r4 cA H hK hP hD hS => ?_)
  have hc_cQ := (hK.2 1 _ rfl).2
  obtain ⟨cQ, e_cQ⟩ : ∃ cQ, cQ = cA := ⟨_, rfl⟩
  subst e_cQ
  have hK : va_K D vwCl [(cI, .int), (cQ, .array .int)] s := hK
  have hP : va_P D vwCl ((h0, .inr (0, [.ref q1, .ref q2, .ref q3, .null, .null, .null, .null, .null, .null, .null, .int 0, .int 0])) :: ([] ++ [(q1, .inl (cI, (8, .inl (fun i => nI (Mz 1 i)))))] ++ [(q2, .inl (cI, (8, .inl (fun i => nI (Mz 2 i)))))] ++ [(q3, .inl (cI, (8, .inl (fun i => nI (Mz 3 i)))))] ++ ((q4, .inl (cQ, 8, .inr (.inr (.inr (.inr (fun i => if i < 8 then some (r4 i) else none)))))) :: (List.range 8).map (fun i => (r4 i, .inl (cI, 36, .inl (fun _ => nI 0))))))) H := hP
  have hD : va_D (aIn h0 s.heap.size) ((h0, .inr (0, [.ref q1, .ref q2, .ref q3, .null, .null, .null, .null, .null, .null, .null, .int 0, .int 0])) :: ([] ++ [(q1, .inl (cI, (8, .inl (fun i => nI (Mz 1 i)))))] ++ [(q2, .inl (cI, (8, .inl (fun i => nI (Mz 2 i)))))] ++ [(q3, .inl (cI, (8, .inl (fun i => nI (Mz 3 i)))))] ++ ((q4, .inl (cQ, 8, .inr (.inr (.inr (.inr (fun i => if i < 8 then some (r4 i) else none)))))) :: (List.range 8).map (fun i => (r4 i, .inl (cI, 36, .inl (fun _ => nI 0))))))) := hD
  refine va_putF (own := RX0) (ref := RX0) (ci := 0) (v := .ref q4) (ty := .array (.array .int)) (C := RX0) (T := TX0) (N := 12) hx hb (Ts := wsX00) hw0 (fun _ h => h) tyX0 tyX0_ok nmX0 hown hK hP hD hS 0 rfl rfl 3 (by decide) (hts (.fieldLink RX0 21 "WellField" "pumping" "[[I") (by decide +kernel)) (fun _ h9 => h9) rfl hin rfl (by decide +kernel) rfl rfl (Nat.le_of_ble_eq_true rfl) dX0_init_37 (fun H locs hP hD hS => ?_)
  have hP : va_P D vwCl ((h0, .inr (0, [.ref q1, .ref q2, .ref q3, .ref q4, .null, .null, .null, .null, .null, .null, .int 0, .int 0])) :: ([] ++ [(q1, .inl (cI, (8, .inl (fun i => nI (Mz 1 i)))))] ++ [(q2, .inl (cI, (8, .inl (fun i => nI (Mz 2 i)))))] ++ [(q3, .inl (cI, (8, .inl (fun i => nI (Mz 3 i)))))] ++ ((q4, .inl (cQ, 8, .inr (.inr (.inr (.inr (fun i => if i < 8 then some (r4 i) else none)))))) :: (List.range 8).map (fun i => (r4 i, .inl (cI, 36, .inl (fun _ => nI 0))))))) H := hP
  have hD : va_D (aIn h0 s.heap.size) ((h0, .inr (0, [.ref q1, .ref q2, .ref q3, .ref q4, .null, .null, .null, .null, .null, .null, .int 0, .int 0])) :: ([] ++ [(q1, .inl (cI, (8, .inl (fun i => nI (Mz 1 i)))))] ++ [(q2, .inl (cI, (8, .inl (fun i => nI (Mz 2 i)))))] ++ [(q3, .inl (cI, (8, .inl (fun i => nI (Mz 3 i)))))] ++ ((q4, .inl (cQ, 8, .inr (.inr (.inr (.inr (fun i => if i < 8 then some (r4 i) else none)))))) :: (List.range 8).map (fun i => (r4 i, .inl (cI, 36, .inl (fun _ => nI 0))))))) := hD
  refine lv_aload_n hx hb dX0_init_40 rfl (lv_at hl 0 rfl) ?_
  refine lv_iconst (v := nI 4) hx hb dX0_init_41 (by decide) ?_
  refine va_newa (atype := .int) (ty := .int) (a0 := (4, .inl (fun i => nI (Mz 6 i)))) hx hb harr rfl hK hP hD hS hA (fun _ => rfl) (nI_pos (by decide)) (nI_clamp (by decide)) (by decide) (by decide) (by decide) dX0_init_42 (fun q5 cA H hK hP hD hS => ?_)
  have e9 : cI = cA := (Option.some.inj ((hK.2 2 _ rfl).2.symm.trans hc_cI)).symm
  subst e9
  have hK : va_K D vwCl [(cI, .int), (cQ, .array .int)] s := hK.sub [0, 1] rfl
  have hP : va_P D vwCl ((h0, .inr (0, [.ref q1, .ref q2, .ref q3, .ref q4, .null, .null, .null, .null, .null, .null, .int 0, .int 0])) :: ([] ++ [(q1, .inl (cI, (8, .inl (fun i => nI (Mz 1 i)))))] ++ [(q2, .inl (cI, (8, .inl (fun i => nI (Mz 2 i)))))] ++ [(q3, .inl (cI, (8, .inl (fun i => nI (Mz 3 i)))))] ++ ((q4, .inl (cQ, 8, .inr (.inr (.inr (.inr (fun i => if i < 8 then some (r4 i) else none)))))) :: (List.range 8).map (fun i => (r4 i, .inl (cI, 36, .inl (fun _ => nI 0))))) ++ [(q5, .inl (cI, (4, .inl (fun i => nI (Mz 6 i)))))])) H := hP
  have hD : va_D (aIn h0 s.heap.size) ((h0, .inr (0, [.ref q1, .ref q2, .ref q3, .ref q4, .null, .null, .null, .null, .null, .null, .int 0, .int 0])) :: ([] ++ [(q1, .inl (cI, (8, .inl (fun i => nI (Mz 1 i)))))] ++ [(q2, .inl (cI, (8, .inl (fun i => nI (Mz 2 i)))))] ++ [(q3, .inl (cI, (8, .inl (fun i => nI (Mz 3 i)))))] ++ ((q4, .inl (cQ, 8, .inr (.inr (.inr (.inr (fun i => if i < 8 then some (r4 i) else none)))))) :: (List.range 8).map (fun i => (r4 i, .inl (cI, 36, .inl (fun _ => nI 0))))) ++ [(q5, .inl (cI, (4, .inl (fun i => nI (Mz 6 i)))))])) := hD
  refine va_putF (own := RX0) (ref := RX0) (ci := 0) (v := .ref q5) (ty := .array .int) (C := RX0) (T := TX0) (N := 12) hx hb (Ts := wsX00) hw0 (fun _ h => h) tyX0 tyX0_ok nmX0 hown hK hP hD hS 0 rfl rfl 4 (by decide) (hts (.fieldLink RX0 24 "WellField" "watchPlaces" "[I") (by decide +kernel)) (fun _ h9 => h9) rfl hin rfl (by decide +kernel) rfl rfl (Nat.le_of_ble_eq_true rfl) dX0_init_44 (fun H locs hP hD hS => ?_)
  have hP : va_P D vwCl ((h0, .inr (0, [.ref q1, .ref q2, .ref q3, .ref q4, .ref q5, .null, .null, .null, .null, .null, .int 0, .int 0])) :: ([] ++ [(q1, .inl (cI, (8, .inl (fun i => nI (Mz 1 i)))))] ++ [(q2, .inl (cI, (8, .inl (fun i => nI (Mz 2 i)))))] ++ [(q3, .inl (cI, (8, .inl (fun i => nI (Mz 3 i)))))] ++ ((q4, .inl (cQ, 8, .inr (.inr (.inr (.inr (fun i => if i < 8 then some (r4 i) else none)))))) :: (List.range 8).map (fun i => (r4 i, .inl (cI, 36, .inl (fun _ => nI 0))))) ++ [(q5, .inl (cI, (4, .inl (fun i => nI (Mz 6 i)))))])) H := hP
  have hD : va_D (aIn h0 s.heap.size) ((h0, .inr (0, [.ref q1, .ref q2, .ref q3, .ref q4, .ref q5, .null, .null, .null, .null, .null, .int 0, .int 0])) :: ([] ++ [(q1, .inl (cI, (8, .inl (fun i => nI (Mz 1 i)))))] ++ [(q2, .inl (cI, (8, .inl (fun i => nI (Mz 2 i)))))] ++ [(q3, .inl (cI, (8, .inl (fun i => nI (Mz 3 i)))))] ++ ((q4, .inl (cQ, 8, .inr (.inr (.inr (.inr (fun i => if i < 8 then some (r4 i) else none)))))) :: (List.range 8).map (fun i => (r4 i, .inl (cI, 36, .inl (fun _ => nI 0))))) ++ [(q5, .inl (cI, (4, .inl (fun i => nI (Mz 6 i)))))])) := hD
  refine lv_aload_n hx hb dX0_init_47 rfl (lv_at hl 0 rfl) ?_
  refine lv_iconst (v := nI 4) hx hb dX0_init_48 (by decide) ?_
  refine va_newa (atype := .int) (ty := .int) (a0 := (4, .inl (fun i => nI (Mz 7 i)))) hx hb harr rfl hK hP hD hS hA (fun _ => rfl) (nI_pos (by decide)) (nI_clamp (by decide)) (by decide) (by decide) (by decide) dX0_init_49 (fun q6 cA H hK hP hD hS => ?_)
  have e9 : cI = cA := (Option.some.inj ((hK.2 2 _ rfl).2.symm.trans hc_cI)).symm
  subst e9
  have hK : va_K D vwCl [(cI, .int), (cQ, .array .int)] s := hK.sub [0, 1] rfl
  have hP : va_P D vwCl ((h0, .inr (0, [.ref q1, .ref q2, .ref q3, .ref q4, .ref q5, .null, .null, .null, .null, .null, .int 0, .int 0])) :: ([] ++ [(q1, .inl (cI, (8, .inl (fun i => nI (Mz 1 i)))))] ++ [(q2, .inl (cI, (8, .inl (fun i => nI (Mz 2 i)))))] ++ [(q3, .inl (cI, (8, .inl (fun i => nI (Mz 3 i)))))] ++ ((q4, .inl (cQ, 8, .inr (.inr (.inr (.inr (fun i => if i < 8 then some (r4 i) else none)))))) :: (List.range 8).map (fun i => (r4 i, .inl (cI, 36, .inl (fun _ => nI 0))))) ++ [(q5, .inl (cI, (4, .inl (fun i => nI (Mz 6 i)))))] ++ [(q6, .inl (cI, (4, .inl (fun i => nI (Mz 7 i)))))])) H := hP
  have hD : va_D (aIn h0 s.heap.size) ((h0, .inr (0, [.ref q1, .ref q2, .ref q3, .ref q4, .ref q5, .null, .null, .null, .null, .null, .int 0, .int 0])) :: ([] ++ [(q1, .inl (cI, (8, .inl (fun i => nI (Mz 1 i)))))] ++ [(q2, .inl (cI, (8, .inl (fun i => nI (Mz 2 i)))))] ++ [(q3, .inl (cI, (8, .inl (fun i => nI (Mz 3 i)))))] ++ ((q4, .inl (cQ, 8, .inr (.inr (.inr (.inr (fun i => if i < 8 then some (r4 i) else none)))))) :: (List.range 8).map (fun i => (r4 i, .inl (cI, 36, .inl (fun _ => nI 0))))) ++ [(q5, .inl (cI, (4, .inl (fun i => nI (Mz 6 i)))))] ++ [(q6, .inl (cI, (4, .inl (fun i => nI (Mz 7 i)))))])) := hD
  refine va_putF (own := RX0) (ref := RX0) (ci := 0) (v := .ref q6) (ty := .array .int) (C := RX0) (T := TX0) (N := 12) hx hb (Ts := wsX00) hw0 (fun _ h => h) tyX0 tyX0_ok nmX0 hown hK hP hD hS 0 rfl rfl 5 (by decide) (hts (.fieldLink RX0 27 "WellField" "limits" "[I") (by decide +kernel)) (fun _ h9 => h9) rfl hin rfl (by decide +kernel) rfl rfl (Nat.le_of_ble_eq_true rfl) dX0_init_51 (fun H locs hP hD hS => ?_)
  have hP : va_P D vwCl ((h0, .inr (0, [.ref q1, .ref q2, .ref q3, .ref q4, .ref q5, .ref q6, .null, .null, .null, .null, .int 0, .int 0])) :: ([] ++ [(q1, .inl (cI, (8, .inl (fun i => nI (Mz 1 i)))))] ++ [(q2, .inl (cI, (8, .inl (fun i => nI (Mz 2 i)))))] ++ [(q3, .inl (cI, (8, .inl (fun i => nI (Mz 3 i)))))] ++ ((q4, .inl (cQ, 8, .inr (.inr (.inr (.inr (fun i => if i < 8 then some (r4 i) else none)))))) :: (List.range 8).map (fun i => (r4 i, .inl (cI, 36, .inl (fun _ => nI 0))))) ++ [(q5, .inl (cI, (4, .inl (fun i => nI (Mz 6 i)))))] ++ [(q6, .inl (cI, (4, .inl (fun i => nI (Mz 7 i)))))])) H := hP
  have hD : va_D (aIn h0 s.heap.size) ((h0, .inr (0, [.ref q1, .ref q2, .ref q3, .ref q4, .ref q5, .ref q6, .null, .null, .null, .null, .int 0, .int 0])) :: ([] ++ [(q1, .inl (cI, (8, .inl (fun i => nI (Mz 1 i)))))] ++ [(q2, .inl (cI, (8, .inl (fun i => nI (Mz 2 i)))))] ++ [(q3, .inl (cI, (8, .inl (fun i => nI (Mz 3 i)))))] ++ ((q4, .inl (cQ, 8, .inr (.inr (.inr (.inr (fun i => if i < 8 then some (r4 i) else none)))))) :: (List.range 8).map (fun i => (r4 i, .inl (cI, 36, .inl (fun _ => nI 0))))) ++ [(q5, .inl (cI, (4, .inl (fun i => nI (Mz 6 i)))))] ++ [(q6, .inl (cI, (4, .inl (fun i => nI (Mz 7 i)))))])) := hD
  refine lv_aload_n hx hb dX0_init_54 rfl (lv_at hl 0 rfl) ?_
  refine lv_iconst (v := nI 5) hx hb dX0_init_55 (by decide) ?_
  refine lv_bipush (v := nI 12) hx hb dX0_init_56 (by decide) ?_
  refine z_mna (own := RX0) (N := 5) (K := 12) hx hb hown (hts (.classLink RX0 19 "[[I") (by decide +kernel)) hAO harr hc_cI hK hP hD hS hA (by decide) (by decide) (by decide) (by decide) dX0_init_58 (fun q7 r7 cA H hK hP hD hS => ?_)
  have e9 : cQ = cA := (Option.some.inj ((hK.2 2 _ rfl).2.symm.trans hc_cQ)).symm
  subst e9
  have hK : va_K D vwCl [(cI, .int), (cQ, .array .int)] s := hK.sub [0, 1] rfl
  have hP : va_P D vwCl ((h0, .inr (0, [.ref q1, .ref q2, .ref q3, .ref q4, .ref q5, .ref q6, .null, .null, .null, .null, .int 0, .int 0])) :: ([] ++ [(q1, .inl (cI, (8, .inl (fun i => nI (Mz 1 i)))))] ++ [(q2, .inl (cI, (8, .inl (fun i => nI (Mz 2 i)))))] ++ [(q3, .inl (cI, (8, .inl (fun i => nI (Mz 3 i)))))] ++ ((q4, .inl (cQ, 8, .inr (.inr (.inr (.inr (fun i => if i < 8 then some (r4 i) else none)))))) :: (List.range 8).map (fun i => (r4 i, .inl (cI, 36, .inl (fun _ => nI 0))))) ++ [(q5, .inl (cI, (4, .inl (fun i => nI (Mz 6 i)))))] ++ [(q6, .inl (cI, (4, .inl (fun i => nI (Mz 7 i)))))] ++ ((q7, .inl (cQ, 5, .inr (.inr (.inr (.inr (fun i => if i < 5 then some (r7 i) else none)))))) :: (List.range 5).map (fun i => (r7 i, .inl (cI, 12, .inl (fun _ => nI 0))))))) H := hP
  have hD : va_D (aIn h0 s.heap.size) ((h0, .inr (0, [.ref q1, .ref q2, .ref q3, .ref q4, .ref q5, .ref q6, .null, .null, .null, .null, .int 0, .int 0])) :: ([] ++ [(q1, .inl (cI, (8, .inl (fun i => nI (Mz 1 i)))))] ++ [(q2, .inl (cI, (8, .inl (fun i => nI (Mz 2 i)))))] ++ [(q3, .inl (cI, (8, .inl (fun i => nI (Mz 3 i)))))] ++ ((q4, .inl (cQ, 8, .inr (.inr (.inr (.inr (fun i => if i < 8 then some (r4 i) else none)))))) :: (List.range 8).map (fun i => (r4 i, .inl (cI, 36, .inl (fun _ => nI 0))))) ++ [(q5, .inl (cI, (4, .inl (fun i => nI (Mz 6 i)))))] ++ [(q6, .inl (cI, (4, .inl (fun i => nI (Mz 7 i)))))] ++ ((q7, .inl (cQ, 5, .inr (.inr (.inr (.inr (fun i => if i < 5 then some (r7 i) else none)))))) :: (List.range 5).map (fun i => (r7 i, .inl (cI, 12, .inl (fun _ => nI 0))))))) := hD
  refine va_putF (own := RX0) (ref := RX0) (ci := 0) (v := .ref q7) (ty := .array (.array .int)) (C := RX0) (T := TX0) (N := 12) hx hb (Ts := wsX00) hw0 (fun _ h => h) tyX0 tyX0_ok nmX0 hown hK hP hD hS 0 rfl rfl 6 (by decide) (hts (.fieldLink RX0 30 "WellField" "table" "[[I") (by decide +kernel)) (fun _ h9 => h9) rfl hin rfl (by decide +kernel) rfl rfl (Nat.le_of_ble_eq_true rfl) dX0_init_62 (fun H locs hP hD hS => ?_)
  have hP : va_P D vwCl ((h0, .inr (0, [.ref q1, .ref q2, .ref q3, .ref q4, .ref q5, .ref q6, .ref q7, .null, .null, .null, .int 0, .int 0])) :: ([] ++ [(q1, .inl (cI, (8, .inl (fun i => nI (Mz 1 i)))))] ++ [(q2, .inl (cI, (8, .inl (fun i => nI (Mz 2 i)))))] ++ [(q3, .inl (cI, (8, .inl (fun i => nI (Mz 3 i)))))] ++ ((q4, .inl (cQ, 8, .inr (.inr (.inr (.inr (fun i => if i < 8 then some (r4 i) else none)))))) :: (List.range 8).map (fun i => (r4 i, .inl (cI, 36, .inl (fun _ => nI 0))))) ++ [(q5, .inl (cI, (4, .inl (fun i => nI (Mz 6 i)))))] ++ [(q6, .inl (cI, (4, .inl (fun i => nI (Mz 7 i)))))] ++ ((q7, .inl (cQ, 5, .inr (.inr (.inr (.inr (fun i => if i < 5 then some (r7 i) else none)))))) :: (List.range 5).map (fun i => (r7 i, .inl (cI, 12, .inl (fun _ => nI 0))))))) H := hP
  have hD : va_D (aIn h0 s.heap.size) ((h0, .inr (0, [.ref q1, .ref q2, .ref q3, .ref q4, .ref q5, .ref q6, .ref q7, .null, .null, .null, .int 0, .int 0])) :: ([] ++ [(q1, .inl (cI, (8, .inl (fun i => nI (Mz 1 i)))))] ++ [(q2, .inl (cI, (8, .inl (fun i => nI (Mz 2 i)))))] ++ [(q3, .inl (cI, (8, .inl (fun i => nI (Mz 3 i)))))] ++ ((q4, .inl (cQ, 8, .inr (.inr (.inr (.inr (fun i => if i < 8 then some (r4 i) else none)))))) :: (List.range 8).map (fun i => (r4 i, .inl (cI, 36, .inl (fun _ => nI 0))))) ++ [(q5, .inl (cI, (4, .inl (fun i => nI (Mz 6 i)))))] ++ [(q6, .inl (cI, (4, .inl (fun i => nI (Mz 7 i)))))] ++ ((q7, .inl (cQ, 5, .inr (.inr (.inr (.inr (fun i => if i < 5 then some (r7 i) else none)))))) :: (List.range 5).map (fun i => (r7 i, .inl (cI, 12, .inl (fun _ => nI 0))))))) := hD
  refine lv_aload_n hx hb dX0_init_65 rfl (lv_at hl 0 rfl) ?_
  refine lv_iconst (v := nI 5) hx hb dX0_init_66 (by decide) ?_
  refine va_newa (atype := .int) (ty := .int) (a0 := (5, .inl (fun i => nI ((fun _ => 0) i)))) hx hb harr rfl hK hP hD hS hA (fun _ => rfl) (nI_pos (by decide)) (nI_clamp (by decide)) (by decide) (by decide) (by decide) dX0_init_67 (fun q8 cA H hK hP hD hS => ?_)
  have e9 : cI = cA := (Option.some.inj ((hK.2 2 _ rfl).2.symm.trans hc_cI)).symm
  subst e9
  have hK : va_K D vwCl [(cI, .int), (cQ, .array .int)] s := hK.sub [0, 1] rfl
  have hP : va_P D vwCl ((h0, .inr (0, [.ref q1, .ref q2, .ref q3, .ref q4, .ref q5, .ref q6, .ref q7, .null, .null, .null, .int 0, .int 0])) :: ([] ++ [(q1, .inl (cI, (8, .inl (fun i => nI (Mz 1 i)))))] ++ [(q2, .inl (cI, (8, .inl (fun i => nI (Mz 2 i)))))] ++ [(q3, .inl (cI, (8, .inl (fun i => nI (Mz 3 i)))))] ++ ((q4, .inl (cQ, 8, .inr (.inr (.inr (.inr (fun i => if i < 8 then some (r4 i) else none)))))) :: (List.range 8).map (fun i => (r4 i, .inl (cI, 36, .inl (fun _ => nI 0))))) ++ [(q5, .inl (cI, (4, .inl (fun i => nI (Mz 6 i)))))] ++ [(q6, .inl (cI, (4, .inl (fun i => nI (Mz 7 i)))))] ++ ((q7, .inl (cQ, 5, .inr (.inr (.inr (.inr (fun i => if i < 5 then some (r7 i) else none)))))) :: (List.range 5).map (fun i => (r7 i, .inl (cI, 12, .inl (fun _ => nI 0))))) ++ [(q8, .inl (cI, (5, .inl (fun i => nI ((fun _ => 0) i)))))])) H := hP
  have hD : va_D (aIn h0 s.heap.size) ((h0, .inr (0, [.ref q1, .ref q2, .ref q3, .ref q4, .ref q5, .ref q6, .ref q7, .null, .null, .null, .int 0, .int 0])) :: ([] ++ [(q1, .inl (cI, (8, .inl (fun i => nI (Mz 1 i)))))] ++ [(q2, .inl (cI, (8, .inl (fun i => nI (Mz 2 i)))))] ++ [(q3, .inl (cI, (8, .inl (fun i => nI (Mz 3 i)))))] ++ ((q4, .inl (cQ, 8, .inr (.inr (.inr (.inr (fun i => if i < 8 then some (r4 i) else none)))))) :: (List.range 8).map (fun i => (r4 i, .inl (cI, 36, .inl (fun _ => nI 0))))) ++ [(q5, .inl (cI, (4, .inl (fun i => nI (Mz 6 i)))))] ++ [(q6, .inl (cI, (4, .inl (fun i => nI (Mz 7 i)))))] ++ ((q7, .inl (cQ, 5, .inr (.inr (.inr (.inr (fun i => if i < 5 then some (r7 i) else none)))))) :: (List.range 5).map (fun i => (r7 i, .inl (cI, 12, .inl (fun _ => nI 0))))) ++ [(q8, .inl (cI, (5, .inl (fun i => nI ((fun _ => 0) i)))))])) := hD
  refine va_putF (own := RX0) (ref := RX0) (ci := 0) (v := .ref q8) (ty := .array .int) (C := RX0) (T := TX0) (N := 12) hx hb (Ts := wsX00) hw0 (fun _ h => h) tyX0 tyX0_ok nmX0 hown hK hP hD hS 0 rfl rfl 7 (by decide) (hts (.fieldLink RX0 33 "WellField" "tableSums" "[I") (by decide +kernel)) (fun _ h9 => h9) rfl hin rfl (by decide +kernel) rfl rfl (Nat.le_of_ble_eq_true rfl) dX0_init_69 (fun H locs hP hD hS => ?_)
  have hP : va_P D vwCl ((h0, .inr (0, [.ref q1, .ref q2, .ref q3, .ref q4, .ref q5, .ref q6, .ref q7, .ref q8, .null, .null, .int 0, .int 0])) :: ([] ++ [(q1, .inl (cI, (8, .inl (fun i => nI (Mz 1 i)))))] ++ [(q2, .inl (cI, (8, .inl (fun i => nI (Mz 2 i)))))] ++ [(q3, .inl (cI, (8, .inl (fun i => nI (Mz 3 i)))))] ++ ((q4, .inl (cQ, 8, .inr (.inr (.inr (.inr (fun i => if i < 8 then some (r4 i) else none)))))) :: (List.range 8).map (fun i => (r4 i, .inl (cI, 36, .inl (fun _ => nI 0))))) ++ [(q5, .inl (cI, (4, .inl (fun i => nI (Mz 6 i)))))] ++ [(q6, .inl (cI, (4, .inl (fun i => nI (Mz 7 i)))))] ++ ((q7, .inl (cQ, 5, .inr (.inr (.inr (.inr (fun i => if i < 5 then some (r7 i) else none)))))) :: (List.range 5).map (fun i => (r7 i, .inl (cI, 12, .inl (fun _ => nI 0))))) ++ [(q8, .inl (cI, (5, .inl (fun i => nI ((fun _ => 0) i)))))])) H := hP
  have hD : va_D (aIn h0 s.heap.size) ((h0, .inr (0, [.ref q1, .ref q2, .ref q3, .ref q4, .ref q5, .ref q6, .ref q7, .ref q8, .null, .null, .int 0, .int 0])) :: ([] ++ [(q1, .inl (cI, (8, .inl (fun i => nI (Mz 1 i)))))] ++ [(q2, .inl (cI, (8, .inl (fun i => nI (Mz 2 i)))))] ++ [(q3, .inl (cI, (8, .inl (fun i => nI (Mz 3 i)))))] ++ ((q4, .inl (cQ, 8, .inr (.inr (.inr (.inr (fun i => if i < 8 then some (r4 i) else none)))))) :: (List.range 8).map (fun i => (r4 i, .inl (cI, 36, .inl (fun _ => nI 0))))) ++ [(q5, .inl (cI, (4, .inl (fun i => nI (Mz 6 i)))))] ++ [(q6, .inl (cI, (4, .inl (fun i => nI (Mz 7 i)))))] ++ ((q7, .inl (cQ, 5, .inr (.inr (.inr (.inr (fun i => if i < 5 then some (r7 i) else none)))))) :: (List.range 5).map (fun i => (r7 i, .inl (cI, 12, .inl (fun _ => nI 0))))) ++ [(q8, .inl (cI, (5, .inl (fun i => nI ((fun _ => 0) i)))))])) := hD
  refine lv_aload_n hx hb dX0_init_72 rfl (lv_at hl 0 rfl) ?_
  refine lv_iconst (v := nI 3) hx hb dX0_init_73 (by decide) ?_
  refine lv_iconst (v := nI 3) hx hb dX0_init_74 (by decide) ?_
  refine z_mna (own := RX0) (N := 3) (K := 3) hx hb hown (hts (.classLink RX0 19 "[[I") (by decide +kernel)) hAO harr hc_cI hK hP hD hS hA (by decide) (by decide) (by decide) (by decide) dX0_init_75 (fun q9 r9 cA H hK hP hD hS => ?_)
  have e9 : cQ = cA := (Option.some.inj ((hK.2 2 _ rfl).2.symm.trans hc_cQ)).symm
  subst e9
  have hK : va_K D vwCl [(cI, .int), (cQ, .array .int)] s := hK.sub [0, 1] rfl
  have hP : va_P D vwCl ((h0, .inr (0, [.ref q1, .ref q2, .ref q3, .ref q4, .ref q5, .ref q6, .ref q7, .ref q8, .null, .null, .int 0, .int 0])) :: ([] ++ [(q1, .inl (cI, (8, .inl (fun i => nI (Mz 1 i)))))] ++ [(q2, .inl (cI, (8, .inl (fun i => nI (Mz 2 i)))))] ++ [(q3, .inl (cI, (8, .inl (fun i => nI (Mz 3 i)))))] ++ ((q4, .inl (cQ, 8, .inr (.inr (.inr (.inr (fun i => if i < 8 then some (r4 i) else none)))))) :: (List.range 8).map (fun i => (r4 i, .inl (cI, 36, .inl (fun _ => nI 0))))) ++ [(q5, .inl (cI, (4, .inl (fun i => nI (Mz 6 i)))))] ++ [(q6, .inl (cI, (4, .inl (fun i => nI (Mz 7 i)))))] ++ ((q7, .inl (cQ, 5, .inr (.inr (.inr (.inr (fun i => if i < 5 then some (r7 i) else none)))))) :: (List.range 5).map (fun i => (r7 i, .inl (cI, 12, .inl (fun _ => nI 0))))) ++ [(q8, .inl (cI, (5, .inl (fun i => nI ((fun _ => 0) i)))))] ++ ((q9, .inl (cQ, 3, .inr (.inr (.inr (.inr (fun i => if i < 3 then some (r9 i) else none)))))) :: (List.range 3).map (fun i => (r9 i, .inl (cI, 3, .inl (fun _ => nI 0))))))) H := hP
  have hD : va_D (aIn h0 s.heap.size) ((h0, .inr (0, [.ref q1, .ref q2, .ref q3, .ref q4, .ref q5, .ref q6, .ref q7, .ref q8, .null, .null, .int 0, .int 0])) :: ([] ++ [(q1, .inl (cI, (8, .inl (fun i => nI (Mz 1 i)))))] ++ [(q2, .inl (cI, (8, .inl (fun i => nI (Mz 2 i)))))] ++ [(q3, .inl (cI, (8, .inl (fun i => nI (Mz 3 i)))))] ++ ((q4, .inl (cQ, 8, .inr (.inr (.inr (.inr (fun i => if i < 8 then some (r4 i) else none)))))) :: (List.range 8).map (fun i => (r4 i, .inl (cI, 36, .inl (fun _ => nI 0))))) ++ [(q5, .inl (cI, (4, .inl (fun i => nI (Mz 6 i)))))] ++ [(q6, .inl (cI, (4, .inl (fun i => nI (Mz 7 i)))))] ++ ((q7, .inl (cQ, 5, .inr (.inr (.inr (.inr (fun i => if i < 5 then some (r7 i) else none)))))) :: (List.range 5).map (fun i => (r7 i, .inl (cI, 12, .inl (fun _ => nI 0))))) ++ [(q8, .inl (cI, (5, .inl (fun i => nI ((fun _ => 0) i)))))] ++ ((q9, .inl (cQ, 3, .inr (.inr (.inr (.inr (fun i => if i < 3 then some (r9 i) else none)))))) :: (List.range 3).map (fun i => (r9 i, .inl (cI, 3, .inl (fun _ => nI 0))))))) := hD
  refine va_putF (own := RX0) (ref := RX0) (ci := 0) (v := .ref q9) (ty := .array (.array .int)) (C := RX0) (T := TX0) (N := 12) hx hb (Ts := wsX00) hw0 (fun _ h => h) tyX0 tyX0_ok nmX0 hown hK hP hD hS 0 rfl rfl 8 (by decide) (hts (.fieldLink RX0 36 "WellField" "ratios" "[[I") (by decide +kernel)) (fun _ h9 => h9) rfl hin rfl (by decide +kernel) rfl rfl (Nat.le_of_ble_eq_true rfl) dX0_init_79 (fun H locs hP hD hS => ?_)
  have hP : va_P D vwCl ((h0, .inr (0, [.ref q1, .ref q2, .ref q3, .ref q4, .ref q5, .ref q6, .ref q7, .ref q8, .ref q9, .null, .int 0, .int 0])) :: ([] ++ [(q1, .inl (cI, (8, .inl (fun i => nI (Mz 1 i)))))] ++ [(q2, .inl (cI, (8, .inl (fun i => nI (Mz 2 i)))))] ++ [(q3, .inl (cI, (8, .inl (fun i => nI (Mz 3 i)))))] ++ ((q4, .inl (cQ, 8, .inr (.inr (.inr (.inr (fun i => if i < 8 then some (r4 i) else none)))))) :: (List.range 8).map (fun i => (r4 i, .inl (cI, 36, .inl (fun _ => nI 0))))) ++ [(q5, .inl (cI, (4, .inl (fun i => nI (Mz 6 i)))))] ++ [(q6, .inl (cI, (4, .inl (fun i => nI (Mz 7 i)))))] ++ ((q7, .inl (cQ, 5, .inr (.inr (.inr (.inr (fun i => if i < 5 then some (r7 i) else none)))))) :: (List.range 5).map (fun i => (r7 i, .inl (cI, 12, .inl (fun _ => nI 0))))) ++ [(q8, .inl (cI, (5, .inl (fun i => nI ((fun _ => 0) i)))))] ++ ((q9, .inl (cQ, 3, .inr (.inr (.inr (.inr (fun i => if i < 3 then some (r9 i) else none)))))) :: (List.range 3).map (fun i => (r9 i, .inl (cI, 3, .inl (fun _ => nI 0))))))) H := hP
  have hD : va_D (aIn h0 s.heap.size) ((h0, .inr (0, [.ref q1, .ref q2, .ref q3, .ref q4, .ref q5, .ref q6, .ref q7, .ref q8, .ref q9, .null, .int 0, .int 0])) :: ([] ++ [(q1, .inl (cI, (8, .inl (fun i => nI (Mz 1 i)))))] ++ [(q2, .inl (cI, (8, .inl (fun i => nI (Mz 2 i)))))] ++ [(q3, .inl (cI, (8, .inl (fun i => nI (Mz 3 i)))))] ++ ((q4, .inl (cQ, 8, .inr (.inr (.inr (.inr (fun i => if i < 8 then some (r4 i) else none)))))) :: (List.range 8).map (fun i => (r4 i, .inl (cI, 36, .inl (fun _ => nI 0))))) ++ [(q5, .inl (cI, (4, .inl (fun i => nI (Mz 6 i)))))] ++ [(q6, .inl (cI, (4, .inl (fun i => nI (Mz 7 i)))))] ++ ((q7, .inl (cQ, 5, .inr (.inr (.inr (.inr (fun i => if i < 5 then some (r7 i) else none)))))) :: (List.range 5).map (fun i => (r7 i, .inl (cI, 12, .inl (fun _ => nI 0))))) ++ [(q8, .inl (cI, (5, .inl (fun i => nI ((fun _ => 0) i)))))] ++ ((q9, .inl (cQ, 3, .inr (.inr (.inr (.inr (fun i => if i < 3 then some (r9 i) else none)))))) :: (List.range 3).map (fun i => (r9 i, .inl (cI, 3, .inl (fun _ => nI 0))))))) := hD
  refine lv_aload_n hx hb dX0_init_82 rfl (lv_at hl 0 rfl) ?_
  refine lv_bipush (v := nI 36) hx hb dX0_init_83 (by decide) ?_
  refine va_newa (atype := .long) (ty := .long) (a0 := (36, .inr (.inl (fun _ => lN 0)))) hx hb (hts (.arrayClass .long) (by decide +kernel)) rfl hK hP hD hS hA (fun _ => rfl) (nI_pos (by decide)) (nI_clamp (by decide)) (by decide) (by decide) (by decide) dX0_init_85 (fun q10 cA H hK hP hD hS => ?_)
  have hc_cJ := (hK.2 2 _ rfl).2
  obtain ⟨cJ, e_cJ⟩ : ∃ cJ, cJ = cA := ⟨_, rfl⟩
  subst e_cJ
  have hK : va_K D vwCl [(cI, .int), (cQ, .array .int), (cJ, .long)] s := hK
  have hP : va_P D vwCl ((h0, .inr (0, [.ref q1, .ref q2, .ref q3, .ref q4, .ref q5, .ref q6, .ref q7, .ref q8, .ref q9, .null, .int 0, .int 0])) :: ([] ++ [(q1, .inl (cI, (8, .inl (fun i => nI (Mz 1 i)))))] ++ [(q2, .inl (cI, (8, .inl (fun i => nI (Mz 2 i)))))] ++ [(q3, .inl (cI, (8, .inl (fun i => nI (Mz 3 i)))))] ++ ((q4, .inl (cQ, 8, .inr (.inr (.inr (.inr (fun i => if i < 8 then some (r4 i) else none)))))) :: (List.range 8).map (fun i => (r4 i, .inl (cI, 36, .inl (fun _ => nI 0))))) ++ [(q5, .inl (cI, (4, .inl (fun i => nI (Mz 6 i)))))] ++ [(q6, .inl (cI, (4, .inl (fun i => nI (Mz 7 i)))))] ++ ((q7, .inl (cQ, 5, .inr (.inr (.inr (.inr (fun i => if i < 5 then some (r7 i) else none)))))) :: (List.range 5).map (fun i => (r7 i, .inl (cI, 12, .inl (fun _ => nI 0))))) ++ [(q8, .inl (cI, (5, .inl (fun i => nI ((fun _ => 0) i)))))] ++ ((q9, .inl (cQ, 3, .inr (.inr (.inr (.inr (fun i => if i < 3 then some (r9 i) else none)))))) :: (List.range 3).map (fun i => (r9 i, .inl (cI, 3, .inl (fun _ => nI 0))))) ++ [(q10, .inl (cJ, (36, .inr (.inl (fun _ => lN 0)))))])) H := hP
  have hD : va_D (aIn h0 s.heap.size) ((h0, .inr (0, [.ref q1, .ref q2, .ref q3, .ref q4, .ref q5, .ref q6, .ref q7, .ref q8, .ref q9, .null, .int 0, .int 0])) :: ([] ++ [(q1, .inl (cI, (8, .inl (fun i => nI (Mz 1 i)))))] ++ [(q2, .inl (cI, (8, .inl (fun i => nI (Mz 2 i)))))] ++ [(q3, .inl (cI, (8, .inl (fun i => nI (Mz 3 i)))))] ++ ((q4, .inl (cQ, 8, .inr (.inr (.inr (.inr (fun i => if i < 8 then some (r4 i) else none)))))) :: (List.range 8).map (fun i => (r4 i, .inl (cI, 36, .inl (fun _ => nI 0))))) ++ [(q5, .inl (cI, (4, .inl (fun i => nI (Mz 6 i)))))] ++ [(q6, .inl (cI, (4, .inl (fun i => nI (Mz 7 i)))))] ++ ((q7, .inl (cQ, 5, .inr (.inr (.inr (.inr (fun i => if i < 5 then some (r7 i) else none)))))) :: (List.range 5).map (fun i => (r7 i, .inl (cI, 12, .inl (fun _ => nI 0))))) ++ [(q8, .inl (cI, (5, .inl (fun i => nI ((fun _ => 0) i)))))] ++ ((q9, .inl (cQ, 3, .inr (.inr (.inr (.inr (fun i => if i < 3 then some (r9 i) else none)))))) :: (List.range 3).map (fun i => (r9 i, .inl (cI, 3, .inl (fun _ => nI 0))))) ++ [(q10, .inl (cJ, (36, .inr (.inl (fun _ => lN 0)))))])) := hD
  refine va_putF (own := RX0) (ref := RX0) (ci := 0) (v := .ref q10) (ty := .array .long) (C := RX0) (T := TX0) (N := 12) hx hb (Ts := wsX00) hw0 (fun _ h => h) tyX0 tyX0_ok nmX0 hown hK hP hD hS 0 rfl rfl 9 (by decide) (hts (.fieldLink RX0 39 "WellField" "pulses" "[J") (by decide +kernel)) (fun _ h9 => h9) rfl hin rfl (by decide +kernel) rfl rfl (Nat.le_of_ble_eq_true rfl) dX0_init_87 (fun H locs hP hD hS => ?_)
  have hP : va_P D vwCl ((h0, .inr (0, [.ref q1, .ref q2, .ref q3, .ref q4, .ref q5, .ref q6, .ref q7, .ref q8, .ref q9, .ref q10, .int 0, .int 0])) :: ([] ++ [(q1, .inl (cI, (8, .inl (fun i => nI (Mz 1 i)))))] ++ [(q2, .inl (cI, (8, .inl (fun i => nI (Mz 2 i)))))] ++ [(q3, .inl (cI, (8, .inl (fun i => nI (Mz 3 i)))))] ++ ((q4, .inl (cQ, 8, .inr (.inr (.inr (.inr (fun i => if i < 8 then some (r4 i) else none)))))) :: (List.range 8).map (fun i => (r4 i, .inl (cI, 36, .inl (fun _ => nI 0))))) ++ [(q5, .inl (cI, (4, .inl (fun i => nI (Mz 6 i)))))] ++ [(q6, .inl (cI, (4, .inl (fun i => nI (Mz 7 i)))))] ++ ((q7, .inl (cQ, 5, .inr (.inr (.inr (.inr (fun i => if i < 5 then some (r7 i) else none)))))) :: (List.range 5).map (fun i => (r7 i, .inl (cI, 12, .inl (fun _ => nI 0))))) ++ [(q8, .inl (cI, (5, .inl (fun i => nI ((fun _ => 0) i)))))] ++ ((q9, .inl (cQ, 3, .inr (.inr (.inr (.inr (fun i => if i < 3 then some (r9 i) else none)))))) :: (List.range 3).map (fun i => (r9 i, .inl (cI, 3, .inl (fun _ => nI 0))))) ++ [(q10, .inl (cJ, (36, .inr (.inl (fun _ => lN 0)))))])) H := hP
  have hD : va_D (aIn h0 s.heap.size) ((h0, .inr (0, [.ref q1, .ref q2, .ref q3, .ref q4, .ref q5, .ref q6, .ref q7, .ref q8, .ref q9, .ref q10, .int 0, .int 0])) :: ([] ++ [(q1, .inl (cI, (8, .inl (fun i => nI (Mz 1 i)))))] ++ [(q2, .inl (cI, (8, .inl (fun i => nI (Mz 2 i)))))] ++ [(q3, .inl (cI, (8, .inl (fun i => nI (Mz 3 i)))))] ++ ((q4, .inl (cQ, 8, .inr (.inr (.inr (.inr (fun i => if i < 8 then some (r4 i) else none)))))) :: (List.range 8).map (fun i => (r4 i, .inl (cI, 36, .inl (fun _ => nI 0))))) ++ [(q5, .inl (cI, (4, .inl (fun i => nI (Mz 6 i)))))] ++ [(q6, .inl (cI, (4, .inl (fun i => nI (Mz 7 i)))))] ++ ((q7, .inl (cQ, 5, .inr (.inr (.inr (.inr (fun i => if i < 5 then some (r7 i) else none)))))) :: (List.range 5).map (fun i => (r7 i, .inl (cI, 12, .inl (fun _ => nI 0))))) ++ [(q8, .inl (cI, (5, .inl (fun i => nI ((fun _ => 0) i)))))] ++ ((q9, .inl (cQ, 3, .inr (.inr (.inr (.inr (fun i => if i < 3 then some (r9 i) else none)))))) :: (List.range 3).map (fun i => (r9 i, .inl (cI, 3, .inl (fun _ => nI 0))))) ++ [(q10, .inl (cJ, (36, .inr (.inl (fun _ => lN 0)))))])) := hD
  refine W.widen (k := 26) (n := 446) (by decide) (by decide) ?_
  obtain ⟨ad, had⟩ : ∃ ad : Nat → Nat, ad = fun k => ([h0, q1, q2, q3, q4, q5, q6, q7, q8, q9, q10, r4 0, r4 1, r4 2, r4 3, r4 4, r4 5, r4 6, r4 7, r7 0, r7 1, r7 2, r7 3, r7 4, r9 0, r9 1, r9 2] : List Nat).getD k 0 := ⟨_, rfl⟩
  have hpos : ∀ k, k < 27 → ∃ e9, (((h0, .inr (0, [.ref q1, .ref q2, .ref q3, .ref q4, .ref q5, .ref q6, .ref q7, .ref q8, .ref q9, .ref q10, .int 0, .int 0])) :: ([] ++ [(q1, .inl (cI, (8, .inl (fun i => nI (Mz 1 i)))))] ++ [(q2, .inl (cI, (8, .inl (fun i => nI (Mz 2 i)))))] ++ [(q3, .inl (cI, (8, .inl (fun i => nI (Mz 3 i)))))] ++ ((q4, .inl (cQ, 8, .inr (.inr (.inr (.inr (fun i => if i < 8 then some (r4 i) else none)))))) :: (List.range 8).map (fun i => (r4 i, .inl (cI, 36, .inl (fun _ => nI 0))))) ++ [(q5, .inl (cI, (4, .inl (fun i => nI (Mz 6 i)))))] ++ [(q6, .inl (cI, (4, .inl (fun i => nI (Mz 7 i)))))] ++ ((q7, .inl (cQ, 5, .inr (.inr (.inr (.inr (fun i => if i < 5 then some (r7 i) else none)))))) :: (List.range 5).map (fun i => (r7 i, .inl (cI, 12, .inl (fun _ => nI 0))))) ++ [(q8, .inl (cI, (5, .inl (fun i => nI ((fun _ => 0) i)))))] ++ ((q9, .inl (cQ, 3, .inr (.inr (.inr (.inr (fun i => if i < 3 then some (r9 i) else none)))))) :: (List.range 3).map (fun i => (r9 i, .inl (cI, 3, .inl (fun _ => nI 0))))) ++ [(q10, .inl (cJ, (36, .inr (.inl (fun _ => lN 0)))))])) : va_W)[([0, 1, 2, 3, 4, 13, 14, 15, 21, 22, 26, 5, 6, 7, 8, 9, 10, 11, 12, 16, 17, 18, 19, 20, 23, 24, 25] : List Nat).getD k 0]? = some (ad k, e9) := by
    intro k hk
    subst had
    exact match k, hk with
    | 0, _ => ⟨_, rfl⟩
    | 1, _ => ⟨_, rfl⟩
    | 2, _ => ⟨_, rfl⟩
    | 3, _ => ⟨_, rfl⟩
    | 4, _ => ⟨_, rfl⟩
    | 5, _ => ⟨_, rfl⟩
    | 6, _ => ⟨_, rfl⟩
    | 7, _ => ⟨_, rfl⟩
    | 8, _ => ⟨_, rfl⟩
    | 9, _ => ⟨_, rfl⟩
    | 10, _ => ⟨_, rfl⟩
    | 11, _ => ⟨_, rfl⟩
    | 12, _ => ⟨_, rfl⟩
    | 13, _ => ⟨_, rfl⟩
    | 14, _ => ⟨_, rfl⟩
    | 15, _ => ⟨_, rfl⟩
    | 16, _ => ⟨_, rfl⟩
    | 17, _ => ⟨_, rfl⟩
    | 18, _ => ⟨_, rfl⟩
    | 19, _ => ⟨_, rfl⟩
    | 20, _ => ⟨_, rfl⟩
    | 21, _ => ⟨_, rfl⟩
    | 22, _ => ⟨_, rfl⟩
    | 23, _ => ⟨_, rfl⟩
    | 24, _ => ⟨_, rfl⟩
    | 25, _ => ⟨_, rfl⟩
    | 26, _ => ⟨_, rfl⟩
    | n + 27, h => absurd h (by omega)
  have hpi : ∀ i, i < 27 → ∀ j, j < 27 → ([0, 1, 2, 3, 4, 13, 14, 15, 21, 22, 26, 5, 6, 7, 8, 9, 10, 11, 12, 16, 17, 18, 19, 20, 23, 24, 25] : List Nat).getD i 0 = ([0, 1, 2, 3, 4, 13, 14, 15, 21, 22, 26, 5, 6, 7, 8, 9, 10, 11, 12, 16, 17, 18, 19, 20, 23, 24, 25] : List Nat).getD j 0 → i = j := by decide +kernel
  have hnd : ndz 27 ad := fun i j hi hj h => by
    obtain ⟨e1, h1⟩ := hpos i hi
    obtain ⟨e2, h2⟩ := hpos j hj
    exact hpi i hi j hj (hD.1 _ _ _ _ h1 h2 h)
  have hAd : ∀ i, i < 27 → aIn h0 s.heap.size (ad i) := fun i hi => by
    obtain ⟨e1, h1⟩ := hpos i hi
    exact hD.2 _ _ h1
  have had0 : ad 0 = h0 := by rw [had]; rfl
  have hP9 : va_P D vwCl (wz 27 ad (wcE ad cI cJ cQ Mz (fun _ => 0) (fun _ => lN 0))) H := by
    intro k q hk
    obtain ⟨hk1, rfl⟩ := wz_inv hk
    subst had
    exact match k, hk1 with
    | 0, _ => hP 0 _ rfl
    | 1, _ => hP 1 _ rfl
    | 2, _ => hP 2 _ rfl
    | 3, _ => hP 3 _ rfl
    | 4, _ => (hP 4 _ rfl).trans (congrArg some (rows_congr (fun j hj => match j, hj with | 0, _ => rfl | 1, _ => rfl | 2, _ => rfl | 3, _ => rfl | 4, _ => rfl | 5, _ => rfl | 6, _ => rfl | 7, _ => rfl | n + 8, h => absurd h (by omega))))
    | 5, _ => hP 13 _ rfl
    | 6, _ => hP 14 _ rfl
    | 7, _ => (hP 15 _ rfl).trans (congrArg some (rows_congr (fun j hj => match j, hj with | 0, _ => rfl | 1, _ => rfl | 2, _ => rfl | 3, _ => rfl | 4, _ => rfl | n + 5, h => absurd h (by omega))))
    | 8, _ => hP 21 _ rfl
    | 9, _ => (hP 22 _ rfl).trans (congrArg some (rows_congr (fun j hj => match j, hj with | 0, _ => rfl | 1, _ => rfl | 2, _ => rfl | n + 3, h => absurd h (by omega))))
    | 10, _ => hP 26 _ rfl
    | 11, _ => hP 5 _ rfl
    | 12, _ => hP 6 _ rfl
    | 13, _ => hP 7 _ rfl
    | 14, _ => hP 8 _ rfl
    | 15, _ => hP 9 _ rfl
    | 16, _ => hP 10 _ rfl
    | 17, _ => hP 11 _ rfl
    | 18, _ => hP 12 _ rfl
    | 19, _ => hP 16 _ rfl
    | 20, _ => hP 17 _ rfl
    | 21, _ => hP 18 _ rfl
    | 22, _ => hP 19 _ rfl
    | 23, _ => hP 20 _ rfl
    | 24, _ => hP 23 _ rfl
    | 25, _ => hP 24 _ rfl
    | 26, _ => hP 25 _ rfl
    | n + 27, h => absurd h (by omega)
  clear hP hpos hpi
  have hP := hP9
  have hK9 : va_K D vwCl [(cI, .int), (cJ, .long), (cQ, .array .int)] s := hK.sub [0, 2, 1] rfl
  have hK := hK9
  have hK : va_K D vwCl [(cI, .int), (cJ, .long), (cQ, .array .int)] s := hK
  rw [← had0] at hl
  refine lv_iconst (v := nI 0) hx hb dX0_init_90 (by decide) ?_
  refine lv_istore_n (lv' := [(1, .int (nI (0))), (0, .ref (ad 0))]) hx hb dX0_init_91 rfl hl (by decide) rfl (fun ls hl => ?_)
  have lp92 : ∀ (n f : Nat), f ≤ 3 → 3 - f < n → ∀ (H : Heap) (locs : List Loc), va_P D vwCl (wz 27 ad (wcE ad cI cJ cQ (rall (f)) ((fun _ => 0)) ((fun _ => lN 0)))) H → va_S (aIn h0 s.heap.size) s.heap H locs → ∀ ls : Array Slot, lv_has ls 3 [(0, .ref (ad 0)), (1, .int (nI (f)))] → W p l e ({ frames := 1, cells := 26, slots := 446, locals := 12 }) s m args below meth c H locs 26 446 Q (F0 m 92 ls []) := by
    intro n
    induction n with
    | zero => intro f q1 q2; omega
    | succ n ih92 =>
      intro f q1_92 q2_92 H locs hP hS ls hl
      refine lv_iload_n hx hb dX0_init_92 rfl (lv_at hl 1 rfl) ?_
      refine lv_iconst (v := nI 3) hx hb dX0_init_93 (by decide) ?_
      refine zb_ge (tgt := 126) hx hb (by omega) (by omega) dX0_init_94 (by decide) (fun c_1 => ?_) (fun c_1 => ?_)
      · skip
        have q_2 : f = 3 := by omega
        subst q_2
        exact hret (u := (ad, cI, cJ, cQ)) (by decide) (by decide) ⟨had0, hnd, hAd⟩ hS (fun t ht hA => ⟨va_K.moved hA hK9, by rw [ht]; exact hP⟩) dX0_init_126
      · skip
        refine lv_iconst (v := nI 0) hx hb dX0_init_97 (by decide) ?_
        refine lv_istore_n (lv' := [(2, .int (nI (0))), (0, .ref (ad 0)), (1, .int (nI (f)))]) hx hb dX0_init_98 rfl hl (by decide) rfl (fun ls hl => ?_)
        have lp99 : ∀ (n t : Nat), t ≤ 3 → 3 - t < n → ∀ (H : Heap) (locs : List Loc), va_P D vwCl (wz 27 ad (wcE ad cI cJ cQ (rrow (rall f) f (t)) ((fun _ => 0)) ((fun _ => lN 0)))) H → va_S (aIn h0 s.heap.size) s.heap H locs → ∀ ls : Array Slot, lv_has ls 3 [(0, .ref (ad 0)), (1, .int (nI (f))), (2, .int (nI (t)))] → W p l e ({ frames := 1, cells := 26, slots := 446, locals := 12 }) s m args below meth c H locs 26 446 Q (F0 m 99 ls []) := by
          intro n
          induction n with
          | zero => intro t q1 q2; omega
          | succ n ih99 =>
            intro t q1_99 q2_99 H locs hP hS ls hl
            refine lv_iload_n hx hb dX0_init_99 rfl (lv_at hl 2 rfl) ?_
            refine lv_iconst (v := nI 3) hx hb dX0_init_100 (by decide) ?_
            refine zb_ge (tgt := 120) hx hb (by omega) (by omega) dX0_init_101 (by decide) (fun c_3 => ?_) (fun c_3 => ?_)
            · skip
              have q_4 : t = 3 := by omega
              subst q_4
              refine lv_iinc (v := nI (f + 1)) (lv' := [(1, .int (nI (f + 1))), (0, .ref (ad 0)), (2, .int (nI (3)))]) hx hb dX0_init_120 hl (k := 1) rfl (zn_inc (f)) (by decide) rfl (fun ls hl => ?_)
              refine lv_goto (tgt := 92) hx hb dX0_init_123 (by decide) ?_
              exact ih92 (f + 1) (by omega) (by omega) _ _ hP hS _ (lv_sub hl [1, 0] rfl)
            · skip
              refine lv_aload_n hx hb dX0_init_104 rfl (lv_at hl 0 rfl) ?_
              refine zg0 hx hb hw0 hown hK hP (by decide) rfl 8 (by decide) (hts (.fieldLink RX0 36 "WellField" "ratios" "[[I") (by decide +kernel)) rfl rfl dX0_init_105 ?_
              refine lv_iload_n hx hb dX0_init_108 rfl (lv_at hl 1 rfl) ?_
              refine zq_ld hx hb hK hP 9 (by decide) 2 rfl rfl (by decide) (i := f) (by omega) (a := ad (24 + (f))) rfl dX0_init_109 ?_
              refine lv_iload_n hx hb dX0_init_110 rfl (lv_at hl 2 rfl) ?_
              refine lv_bipush (v := nI 100) hx hb dX0_init_111 (by decide) ?_
              refine zi_st hx hb hK hP hnd hAd hS (24 + (f)) (by omega) 0 (wcE_rat (by omega)) rfl (by decide) (i := t) (by omega) (wcE ad cI cJ cQ (mup (rrow (rall f) f (t)) (12 + 3 * (f)) (t) (100)) ((fun _ => 0)) ((fun _ => lN 0))) (wcS_ra (by omega)) dX0_init_113 (fun H locs hP hS => ?_)
              refine lv_iinc (v := nI (t + 1)) (lv' := [(2, .int (nI (t + 1))), (0, .ref (ad 0)), (1, .int (nI (f)))]) hx hb dX0_init_114 hl (k := 2) rfl (zn_inc (t)) (by decide) rfl (fun ls hl => ?_)
              refine lv_goto (tgt := 99) hx hb dX0_init_117 (by decide) ?_
              exact ih99 (t + 1) (by omega) (by omega) _ _ hP hS _ (lv_sub hl [1, 2, 0] rfl)
        exact lp99 (3 - (0) + 1) (0) (by omega) (by omega) _ _ hP hS _ (lv_sub hl [1, 2, 0] rfl)
  exact lp92 (3 - (0) + 1) (0) (by omega) (by omega) _ _ hP hS _ (lv_sub hl [1, 0] rfl)
