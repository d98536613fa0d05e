set_option maxHeartbeats 4000000 in
set_option maxRecDepth 100000 in
/-- a month is pumped -/
theorem l_pumps0 (l : Launch) (hfl : l.stackTraces = false) {D : va_G} {ad : Nat → Nat} {cI cJ cQ : ClassId} {K : Mdl} {ts : Nat → Nat} {pu : Nat → Int64} {X : Nat → va_E} {sa : Nat → Nat} {sz z0 : Nat} (hI : Inl K) (hnd : ndz 37 ad) (hAd : ∀ i, i < 37 → zA z0 (ad i)) (hz0 : z0 ≤ sz) (hT : hTs K ts) (g : Int32) {b9 w9 : Nat} (hb5 : b9 < 5) (hw5 : w9 < 2 ^ 31) (hbw : w9 < K 0 0 → b9 = w9) : Met l yL_pumps wsL_pumps (rmX 3 10) (va_Pc [.ref (ad 0), .int (bB (false)), .int (g), .ref (ad 27), .ref (ad (32 + (b9))), .int (nI (w9))] (KV D 37 ad cI cJ cQ (wxE ad cI cJ cQ K ts pu K X) sa (zA z0) sz)) (va_Qi (fun r_ (u_ : Mdl × (Nat → Nat) × (Nat → Int64)) => ∃ b : Bool, r_ = bB b ∧ (b = true ∧ Inl u_.1 ∧ hTs u_.1 u_.2.1)) (fun (u_ : Mdl × (Nat → Nat) × (Nat → Int64)) t_ => KA D 37 ad cI cJ cQ (wxE ad cI cJ cQ u_.1 u_.2.1 u_.2.2 u_.1 X) t_) (zA z0)) 10 60 (zA z0) := by
  refine mkW_Qz (S := Mdl × (Nat → Nat) × (Nat → Int64)) (post := fun b (u_ : Mdl × (Nat → Nat) × (Nat → Int64)) => b = true ∧ Inl u_.1 ∧ hTs u_.1 u_.2.1) (BQ := fun (u_ : Mdl × (Nat → Nat) × (Nat → Int64)) t_ => KA D 37 ad cI cJ cQ (wxE ad cI cJ cQ u_.1 u_.2.1 u_.2.2 u_.1 X) t_) (cc := cL_pumps) (maxL := 13) (by decide) rfl (Nat.le_of_ble_eq_true rfl) ?_
  intro p e s m args below meth c Q C0 B0 hret ls hl
  obtain ⟨hx, hb, hr, hml, hown, hts, hlocks⟩ := C0
  have hown : s.vm.findClass RL = some m.cls := hown
  obtain ⟨hsz, hX, hK, hP⟩ := B0
  subst hsz
  have b_nw := hI.nw
  have b_nv := hI.nv
  have hS : va_S (zA z0) s.heap s.heap [] := va_S.rf
  have hl : lv_has ls 13 [(0, .ref (ad 0)), (1, .int (bB (false))), (2, .int (g)), (3, .ref (ad 27)), (4, .ref (ad (32 + (b9)))), (5, .int (nI (w9)))] := hl
  suffices mg24 : ∀ (mo9 : Nat), (mo9 ≤ 36) → ∀ ls : Array Slot, lv_has ls 13 [(0, .ref (ad 0)), (1, .int (bB (false))), (2, .int (g)), (3, .ref (ad 27)), (4, .ref (ad (32 + (b9)))), (5, .int (nI (w9)))] → W p l e (rmX 3 10) s m args below meth c s.heap [] (0) (0) Q (F0 m 24 ls [.int (nI (mo9))]) by
    refine lv_iload_n hx hb dL_pumps_0 rfl (lv_at hl 2 rfl) ?_
    refine lv_iconst (v := nI 3) hx hb dL_pumps_1 (by decide) ?_
    refine lv_ishr hx hb dL_pumps_2 ?_
    refine lv_bipush (v := nI 50) hx hb dL_pumps_3 (by decide) ?_
    refine vp_callSi (W.runS (As := [.int ((g) >>> (nI (3) &&& 31)), .int (nI (50))]) (rest := []) ⟨hx, hb, hml, hown, hts⟩ (l_some l (((g) >>> (nI (3) &&& 31))) (N := 50) (by omega) (by omega)) (va_cwS 2 hts gL_pumps_L_some rfl rfl rfl (by decide +kernel) (by decide)) (psN) rfl rfl hl.1 rfl (lv_room (Nat.le_of_ble_eq_true rfl)) dL_pumps_5 (by decide)) (fun r_2 hr_2 => ?_)
    obtain ⟨r_2j, br_2, rfl⟩ := hr_2
    refine zb_0ne (tgt := 16) hx hb (by omega) dL_pumps_8 (by decide) (fun c_3 => ?_) (fun c_3 => ?_)
    · skip
      refine lv_iload_n hx hb dL_pumps_16 rfl (lv_at hl 2 rfl) ?_
      refine lv_iconst (v := nI 3) hx hb dL_pumps_17 (by decide) ?_
      refine lv_ishr hx hb dL_pumps_18 ?_
      refine lv_bipush (v := nI 36) hx hb dL_pumps_19 (by decide) ?_
      refine vp_callSi (W.runS (As := [.int ((g) >>> (nI (3) &&& 31)), .int (nI (36))]) (rest := []) ⟨hx, hb, hml, hown, hts⟩ (l_some l (((g) >>> (nI (3) &&& 31))) (N := 36) (by omega) (by omega)) (va_cwS 2 hts gL_pumps_L_some rfl rfl rfl (by decide +kernel) (by decide)) (psN) rfl rfl hl.1 rfl (lv_room (Nat.le_of_ble_eq_true rfl)) dL_pumps_21 (by decide)) (fun r_5 hr_5 => ?_)
      obtain ⟨r_5j, br_5, rfl⟩ := hr_5
      exact mg24 (r_5j) (by omega) _ (lv_sub hl [0, 1, 2, 3, 4, 5] rfl)
    · skip
      refine lv_bipush (v := nI 36) hx hb dL_pumps_11 (by decide) ?_
      refine lv_goto (tgt := 24) hx hb dL_pumps_13 (by decide) ?_
      exact mg24 (36) (by omega) _ (lv_sub hl [0, 1, 2, 3, 4, 5] rfl)
  intro mo9 hmo ls hl
  refine lv_istore (lv' := [(6, .int (nI (mo9))), (0, .ref (ad 0)), (1, .int (bB (false))), (2, .int (g)), (3, .ref (ad 27)), (4, .ref (ad (32 + (b9)))), (5, .int (nI (w9)))]) hx hb dL_pumps_24 hl (by decide) rfl (fun ls hl => ?_)
  suffices mg69 : ∀ (un9 : Nat), (un9 ≤ 1001) → ∀ ls : Array Slot, lv_has ls 13 [(6, .int (nI (mo9))), (0, .ref (ad 0)), (1, .int (bB (false))), (2, .int (g)), (3, .ref (ad 27)), (4, .ref (ad (32 + (b9)))), (5, .int (nI (w9)))] → W p l e (rmX 3 10) s m args below meth c s.heap [] (0) (0) Q (F0 m 69 ls [.int (nI (un9))]) by
    refine lv_iload_n hx hb dL_pumps_26 rfl (lv_at hl 3 rfl) ?_
    refine lv_bipush (v := nI 6) hx hb dL_pumps_27 (by decide) ?_
    refine lv_ishr hx hb dL_pumps_29 ?_
    refine lv_bipush (v := nI 50) hx hb dL_pumps_30 (by decide) ?_
    refine vp_callSi (W.runS (As := [.int ((g) >>> (nI (6) &&& 31)), .int (nI (50))]) (rest := []) ⟨hx, hb, hml, hown, hts⟩ (l_some l (((g) >>> (nI (6) &&& 31))) (N := 50) (by omega) (by omega)) (va_cwS 2 hts gL_pumps_L_some rfl rfl rfl (by decide +kernel) (by decide)) (psN) rfl rfl hl.1 rfl (lv_room (Nat.le_of_ble_eq_true rfl)) dL_pumps_32 (by decide)) (fun r_7 hr_7 => ?_)
    obtain ⟨r_7j, br_7, rfl⟩ := hr_7
    refine zb_0ne (tgt := 44) hx hb (by omega) dL_pumps_35 (by decide) (fun c_8 => ?_) (fun c_8 => ?_)
    · skip
      refine lv_iload_n hx hb dL_pumps_44 rfl (lv_at hl 3 rfl) ?_
      refine lv_bipush (v := nI 6) hx hb dL_pumps_45 (by decide) ?_
      refine lv_ishr hx hb dL_pumps_47 ?_
      refine lv_iconst (v := nI 4) hx hb dL_pumps_48 (by decide) ?_
      refine vp_callSi (W.runS (As := [.int ((g) >>> (nI (6) &&& 31)), .int (nI (4))]) (rest := []) ⟨hx, hb, hml, hown, hts⟩ (l_some l (((g) >>> (nI (6) &&& 31))) (N := 4) (by omega) (by omega)) (va_cwS 2 hts gL_pumps_L_some rfl rfl rfl (by decide +kernel) (by decide)) (psN) rfl rfl hl.1 rfl (lv_room (Nat.le_of_ble_eq_true rfl)) dL_pumps_49 (by decide)) (fun r_10 hr_10 => ?_)
      obtain ⟨r_10j, br_10, rfl⟩ := hr_10
      refine zb_0ne (tgt := 59) hx hb (by omega) dL_pumps_52 (by decide) (fun c_11 => ?_) (fun c_11 => ?_)
      · skip
        refine lv_iload_n hx hb dL_pumps_59 rfl (lv_at hl 3 rfl) ?_
        refine lv_bipush (v := nI 7) hx hb dL_pumps_60 (by decide) ?_
        refine lv_ishr hx hb dL_pumps_62 ?_
        refine lv_sipush (v := nI 301) hx hb dL_pumps_63 (by decide) ?_
        refine vp_callSi (W.runS (As := [.int ((g) >>> (nI (7) &&& 31)), .int (nI (301))]) (rest := []) ⟨hx, hb, hml, hown, hts⟩ (l_some l (((g) >>> (nI (7) &&& 31))) (N := 301) (by omega) (by omega)) (va_cwS 2 hts gL_pumps_L_some rfl rfl rfl (by decide +kernel) (by decide)) (psN) rfl rfl hl.1 rfl (lv_room (Nat.le_of_ble_eq_true rfl)) dL_pumps_66 (by decide)) (fun r_13 hr_13 => ?_)
        obtain ⟨r_13j, br_13, rfl⟩ := hr_13
        exact mg69 (r_13j) (by omega) _ (lv_sub hl [0, 1, 2, 3, 4, 5, 6] rfl)
      · skip
        refine lv_iconst (v := nI 0) hx hb dL_pumps_55 (by decide) ?_
        refine lv_goto (tgt := 69) hx hb dL_pumps_56 (by decide) ?_
        exact mg69 (0) (by omega) _ (lv_sub hl [0, 1, 2, 3, 4, 5, 6] rfl)
    · skip
      refine lv_sipush (v := nI 1001) hx hb dL_pumps_38 (by decide) ?_
      refine lv_goto (tgt := 69) hx hb dL_pumps_41 (by decide) ?_
      exact mg69 (1001) (by omega) _ (lv_sub hl [0, 1, 2, 3, 4, 5, 6] rfl)
  intro un9 hun ls hl
  refine lv_istore (lv' := [(7, .int (nI (un9))), (6, .int (nI (mo9))), (0, .ref (ad 0)), (1, .int (bB (false))), (2, .int (g)), (3, .ref (ad 27)), (4, .ref (ad (32 + (b9)))), (5, .int (nI (w9)))]) hx hb dL_pumps_69 hl (by decide) rfl (fun ls hl => ?_)
  suffices mg96 : ∀ (is9 : Bool), (is9 = true ↔ (w9 < K 0 0 ∧ mo9 < 36)) → ∀ ls : Array Slot, lv_has ls 13 [(7, .int (nI (un9))), (6, .int (nI (mo9))), (0, .ref (ad 0)), (1, .int (bB (false))), (2, .int (g)), (3, .ref (ad 27)), (4, .ref (ad (32 + (b9)))), (5, .int (nI (w9)))] → W p l e (rmX 3 10) s m args below meth c s.heap [] (0) (0) Q (F0 m 96 ls [.int (bB (is9))]) by
    refine lv_iload hx hb dL_pumps_71 (lv_at hl 7 rfl) ?_
    refine zb_0lt (tgt := 95) hx hb (by omega) dL_pumps_73 (by decide) ?_
    refine lv_iload hx hb dL_pumps_76 (lv_at hl 7 rfl) ?_
    refine lv_aload_n hx hb dL_pumps_78 rfl (lv_at hl 5 rfl) ?_
    refine lv_iconst (v := nI 0) hx hb dL_pumps_79 (by decide) ?_
    refine zi_ld hx hb hK hP 27 (by decide) 0 rfl rfl (by decide) (i := 0) (by omega) (v := nI (K 0 0)) rfl dL_pumps_80 ?_
    refine zb_ge (tgt := 95) hx hb (by omega) (by omega) dL_pumps_81 (by decide) (fun c_15 => ?_) (fun c_15 => ?_)
    · skip
      refine lv_iconst (v := nI 0) hx hb dL_pumps_95 (by decide) ?_
      refine zt_i (y := bB (false)) rfl ?_
      exact mg96 (false) (iff_of_false (by decide) (by omega)) _ (lv_sub hl [0, 1, 2, 3, 4, 5, 6, 7] rfl)
    · skip
      refine lv_iload hx hb dL_pumps_84 (lv_at hl 1 rfl) ?_
      refine lv_bipush (v := nI 36) hx hb dL_pumps_86 (by decide) ?_
      refine zb_ge (tgt := 95) hx hb (by omega) (by omega) dL_pumps_88 (by decide) (fun c_16 => ?_) (fun c_16 => ?_)
      · skip
        refine lv_iconst (v := nI 0) hx hb dL_pumps_95 (by decide) ?_
        refine zt_i (y := bB (false)) rfl ?_
        exact mg96 (false) (iff_of_false (by decide) (by omega)) _ (lv_sub hl [0, 1, 2, 3, 4, 5, 6, 7] rfl)
      · skip
        refine lv_iconst (v := nI 1) hx hb dL_pumps_91 (by decide) ?_
        refine lv_goto (tgt := 96) hx hb dL_pumps_92 (by decide) ?_
        refine zt_i (y := bB (true)) rfl ?_
        exact mg96 (true) (iff_of_true rfl (by omega)) _ (lv_sub hl [0, 1, 2, 3, 4, 5, 6, 7] rfl)
  intro is9 his ls hl
  refine lv_istore (lv' := [(8, .int (bB (is9))), (7, .int (nI (un9))), (6, .int (nI (mo9))), (0, .ref (ad 0)), (1, .int (bB (false))), (2, .int (g)), (3, .ref (ad 27)), (4, .ref (ad (32 + (b9)))), (5, .int (nI (w9)))]) hx hb dL_pumps_96 hl (by decide) rfl (fun ls hl => ?_)
  refine lv_iload_n hx hb dL_pumps_98 rfl (lv_at hl 4 rfl) ?_
  refine zb_Beq (tgt := 255) hx hb dL_pumps_99 (by decide) (fun _ => ?_) (fun c_17 => False.elim (by revert c_17; decide))
  suffices mg268 : ∀ (fi9 : Bool), (fi9 = true ↔ (un9 < 1001)) → ∀ ls : Array Slot, lv_has ls 13 [(8, .int (bB (is9))), (7, .int (nI (un9))), (6, .int (nI (mo9))), (0, .ref (ad 0)), (1, .int (bB (false))), (2, .int (g)), (3, .ref (ad 27)), (4, .ref (ad (32 + (b9)))), (5, .int (nI (w9)))] → W p l e (rmX 3 10) s m args below meth c s.heap [] (0) (0) Q (F0 m 268 ls [.int (bB (fi9))]) by
    refine lv_iload hx hb dL_pumps_255 (lv_at hl 1 rfl) ?_
    refine lv_sipush (v := nI 1001) hx hb dL_pumps_257 (by decide) ?_
    refine zb_ge (tgt := 267) hx hb (by omega) (by omega) dL_pumps_260 (by decide) (fun c_18 => ?_) (fun c_18 => ?_)
    · skip
      refine lv_iconst (v := nI 0) hx hb dL_pumps_267 (by decide) ?_
      refine zt_i (y := bB (false)) rfl ?_
      exact mg268 (false) (iff_of_false (by decide) (by omega)) _ (lv_sub hl [0, 1, 2, 3, 4, 5, 6, 7, 8] rfl)
    · skip
      refine lv_iconst (v := nI 1) hx hb dL_pumps_263 (by decide) ?_
      refine lv_goto (tgt := 268) hx hb dL_pumps_264 (by decide) ?_
      refine zt_i (y := bB (true)) rfl ?_
      exact mg268 (true) (iff_of_true rfl (by omega)) _ (lv_sub hl [0, 1, 2, 3, 4, 5, 6, 7, 8] rfl)
  intro fi9 hfi ls hl
  refine lv_istore (lv' := [(9, .int (bB (fi9))), (8, .int (bB (is9))), (7, .int (nI (un9))), (6, .int (nI (mo9))), (0, .ref (ad 0)), (1, .int (bB (false))), (2, .int (g)), (3, .ref (ad 27)), (4, .ref (ad (32 + (b9)))), (5, .int (nI (w9)))]) hx hb dL_pumps_268 hl (by decide) rfl (fun ls hl => ?_)
  suffices mg284 : ∀ (bf9 : Nat), (is9 = true → bf9 = K (10 + 3 * (b9)) (mo9)) → ∀ ls : Array Slot, lv_has ls 13 [(9, .int (bB (fi9))), (8, .int (bB (is9))), (7, .int (nI (un9))), (6, .int (nI (mo9))), (0, .ref (ad 0)), (1, .int (bB (false))), (2, .int (g)), (3, .ref (ad 27)), (4, .ref (ad (32 + (b9)))), (5, .int (nI (w9)))] → W p l e (rmX 3 10) s m args below meth c s.heap [] (0) (0) Q (F0 m 284 ls [.int (nI (bf9))]) by
    refine lv_iload hx hb dL_pumps_270 (lv_at hl 1 rfl) ?_
    refine zb_Beq (tgt := 283) hx hb dL_pumps_272 (by decide) (fun c_19 => ?_) (fun c_19 => ?_)
    · skip
      refine lv_iconst (v := nI 0) hx hb dL_pumps_283 (by decide) ?_
      exact mg284 (0) (fun h9 => absurd (h9.symm.trans (by assumption : is9 = false)) (by decide)) _ (lv_sub hl [0, 1, 2, 3, 4, 5, 6, 7, 8, 9] rfl)
    · skip
      have hi3 := his.mp c_19
      refine lv_aload hx hb dL_pumps_275 (lv_at hl 8 rfl) ?_
      refine lv_iload hx hb dL_pumps_277 (lv_at hl 3 rfl) ?_
      have f_20 := hI.inv.un (b9) (by omega) (mo9)
      refine zi_ld hx hb hK hP (32 + (b9)) (by omega) 0 (wx_p (by omega)) rfl (by decide) (i := mo9) (by omega) (v := nI (K (10 + 3 * (b9)) (mo9))) rfl dL_pumps_279 ?_
      refine lv_goto (tgt := 284) hx hb dL_pumps_280 (by decide) ?_
      exact mg284 (K (10 + 3 * (b9)) (mo9)) (fun _ => rfl) _ (lv_sub hl [0, 1, 2, 3, 4, 5, 6, 7, 8, 9] rfl)
  intro bf9 hbf ls hl
  refine lv_istore (lv' := [(10, .int (nI (bf9))), (9, .int (bB (fi9))), (8, .int (bB (is9))), (7, .int (nI (un9))), (6, .int (nI (mo9))), (0, .ref (ad 0)), (1, .int (bB (false))), (2, .int (g)), (3, .ref (ad 27)), (4, .ref (ad (32 + (b9)))), (5, .int (nI (w9)))]) hx hb dL_pumps_284 hl (by decide) rfl (fun ls hl => ?_)
  refine lv_iload hx hb dL_pumps_286 (lv_at hl 2 rfl) ?_
  refine zb_Beq (tgt := 303) hx hb dL_pumps_288 (by decide) (fun c_21 => ?_) (fun c_21 => ?_)
  · skip
    subst c_21
    have hip : ¬ (w9 < K 0 0 ∧ mo9 < 36) := fun z => absurd (his.mpr z) (by decide)
    refine lv_aload_n hx hb dL_pumps_303 rfl (lv_at hl 5 rfl) ?_
    refine lv_iconst (v := nI 1) hx hb dL_pumps_304 (by decide) ?_
    refine lv_iload hx hb dL_pumps_305 (lv_at hl 10 rfl) ?_
    refine lv_iload hx hb dL_pumps_307 (lv_at hl 4 rfl) ?_
    refine lv_iload hx hb dL_pumps_309 (lv_at hl 3 rfl) ?_
    refine zz_i (vx_runSX (As := [.ref (ad 0), .int (nI (1)), .int (nI (w9)), .int (nI (mo9)), .int (nI (un9))]) (rest := []) ⟨hx, hb, hml, hown, hts⟩ (q_set1 l hfl hI.inv (by decide) hnd hAd (Nat.le_trans hz0 hS.1) hT  (nI (w9)) (nI (mo9)) (nI (un9))) (vx_cwSW 5 hts gL_pumps_L_set rfl rfl rfl (by decide +kernel) (by decide)) (psV hK hP hX (fun a h1 h2 => hS.2.1 a h1 h2)) rfl rfl hl.1 rfl (lv_room (Nat.le_of_ble_eq_true rfl)) dL_pumps_311 ⟨show 0 + 3 ≤ 10 by omega, show 0 + 18 ≤ 60 by omega⟩) hS (fun q _ h => h) (fun q h => h) (fun r9 u_22 t9 H locs ht9 hv9 hp9 hB9 hz1 hk1 hS => ?_)
    obtain ⟨e_22, hT⟩ := hp9
    have hP := hB9.2
    rw [ht9] at hP
    clear hB9 ht9 hv9 hz1 hk1
    have hcd_22 : cd2 (ixB (nI (w9)) (K 0 0) && ixB (nI (mo9)) 36) (rgB (nI (un9)) (nI 0) (nI 1000)) = 1 := cd2_1 (ix2_f (by omega) (by omega) (by omega) (by omega) (by decide))
    have eM_22 : moC (cd2 (ixB (nI (w9)) (K 0 0) && ixB (nI (mo9)) 36) (rgB (nI (un9)) (nI 0) (nI 1000))) (nx_pump K (clN (nI (w9))) (clN (nI (mo9))) (clN (nI (un9)))) K = K := moC_n (by rw [hcd_22]; decide)
    rw [eM_22] at hP hT
    have e_22 := e_22.trans (rsc_1 hcd_22)
    subst e_22
    refine lv_iload hx hb dL_pumps_314 (lv_at hl 2 rfl) ?_
    refine zb_Bne (tgt := 324) hx hb dL_pumps_316 (by decide) (fun c_23 => False.elim (by revert c_23; decide)) (fun _ => ?_)
    refine lv_bipush (v := (-101)) hx hb dL_pumps_319 (by decide) ?_
    refine lv_goto (tgt := 336) hx hb dL_pumps_321 (by decide) ?_
    refine lv_icmp_ne (tgt := 343) hx hb dL_pumps_336 (by decide) (fun c_24 => False.elim (by revert c_24; decide)) (fun _ => ?_)
    refine lv_iconst (v := nI 1) hx hb dL_pumps_339 (by decide) ?_
    refine lv_goto (tgt := 344) hx hb dL_pumps_340 (by decide) ?_
    exact hret (b := true) (u := (K, u_22.1, u_22.2)) (show 0 + 3 ≤ 10 by omega) (show 0 + 18 ≤ 60 by omega) ⟨rfl, hI, hT⟩ rfl hS (fun t ht hA => ⟨va_K.moved hA hK, by rw [ht]; exact hP⟩) dL_pumps_344
  · skip
    subst c_21
    have hip := his.mp rfl
    have ebw := hbw hip.1
    subst ebw
    have fbv := hI.inv.un b9 (by omega) mo9
    have ebf := hbf rfl
    subst ebf
    refine lv_iload hx hb dL_pumps_291 (lv_at hl 1 rfl) ?_
    refine zb_Beq (tgt := 303) hx hb dL_pumps_293 (by decide) (fun c_25 => ?_) (fun c_25 => ?_)
    · skip
      subst c_25
      have hfp : ¬ (un9 < 1001) := fun z => absurd (hfi.mpr z) (by decide)
      refine lv_aload_n hx hb dL_pumps_303 rfl (lv_at hl 5 rfl) ?_
      refine lv_iconst (v := nI 1) hx hb dL_pumps_304 (by decide) ?_
      refine lv_iload hx hb dL_pumps_305 (lv_at hl 10 rfl) ?_
      refine lv_iload hx hb dL_pumps_307 (lv_at hl 4 rfl) ?_
      refine lv_iload hx hb dL_pumps_309 (lv_at hl 3 rfl) ?_
      refine zz_i (vx_runSX (As := [.ref (ad 0), .int (nI (1)), .int (nI (b9)), .int (nI (mo9)), .int (nI (un9))]) (rest := []) ⟨hx, hb, hml, hown, hts⟩ (q_set1 l hfl hI.inv (by decide) hnd hAd (Nat.le_trans hz0 hS.1) hT  (nI (b9)) (nI (mo9)) (nI (un9))) (vx_cwSW 5 hts gL_pumps_L_set rfl rfl rfl (by decide +kernel) (by decide)) (psV hK hP hX (fun a h1 h2 => hS.2.1 a h1 h2)) rfl rfl hl.1 rfl (lv_room (Nat.le_of_ble_eq_true rfl)) dL_pumps_311 ⟨show 0 + 3 ≤ 10 by omega, show 0 + 18 ≤ 60 by omega⟩) hS (fun q _ h => h) (fun q h => h) (fun r9 u_26 t9 H locs ht9 hv9 hp9 hB9 hz1 hk1 hS => ?_)
      obtain ⟨e_26, hT⟩ := hp9
      have hP := hB9.2
      rw [ht9] at hP
      clear hB9 ht9 hv9 hz1 hk1
      have hcd_26 : cd2 (ixB (nI (b9)) (K 0 0) && ixB (nI (mo9)) 36) (rgB (nI (un9)) (nI 0) (nI 1000)) = 2 := cd2_2 (ix2_t (by omega) (by omega) (by omega) (by decide)) (rg_f (by omega) (by omega) (by decide) (by decide))
      have eM_26 : moC (cd2 (ixB (nI (b9)) (K 0 0) && ixB (nI (mo9)) 36) (rgB (nI (un9)) (nI 0) (nI 1000))) (nx_pump K (clN (nI (b9))) (clN (nI (mo9))) (clN (nI (un9)))) K = K := moC_n (by rw [hcd_26]; decide)
      rw [eM_26] at hP hT
      have e_26 := e_26.trans (rsc_2 hcd_26)
      subst e_26
      refine lv_iload hx hb dL_pumps_314 (lv_at hl 2 rfl) ?_
      refine zb_Bne (tgt := 324) hx hb dL_pumps_316 (by decide) (fun _ => ?_) (fun c_27 => False.elim (by revert c_27; decide))
      refine lv_iload hx hb dL_pumps_324 (lv_at hl 1 rfl) ?_
      refine zb_Beq (tgt := 334) hx hb dL_pumps_326 (by decide) (fun _ => ?_) (fun c_28 => False.elim (by revert c_28; decide))
      refine lv_bipush (v := (-102)) hx hb dL_pumps_334 (by decide) ?_
      refine lv_icmp_ne (tgt := 343) hx hb dL_pumps_336 (by decide) (fun c_29 => False.elim (by revert c_29; decide)) (fun _ => ?_)
      refine lv_iconst (v := nI 1) hx hb dL_pumps_339 (by decide) ?_
      refine lv_goto (tgt := 344) hx hb dL_pumps_340 (by decide) ?_
      exact hret (b := true) (u := (K, u_26.1, u_26.2)) (show 0 + 3 ≤ 10 by omega) (show 0 + 18 ≤ 60 by omega) ⟨rfl, hI, hT⟩ rfl hS (fun t ht hA => ⟨va_K.moved hA hK, by rw [ht]; exact hP⟩) dL_pumps_344
    · skip
      subst c_25
      have hfp := hfi.mp rfl
      refine lv_aload hx hb dL_pumps_296 (lv_at hl 9 rfl) ?_
      refine lv_iload hx hb dL_pumps_298 (lv_at hl 4 rfl) ?_
      refine lv_iload hx hb dL_pumps_300 (lv_at hl 3 rfl) ?_
      refine zi_st hx hb hK hP hnd hAd hS (32 + (b9)) (by omega) 0 (wx_p (by omega)) rfl (by decide) (i := mo9) (by omega) (wxE ad cI cJ cQ (K) (ts) (pu) (mup K (10 + 3 * (b9)) (mo9) (un9)) (X)) (wlS_p (by omega)) dL_pumps_302 (fun H locs hP hS => ?_)
      refine lv_aload_n hx hb dL_pumps_303 rfl (lv_at hl 5 rfl) ?_
      refine lv_iconst (v := nI 1) hx hb dL_pumps_304 (by decide) ?_
      refine lv_iload hx hb dL_pumps_305 (lv_at hl 10 rfl) ?_
      refine lv_iload hx hb dL_pumps_307 (lv_at hl 4 rfl) ?_
      refine lv_iload hx hb dL_pumps_309 (lv_at hl 3 rfl) ?_
      refine zz_i (vx_runSX (As := [.ref (ad 0), .int (nI (1)), .int (nI (b9)), .int (nI (mo9)), .int (nI (un9))]) (rest := []) ⟨hx, hb, hml, hown, hts⟩ (q_set1 l hfl hI.inv (by decide) hnd hAd (Nat.le_trans hz0 hS.1) hT  (nI (b9)) (nI (mo9)) (nI (un9))) (vx_cwSW 5 hts gL_pumps_L_set rfl rfl rfl (by decide +kernel) (by decide)) (psV hK hP hX (fun a h1 h2 => hS.2.1 a h1 h2)) rfl rfl hl.1 rfl (lv_room (Nat.le_of_ble_eq_true rfl)) dL_pumps_311 ⟨show 0 + 3 ≤ 10 by omega, show 0 + 18 ≤ 60 by omega⟩) hS (fun q _ h => h) (fun q h => h) (fun r9 u_30 t9 H locs ht9 hv9 hp9 hB9 hz1 hk1 hS => ?_)
      obtain ⟨e_30, hT⟩ := hp9
      have hP := hB9.2
      rw [ht9] at hP
      clear hB9 ht9 hv9 hz1 hk1
      have hcd_30 : cd2 (ixB (nI (b9)) (K 0 0) && ixB (nI (mo9)) 36) (rgB (nI (un9)) (nI 0) (nI 1000)) = 0 := cd2_0 (ix2_t (by omega) (by omega) (by omega) (by decide)) (rg_t (by omega) (by omega) (by decide))
      have eM_30 : moC (cd2 (ixB (nI (b9)) (K 0 0) && ixB (nI (mo9)) 36) (rgB (nI (un9)) (nI 0) (nI 1000))) (nx_pump K (clN (nI (b9))) (clN (nI (mo9))) (clN (nI (un9)))) K = nx_pump K ((b9)) ((mo9)) ((un9)) := (moC_z hcd_30).trans (by first | rfl | simp only [clN_nI (show b9 < 2 ^ 31 by omega), clN_nI (show mo9 < 2 ^ 31 by omega), clN_nI (show un9 < 2 ^ 31 by omega)])
      rw [eM_30] at hP hT
      have e_30 := e_30.trans ((rsc_0 hcd_30).trans (show nI (K (10 + 3 * clN (nI (b9))) (clN (nI (mo9)))) = nI (K (10 + 3 * (b9)) ((mo9))) by first | rfl | simp only [clN_nI (show b9 < 2 ^ 31 by omega), clN_nI (show mo9 < 2 ^ 31 by omega), clN_nI (show un9 < 2 ^ 31 by omega)]))
      subst e_30
      refine lv_iload hx hb dL_pumps_314 (lv_at hl 2 rfl) ?_
      refine zb_Bne (tgt := 324) hx hb dL_pumps_316 (by decide) (fun _ => ?_) (fun c_31 => False.elim (by revert c_31; decide))
      refine lv_iload hx hb dL_pumps_324 (lv_at hl 1 rfl) ?_
      refine zb_Beq (tgt := 334) hx hb dL_pumps_326 (by decide) (fun c_32 => False.elim (by revert c_32; decide)) (fun _ => ?_)
      refine lv_iload hx hb dL_pumps_329 (lv_at hl 0 rfl) ?_
      refine lv_goto (tgt := 336) hx hb dL_pumps_331 (by decide) ?_
      refine zb_ne (tgt := 343) hx hb (by omega) (by omega) dL_pumps_336 (by decide) (fun c_33 => ?_) (fun c_33 => ?_)
      · skip
        exact False.elim (by omega)
      · skip
        refine lv_iconst (v := nI 1) hx hb dL_pumps_339 (by decide) ?_
        refine lv_goto (tgt := 344) hx hb dL_pumps_340 (by decide) ?_
        exact hret (b := true) (u := (nx_pump K ((b9)) ((mo9)) ((un9)), u_30.1, u_30.2)) (show 0 + 3 ≤ 10 by omega) (show 0 + 18 ≤ 60 by omega) ⟨rfl, (inl_pump hI (by omega)), hT⟩ rfl hS (fun t ht hA => ⟨va_K.moved hA hK, by rw [ht]; exact hP⟩) dL_pumps_344
set_option maxHeartbeats 4000000 in
set_option maxRecDepth 100000 in
/-- a well rests -/
theorem l_pumps1 (l : Launch) (hfl : l.stackTraces = false) {D : va_G} {ad : Nat → Nat} {cI cJ cQ : ClassId} {K : Mdl} {ts : Nat → Nat} {pu : Nat → Int64} {X : Nat → va_E} {sa : Nat → Nat} {sz z0 : Nat} (hI : Inl K) (hnd : ndz 37 ad) (hAd : ∀ i, i < 37 → zA z0 (ad i)) (hz0 : z0 ≤ sz) (hT : hTs K ts) (g : Int32) {b9 w9 : Nat} (hb5 : b9 < 5) (hw5 : w9 < 2 ^ 31) (hbw : w9 < K 0 0 → b9 = w9) : Met l yL_pumps wsL_pumps (rmX 3 10) (va_Pc [.ref (ad 0), .int (bB (true)), .int (g), .ref (ad 27), .ref (ad (32 + (b9))), .int (nI (w9))] (KV D 37 ad cI cJ cQ (wxE ad cI cJ cQ K ts pu K X) sa (zA z0) sz)) (va_Qi (fun r_ (u_ : Mdl × (Nat → Nat) × (Nat → Int64)) => ∃ b : Bool, r_ = bB b ∧ (b = true ∧ Inl u_.1 ∧ hTs u_.1 u_.2.1)) (fun (u_ : Mdl × (Nat → Nat) × (Nat → Int64)) t_ => KA D 37 ad cI cJ cQ (wxE ad cI cJ cQ u_.1 u_.2.1 u_.2.2 u_.1 X) t_) (zA z0)) 10 60 (zA z0) := by
  refine mkW_Qz (S := Mdl × (Nat → Nat) × (Nat → Int64)) (post := fun b (u_ : Mdl × (Nat → Nat) × (Nat → Int64)) => b = true ∧ Inl u_.1 ∧ hTs u_.1 u_.2.1) (BQ := fun (u_ : Mdl × (Nat → Nat) × (Nat → Int64)) t_ => KA D 37 ad cI cJ cQ (wxE ad cI cJ cQ u_.1 u_.2.1 u_.2.2 u_.1 X) t_) (cc := cL_pumps) (maxL := 13) (by decide) rfl (Nat.le_of_ble_eq_true rfl) ?_
  intro p e s m args below meth c Q C0 B0 hret ls hl
  obtain ⟨hx, hb, hr, hml, hown, hts, hlocks⟩ := C0
  have hown : s.vm.findClass RL = some m.cls := hown
  obtain ⟨hsz, hX, hK, hP⟩ := B0
  subst hsz
  have b_nw := hI.nw
  have b_nv := hI.nv
  have hS : va_S (zA z0) s.heap s.heap [] := va_S.rf
  have hl : lv_has ls 13 [(0, .ref (ad 0)), (1, .int (bB (true))), (2, .int (g)), (3, .ref (ad 27)), (4, .ref (ad (32 + (b9)))), (5, .int (nI (w9)))] := hl
  suffices mg24 : ∀ (mo9 : Nat), (mo9 ≤ 36) → ∀ ls : Array Slot, lv_has ls 13 [(0, .ref (ad 0)), (1, .int (bB (true))), (2, .int (g)), (3, .ref (ad 27)), (4, .ref (ad (32 + (b9)))), (5, .int (nI (w9)))] → W p l e (rmX 3 10) s m args below meth c s.heap [] (0) (0) Q (F0 m 24 ls [.int (nI (mo9))]) by
    refine lv_iload_n hx hb dL_pumps_0 rfl (lv_at hl 2 rfl) ?_
    refine lv_iconst (v := nI 3) hx hb dL_pumps_1 (by decide) ?_
    refine lv_ishr hx hb dL_pumps_2 ?_
    refine lv_bipush (v := nI 50) hx hb dL_pumps_3 (by decide) ?_
    refine vp_callSi (W.runS (As := [.int ((g) >>> (nI (3) &&& 31)), .int (nI (50))]) (rest := []) ⟨hx, hb, hml, hown, hts⟩ (l_some l (((g) >>> (nI (3) &&& 31))) (N := 50) (by omega) (by omega)) (va_cwS 2 hts gL_pumps_L_some rfl rfl rfl (by decide +kernel) (by decide)) (psN) rfl rfl hl.1 rfl (lv_room (Nat.le_of_ble_eq_true rfl)) dL_pumps_5 (by decide)) (fun r_2 hr_2 => ?_)
    obtain ⟨r_2j, br_2, rfl⟩ := hr_2
    refine zb_0ne (tgt := 16) hx hb (by omega) dL_pumps_8 (by decide) (fun c_3 => ?_) (fun c_3 => ?_)
    · skip
      refine lv_iload_n hx hb dL_pumps_16 rfl (lv_at hl 2 rfl) ?_
      refine lv_iconst (v := nI 3) hx hb dL_pumps_17 (by decide) ?_
      refine lv_ishr hx hb dL_pumps_18 ?_
      refine lv_bipush (v := nI 36) hx hb dL_pumps_19 (by decide) ?_
      refine vp_callSi (W.runS (As := [.int ((g) >>> (nI (3) &&& 31)), .int (nI (36))]) (rest := []) ⟨hx, hb, hml, hown, hts⟩ (l_some l (((g) >>> (nI (3) &&& 31))) (N := 36) (by omega) (by omega)) (va_cwS 2 hts gL_pumps_L_some rfl rfl rfl (by decide +kernel) (by decide)) (psN) rfl rfl hl.1 rfl (lv_room (Nat.le_of_ble_eq_true rfl)) dL_pumps_21 (by decide)) (fun r_5 hr_5 => ?_)
      obtain ⟨r_5j, br_5, rfl⟩ := hr_5
      exact mg24 (r_5j) (by omega) _ (lv_sub hl [0, 1, 2, 3, 4, 5] rfl)
    · skip
      refine lv_bipush (v := nI 36) hx hb dL_pumps_11 (by decide) ?_
      refine lv_goto (tgt := 24) hx hb dL_pumps_13 (by decide) ?_
      exact mg24 (36) (by omega) _ (lv_sub hl [0, 1, 2, 3, 4, 5] rfl)
  intro mo9 hmo ls hl
  refine lv_istore (lv' := [(6, .int (nI (mo9))), (0, .ref (ad 0)), (1, .int (bB (true))), (2, .int (g)), (3, .ref (ad 27)), (4, .ref (ad (32 + (b9)))), (5, .int (nI (w9)))]) hx hb dL_pumps_24 hl (by decide) rfl (fun ls hl => ?_)
  suffices mg69 : ∀ (un9 : Nat), (un9 ≤ 1001) → ∀ ls : Array Slot, lv_has ls 13 [(6, .int (nI (mo9))), (0, .ref (ad 0)), (1, .int (bB (true))), (2, .int (g)), (3, .ref (ad 27)), (4, .ref (ad (32 + (b9)))), (5, .int (nI (w9)))] → W p l e (rmX 3 10) s m args below meth c s.heap [] (0) (0) Q (F0 m 69 ls [.int (nI (un9))]) by
    refine lv_iload_n hx hb dL_pumps_26 rfl (lv_at hl 3 rfl) ?_
    refine lv_bipush (v := nI 6) hx hb dL_pumps_27 (by decide) ?_
    refine lv_ishr hx hb dL_pumps_29 ?_
    refine lv_bipush (v := nI 50) hx hb dL_pumps_30 (by decide) ?_
    refine vp_callSi (W.runS (As := [.int ((g) >>> (nI (6) &&& 31)), .int (nI (50))]) (rest := []) ⟨hx, hb, hml, hown, hts⟩ (l_some l (((g) >>> (nI (6) &&& 31))) (N := 50) (by omega) (by omega)) (va_cwS 2 hts gL_pumps_L_some rfl rfl rfl (by decide +kernel) (by decide)) (psN) rfl rfl hl.1 rfl (lv_room (Nat.le_of_ble_eq_true rfl)) dL_pumps_32 (by decide)) (fun r_7 hr_7 => ?_)
    obtain ⟨r_7j, br_7, rfl⟩ := hr_7
    refine zb_0ne (tgt := 44) hx hb (by omega) dL_pumps_35 (by decide) (fun c_8 => ?_) (fun c_8 => ?_)
    · skip
      refine lv_iload_n hx hb dL_pumps_44 rfl (lv_at hl 3 rfl) ?_
      refine lv_bipush (v := nI 6) hx hb dL_pumps_45 (by decide) ?_
      refine lv_ishr hx hb dL_pumps_47 ?_
      refine lv_iconst (v := nI 4) hx hb dL_pumps_48 (by decide) ?_
      refine vp_callSi (W.runS (As := [.int ((g) >>> (nI (6) &&& 31)), .int (nI (4))]) (rest := []) ⟨hx, hb, hml, hown, hts⟩ (l_some l (((g) >>> (nI (6) &&& 31))) (N := 4) (by omega) (by omega)) (va_cwS 2 hts gL_pumps_L_some rfl rfl rfl (by decide +kernel) (by decide)) (psN) rfl rfl hl.1 rfl (lv_room (Nat.le_of_ble_eq_true rfl)) dL_pumps_49 (by decide)) (fun r_10 hr_10 => ?_)
      obtain ⟨r_10j, br_10, rfl⟩ := hr_10
      refine zb_0ne (tgt := 59) hx hb (by omega) dL_pumps_52 (by decide) (fun c_11 => ?_) (fun c_11 => ?_)
      · skip
        refine lv_iload_n hx hb dL_pumps_59 rfl (lv_at hl 3 rfl) ?_
        refine lv_bipush (v := nI 7) hx hb dL_pumps_60 (by decide) ?_
        refine lv_ishr hx hb dL_pumps_62 ?_
        refine lv_sipush (v := nI 301) hx hb dL_pumps_63 (by decide) ?_
        refine vp_callSi (W.runS (As := [.int ((g) >>> (nI (7) &&& 31)), .int (nI (301))]) (rest := []) ⟨hx, hb, hml, hown, hts⟩ (l_some l (((g) >>> (nI (7) &&& 31))) (N := 301) (by omega) (by omega)) (va_cwS 2 hts gL_pumps_L_some rfl rfl rfl (by decide +kernel) (by decide)) (psN) rfl rfl hl.1 rfl (lv_room (Nat.le_of_ble_eq_true rfl)) dL_pumps_66 (by decide)) (fun r_13 hr_13 => ?_)
        obtain ⟨r_13j, br_13, rfl⟩ := hr_13
        exact mg69 (r_13j) (by omega) _ (lv_sub hl [0, 1, 2, 3, 4, 5, 6] rfl)
      · skip
        refine lv_iconst (v := nI 0) hx hb dL_pumps_55 (by decide) ?_
        refine lv_goto (tgt := 69) hx hb dL_pumps_56 (by decide) ?_
        exact mg69 (0) (by omega) _ (lv_sub hl [0, 1, 2, 3, 4, 5, 6] rfl)
    · skip
      refine lv_sipush (v := nI 1001) hx hb dL_pumps_38 (by decide) ?_
      refine lv_goto (tgt := 69) hx hb dL_pumps_41 (by decide) ?_
      exact mg69 (1001) (by omega) _ (lv_sub hl [0, 1, 2, 3, 4, 5, 6] rfl)
  intro un9 hun ls hl
  refine lv_istore (lv' := [(7, .int (nI (un9))), (6, .int (nI (mo9))), (0, .ref (ad 0)), (1, .int (bB (true))), (2, .int (g)), (3, .ref (ad 27)), (4, .ref (ad (32 + (b9)))), (5, .int (nI (w9)))]) hx hb dL_pumps_69 hl (by decide) rfl (fun ls hl => ?_)
  suffices mg96 : ∀ (is9 : Bool), (is9 = true ↔ (w9 < K 0 0 ∧ mo9 < 36)) → ∀ ls : Array Slot, lv_has ls 13 [(7, .int (nI (un9))), (6, .int (nI (mo9))), (0, .ref (ad 0)), (1, .int (bB (true))), (2, .int (g)), (3, .ref (ad 27)), (4, .ref (ad (32 + (b9)))), (5, .int (nI (w9)))] → W p l e (rmX 3 10) s m args below meth c s.heap [] (0) (0) Q (F0 m 96 ls [.int (bB (is9))]) by
    refine lv_iload hx hb dL_pumps_71 (lv_at hl 7 rfl) ?_
    refine zb_0lt (tgt := 95) hx hb (by omega) dL_pumps_73 (by decide) ?_
    refine lv_iload hx hb dL_pumps_76 (lv_at hl 7 rfl) ?_
    refine lv_aload_n hx hb dL_pumps_78 rfl (lv_at hl 5 rfl) ?_
    refine lv_iconst (v := nI 0) hx hb dL_pumps_79 (by decide) ?_
    refine zi_ld hx hb hK hP 27 (by decide) 0 rfl rfl (by decide) (i := 0) (by omega) (v := nI (K 0 0)) rfl dL_pumps_80 ?_
    refine zb_ge (tgt := 95) hx hb (by omega) (by omega) dL_pumps_81 (by decide) (fun c_15 => ?_) (fun c_15 => ?_)
    · skip
      refine lv_iconst (v := nI 0) hx hb dL_pumps_95 (by decide) ?_
      refine zt_i (y := bB (false)) rfl ?_
      exact mg96 (false) (iff_of_false (by decide) (by omega)) _ (lv_sub hl [0, 1, 2, 3, 4, 5, 6, 7] rfl)
    · skip
      refine lv_iload hx hb dL_pumps_84 (lv_at hl 1 rfl) ?_
      refine lv_bipush (v := nI 36) hx hb dL_pumps_86 (by decide) ?_
      refine zb_ge (tgt := 95) hx hb (by omega) (by omega) dL_pumps_88 (by decide) (fun c_16 => ?_) (fun c_16 => ?_)
      · skip
        refine lv_iconst (v := nI 0) hx hb dL_pumps_95 (by decide) ?_
        refine zt_i (y := bB (false)) rfl ?_
        exact mg96 (false) (iff_of_false (by decide) (by omega)) _ (lv_sub hl [0, 1, 2, 3, 4, 5, 6, 7] rfl)
      · skip
        refine lv_iconst (v := nI 1) hx hb dL_pumps_91 (by decide) ?_
        refine lv_goto (tgt := 96) hx hb dL_pumps_92 (by decide) ?_
        refine zt_i (y := bB (true)) rfl ?_
        exact mg96 (true) (iff_of_true rfl (by omega)) _ (lv_sub hl [0, 1, 2, 3, 4, 5, 6, 7] rfl)
  intro is9 his ls hl
  refine lv_istore (lv' := [(8, .int (bB (is9))), (7, .int (nI (un9))), (6, .int (nI (mo9))), (0, .ref (ad 0)), (1, .int (bB (true))), (2, .int (g)), (3, .ref (ad 27)), (4, .ref (ad (32 + (b9)))), (5, .int (nI (w9)))]) hx hb dL_pumps_96 hl (by decide) rfl (fun ls hl => ?_)
  refine lv_iload_n hx hb dL_pumps_98 rfl (lv_at hl 4 rfl) ?_
  refine zb_Beq (tgt := 255) hx hb dL_pumps_99 (by decide) (fun c_17 => False.elim (by revert c_17; decide)) (fun _ => ?_)
  suffices mg136 : ∀ (ms9 : Nat), (ms9 ≤ 37) → ∀ ls : Array Slot, lv_has ls 13 [(8, .int (bB (is9))), (7, .int (nI (un9))), (6, .int (nI (mo9))), (0, .ref (ad 0)), (1, .int (bB (true))), (2, .int (g)), (3, .ref (ad 27)), (4, .ref (ad (32 + (b9)))), (5, .int (nI (w9)))] → W p l e (rmX 3 10) s m args below meth c s.heap [] (0) (0) Q (F0 m 136 ls [.int (nI (ms9))]) by
    refine lv_iload_n hx hb dL_pumps_102 rfl (lv_at hl 5 rfl) ?_
    refine lv_bipush (v := nI 6) hx hb dL_pumps_103 (by decide) ?_
    refine lv_ishr hx hb dL_pumps_105 ?_
    refine lv_bipush (v := nI 30) hx hb dL_pumps_106 (by decide) ?_
    refine vp_callSi (W.runS (As := [.int ((g) >>> (nI (6) &&& 31)), .int (nI (30))]) (rest := []) ⟨hx, hb, hml, hown, hts⟩ (l_some l (((g) >>> (nI (6) &&& 31))) (N := 30) (by omega) (by omega)) (va_cwS 2 hts gL_pumps_L_some rfl rfl rfl (by decide +kernel) (by decide)) (psN) rfl rfl hl.1 rfl (lv_room (Nat.le_of_ble_eq_true rfl)) dL_pumps_108 (by decide)) (fun r_19 hr_19 => ?_)
    obtain ⟨r_19j, br_19, rfl⟩ := hr_19
    refine zb_0ne (tgt := 125) hx hb (by omega) dL_pumps_111 (by decide) (fun c_20 => ?_) (fun c_20 => ?_)
    · skip
      refine lv_iconst (v := nI 1) hx hb dL_pumps_125 (by decide) ?_
      refine lv_iload_n hx hb dL_pumps_126 rfl (lv_at hl 5 rfl) ?_
      refine lv_bipush (v := nI 6) hx hb dL_pumps_127 (by decide) ?_
      refine lv_ishr hx hb dL_pumps_129 ?_
      refine lv_bipush (v := nI 9) hx hb dL_pumps_130 (by decide) ?_
      refine vp_callSi (W.runS (As := [.int ((g) >>> (nI (6) &&& 31)), .int (nI (9))]) (rest := [.int (nI (1))]) ⟨hx, hb, hml, hown, hts⟩ (l_some l (((g) >>> (nI (6) &&& 31))) (N := 9) (by omega) (by omega)) (va_cwS 2 hts gL_pumps_L_some rfl rfl rfl (by decide +kernel) (by decide)) (psN) rfl rfl hl.1 rfl (lv_room (Nat.le_of_ble_eq_true rfl)) dL_pumps_132 (by decide)) (fun r_22 hr_22 => ?_)
      obtain ⟨r_22j, br_22, rfl⟩ := hr_22
      refine zr_iadd hx hb dL_pumps_135 ?_
      exact mg136 ((1) + (r_22j)) (by omega) _ (lv_sub hl [0, 1, 2, 3, 4, 5, 6, 7, 8] rfl)
    · skip
      refine lv_bipush (v := nI 37) hx hb dL_pumps_114 (by decide) ?_
      refine lv_iload_n hx hb dL_pumps_116 rfl (lv_at hl 5 rfl) ?_
      refine lv_iconst (v := nI 2) hx hb dL_pumps_117 (by decide) ?_
      refine vp_callSi (W.runS (As := [.int (g), .int (nI (2))]) (rest := [.int (nI (37))]) ⟨hx, hb, hml, hown, hts⟩ (l_some l ((g)) (N := 2) (by omega) (by omega)) (va_cwS 2 hts gL_pumps_L_some rfl rfl rfl (by decide +kernel) (by decide)) (psN) rfl rfl hl.1 rfl (lv_room (Nat.le_of_ble_eq_true rfl)) dL_pumps_118 (by decide)) (fun r_23 hr_23 => ?_)
      obtain ⟨r_23j, br_23, rfl⟩ := hr_23
      refine zr_imul hx hb dL_pumps_121 ?_
      refine lv_goto (tgt := 136) hx hb dL_pumps_122 (by decide) ?_
      exact mg136 ((37) * (r_23j)) (by omega) _ (lv_sub hl [0, 1, 2, 3, 4, 5, 6, 7, 8] rfl)
  intro ms9 hms ls hl
  refine lv_istore (lv' := [(9, .int (nI (ms9))), (8, .int (bB (is9))), (7, .int (nI (un9))), (6, .int (nI (mo9))), (0, .ref (ad 0)), (1, .int (bB (true))), (2, .int (g)), (3, .ref (ad 27)), (4, .ref (ad (32 + (b9)))), (5, .int (nI (w9)))]) hx hb dL_pumps_136 hl (by decide) rfl (fun ls hl => ?_)
  suffices mg155 : ∀ (fi9 : Bool), (fi9 = true ↔ (0 < ms9 ∧ ms9 < 37)) → ∀ ls : Array Slot, lv_has ls 13 [(9, .int (nI (ms9))), (8, .int (bB (is9))), (7, .int (nI (un9))), (6, .int (nI (mo9))), (0, .ref (ad 0)), (1, .int (bB (true))), (2, .int (g)), (3, .ref (ad 27)), (4, .ref (ad (32 + (b9)))), (5, .int (nI (w9)))] → W p l e (rmX 3 10) s m args below meth c s.heap [] (0) (0) Q (F0 m 155 ls [.int (bB (fi9))]) by
    refine lv_iload hx hb dL_pumps_138 (lv_at hl 0 rfl) ?_
    refine zb_0le (tgt := 154) hx hb (by omega) dL_pumps_140 (by decide) (fun c_24 => ?_) (fun c_24 => ?_)
    · skip
      refine lv_iconst (v := nI 0) hx hb dL_pumps_154 (by decide) ?_
      refine zt_i (y := bB (false)) rfl ?_
      exact mg155 (false) (iff_of_false (by decide) (by omega)) _ (lv_sub hl [0, 1, 2, 3, 4, 5, 6, 7, 8, 9] rfl)
    · skip
      refine lv_iload hx hb dL_pumps_143 (lv_at hl 0 rfl) ?_
      refine lv_bipush (v := nI 37) hx hb dL_pumps_145 (by decide) ?_
      refine zb_ge (tgt := 154) hx hb (by omega) (by omega) dL_pumps_147 (by decide) (fun c_25 => ?_) (fun c_25 => ?_)
      · skip
        refine lv_iconst (v := nI 0) hx hb dL_pumps_154 (by decide) ?_
        refine zt_i (y := bB (false)) rfl ?_
        exact mg155 (false) (iff_of_false (by decide) (by omega)) _ (lv_sub hl [0, 1, 2, 3, 4, 5, 6, 7, 8, 9] rfl)
      · skip
        refine lv_iconst (v := nI 1) hx hb dL_pumps_150 (by decide) ?_
        refine lv_goto (tgt := 155) hx hb dL_pumps_151 (by decide) ?_
        refine zt_i (y := bB (true)) rfl ?_
        exact mg155 (true) (iff_of_true rfl (by omega)) _ (lv_sub hl [0, 1, 2, 3, 4, 5, 6, 7, 8, 9] rfl)
  intro fi9 hfi ls hl
  refine lv_istore (lv' := [(10, .int (bB (fi9))), (9, .int (nI (ms9))), (8, .int (bB (is9))), (7, .int (nI (un9))), (6, .int (nI (mo9))), (0, .ref (ad 0)), (1, .int (bB (true))), (2, .int (g)), (3, .ref (ad 27)), (4, .ref (ad (32 + (b9)))), (5, .int (nI (w9)))]) hx hb dL_pumps_155 hl (by decide) rfl (fun ls hl => ?_)
  cases is9
  · skip
    have hip : ¬ (w9 < K 0 0 ∧ mo9 < 36) := fun z => absurd (his.mpr z) (by decide)
    refine lv_iconst (v := nI 0) hx hb dL_pumps_157 (by decide) ?_
    refine lv_istore (lv' := [(11, .int (nI (0))), (10, .int (bB (fi9))), (9, .int (nI (ms9))), (8, .int (bB (false))), (7, .int (nI (un9))), (6, .int (nI (mo9))), (0, .ref (ad 0)), (1, .int (bB (true))), (2, .int (g)), (3, .ref (ad 27)), (4, .ref (ad (32 + (b9)))), (5, .int (nI (w9)))]) hx hb dL_pumps_158 hl (by decide) rfl (fun ls hl => ?_)
    refine lv_iload hx hb dL_pumps_160 (lv_at hl 5 rfl) ?_
    refine lv_istore (lv' := [(12, .int (nI (mo9))), (11, .int (nI (0))), (10, .int (bB (fi9))), (9, .int (nI (ms9))), (8, .int (bB (false))), (7, .int (nI (un9))), (6, .int (nI (mo9))), (0, .ref (ad 0)), (1, .int (bB (true))), (2, .int (g)), (3, .ref (ad 27)), (4, .ref (ad (32 + (b9)))), (5, .int (nI (w9)))]) hx hb dL_pumps_162 hl (by decide) rfl (fun ls hl => ?_)
    refine lv_iload hx hb dL_pumps_164 (lv_at hl 0 rfl) ?_
    refine lv_iload hx hb dL_pumps_166 (lv_at hl 6 rfl) ?_
    refine lv_iload hx hb dL_pumps_168 (lv_at hl 3 rfl) ?_
    refine zr_iadd hx hb dL_pumps_170 ?_
    refine zb_ge (tgt := 213) hx hb (by omega) (by omega) dL_pumps_171 (by decide) (fun c_26 => ?_) (fun c_26 => ?_)
    · skip
      refine lv_aload_n hx hb dL_pumps_213 rfl (lv_at hl 7 rfl) ?_
      refine lv_iconst (v := nI 2) hx hb dL_pumps_214 (by decide) ?_
      refine lv_iload hx hb dL_pumps_215 (lv_at hl 12 rfl) ?_
      refine lv_iload hx hb dL_pumps_217 (lv_at hl 6 rfl) ?_
      refine lv_iload hx hb dL_pumps_219 (lv_at hl 3 rfl) ?_
      refine zz_i (vx_runSX (As := [.ref (ad 0), .int (nI (2)), .int (nI (w9)), .int (nI (mo9)), .int (nI (ms9))]) (rest := []) ⟨hx, hb, hml, hown, hts⟩ (q_set2 l hfl hI.inv (by decide) hnd hAd (Nat.le_trans hz0 hS.1) hT  (nI (w9)) (nI (mo9)) (nI (ms9))) (vx_cwSW 5 hts gL_pumps_L_set rfl rfl rfl (by decide +kernel) (by decide)) (psV hK hP hX (fun a h1 h2 => hS.2.1 a h1 h2)) rfl rfl hl.1 rfl (lv_room (Nat.le_of_ble_eq_true rfl)) dL_pumps_221 ⟨show 0 + 3 ≤ 10 by omega, show 0 + 18 ≤ 60 by omega⟩) hS (fun q _ h => h) (fun q h => h) (fun r9 u_27 t9 H locs ht9 hv9 hp9 hB9 hz1 hk1 hS => ?_)
      obtain ⟨e_27, hT⟩ := hp9
      have hP := hB9.2
      rw [ht9] at hP
      clear hB9 ht9 hv9 hz1 hk1
      have hcd_27 : cd2 (ixB (nI (w9)) (K 0 0) && ixB (nI (mo9)) 36) (rgB (nI (ms9)) (nI 1) (nI 36)) = 1 := cd2_1 (ix2_f (by omega) (by omega) (by omega) (by omega) (by decide))
      have eM_27 : moC (cd2 (ixB (nI (w9)) (K 0 0) && ixB (nI (mo9)) 36) (rgB (nI (ms9)) (nI 1) (nI 36))) (nx_rest K (clN (nI (w9))) (clN (nI (mo9))) (clN (nI (ms9)))) K = K := moC_n (by rw [hcd_27]; decide)
      rw [eM_27] at hP hT
      have e_27 := e_27.trans (rsc_1 hcd_27)
      subst e_27
      refine lv_iload hx hb dL_pumps_224 (lv_at hl 4 rfl) ?_
      refine zb_Bne (tgt := 234) hx hb dL_pumps_226 (by decide) (fun c_28 => False.elim (by revert c_28; decide)) (fun _ => ?_)
      refine lv_bipush (v := (-101)) hx hb dL_pumps_229 (by decide) ?_
      refine lv_goto (tgt := 246) hx hb dL_pumps_231 (by decide) ?_
      refine lv_icmp_ne (tgt := 253) hx hb dL_pumps_246 (by decide) (fun c_29 => False.elim (by revert c_29; decide)) (fun _ => ?_)
      refine lv_iconst (v := nI 1) hx hb dL_pumps_249 (by decide) ?_
      refine lv_goto (tgt := 254) hx hb dL_pumps_250 (by decide) ?_
      exact hret (b := true) (u := (K, u_27.1, u_27.2)) (show 0 + 3 ≤ 10 by omega) (show 0 + 18 ≤ 60 by omega) ⟨rfl, hI, hT⟩ rfl hS (fun t ht hA => ⟨va_K.moved hA hK, by rw [ht]; exact hP⟩) dL_pumps_254
    · skip
      refine lv_iload hx hb dL_pumps_174 (lv_at hl 0 rfl) ?_
      refine lv_bipush (v := nI 36) hx hb dL_pumps_176 (by decide) ?_
      refine zb_ge (tgt := 213) hx hb (by omega) (by omega) dL_pumps_178 (by decide) (fun c_30 => ?_) (fun c_30 => ?_)
      · skip
        refine lv_aload_n hx hb dL_pumps_213 rfl (lv_at hl 7 rfl) ?_
        refine lv_iconst (v := nI 2) hx hb dL_pumps_214 (by decide) ?_
        refine lv_iload hx hb dL_pumps_215 (lv_at hl 12 rfl) ?_
        refine lv_iload hx hb dL_pumps_217 (lv_at hl 6 rfl) ?_
        refine lv_iload hx hb dL_pumps_219 (lv_at hl 3 rfl) ?_
        refine zz_i (vx_runSX (As := [.ref (ad 0), .int (nI (2)), .int (nI (w9)), .int (nI (mo9)), .int (nI (ms9))]) (rest := []) ⟨hx, hb, hml, hown, hts⟩ (q_set2 l hfl hI.inv (by decide) hnd hAd (Nat.le_trans hz0 hS.1) hT  (nI (w9)) (nI (mo9)) (nI (ms9))) (vx_cwSW 5 hts gL_pumps_L_set rfl rfl rfl (by decide +kernel) (by decide)) (psV hK hP hX (fun a h1 h2 => hS.2.1 a h1 h2)) rfl rfl hl.1 rfl (lv_room (Nat.le_of_ble_eq_true rfl)) dL_pumps_221 ⟨show 0 + 3 ≤ 10 by omega, show 0 + 18 ≤ 60 by omega⟩) hS (fun q _ h => h) (fun q h => h) (fun r9 u_31 t9 H locs ht9 hv9 hp9 hB9 hz1 hk1 hS => ?_)
        obtain ⟨e_31, hT⟩ := hp9
        have hP := hB9.2
        rw [ht9] at hP
        clear hB9 ht9 hv9 hz1 hk1
        have hcd_31 : cd2 (ixB (nI (w9)) (K 0 0) && ixB (nI (mo9)) 36) (rgB (nI (ms9)) (nI 1) (nI 36)) = 1 := cd2_1 (ix2_f (by omega) (by omega) (by omega) (by omega) (by decide))
        have eM_31 : moC (cd2 (ixB (nI (w9)) (K 0 0) && ixB (nI (mo9)) 36) (rgB (nI (ms9)) (nI 1) (nI 36))) (nx_rest K (clN (nI (w9))) (clN (nI (mo9))) (clN (nI (ms9)))) K = K := moC_n (by rw [hcd_31]; decide)
        rw [eM_31] at hP hT
        have e_31 := e_31.trans (rsc_1 hcd_31)
        subst e_31
        refine lv_iload hx hb dL_pumps_224 (lv_at hl 4 rfl) ?_
        refine zb_Bne (tgt := 234) hx hb dL_pumps_226 (by decide) (fun c_32 => False.elim (by revert c_32; decide)) (fun _ => ?_)
        refine lv_bipush (v := (-101)) hx hb dL_pumps_229 (by decide) ?_
        refine lv_goto (tgt := 246) hx hb dL_pumps_231 (by decide) ?_
        refine lv_icmp_ne (tgt := 253) hx hb dL_pumps_246 (by decide) (fun c_33 => False.elim (by revert c_33; decide)) (fun _ => ?_)
        refine lv_iconst (v := nI 1) hx hb dL_pumps_249 (by decide) ?_
        refine lv_goto (tgt := 254) hx hb dL_pumps_250 (by decide) ?_
        exact hret (b := true) (u := (K, u_31.1, u_31.2)) (show 0 + 3 ≤ 10 by omega) (show 0 + 18 ≤ 60 by omega) ⟨rfl, hI, hT⟩ rfl hS (fun t ht hA => ⟨va_K.moved hA hK, by rw [ht]; exact hP⟩) dL_pumps_254
      · skip
        refine lv_iload hx hb dL_pumps_181 (lv_at hl 4 rfl) ?_
        refine zb_Beq (tgt := 213) hx hb dL_pumps_183 (by decide) (fun _ => ?_) (fun c_34 => False.elim (by revert c_34; decide))
        refine lv_aload_n hx hb dL_pumps_213 rfl (lv_at hl 7 rfl) ?_
        refine lv_iconst (v := nI 2) hx hb dL_pumps_214 (by decide) ?_
        refine lv_iload hx hb dL_pumps_215 (lv_at hl 12 rfl) ?_
        refine lv_iload hx hb dL_pumps_217 (lv_at hl 6 rfl) ?_
        refine lv_iload hx hb dL_pumps_219 (lv_at hl 3 rfl) ?_
        refine zz_i (vx_runSX (As := [.ref (ad 0), .int (nI (2)), .int (nI (w9)), .int (nI (mo9)), .int (nI (ms9))]) (rest := []) ⟨hx, hb, hml, hown, hts⟩ (q_set2 l hfl hI.inv (by decide) hnd hAd (Nat.le_trans hz0 hS.1) hT  (nI (w9)) (nI (mo9)) (nI (ms9))) (vx_cwSW 5 hts gL_pumps_L_set rfl rfl rfl (by decide +kernel) (by decide)) (psV hK hP hX (fun a h1 h2 => hS.2.1 a h1 h2)) rfl rfl hl.1 rfl (lv_room (Nat.le_of_ble_eq_true rfl)) dL_pumps_221 ⟨show 0 + 3 ≤ 10 by omega, show 0 + 18 ≤ 60 by omega⟩) hS (fun q _ h => h) (fun q h => h) (fun r9 u_35 t9 H locs ht9 hv9 hp9 hB9 hz1 hk1 hS => ?_)
        obtain ⟨e_35, hT⟩ := hp9
        have hP := hB9.2
        rw [ht9] at hP
        clear hB9 ht9 hv9 hz1 hk1
        have hcd_35 : cd2 (ixB (nI (w9)) (K 0 0) && ixB (nI (mo9)) 36) (rgB (nI (ms9)) (nI 1) (nI 36)) = 1 := cd2_1 (ix2_f (by omega) (by omega) (by omega) (by omega) (by decide))
        have eM_35 : moC (cd2 (ixB (nI (w9)) (K 0 0) && ixB (nI (mo9)) 36) (rgB (nI (ms9)) (nI 1) (nI 36))) (nx_rest K (clN (nI (w9))) (clN (nI (mo9))) (clN (nI (ms9)))) K = K := moC_n (by rw [hcd_35]; decide)
        rw [eM_35] at hP hT
        have e_35 := e_35.trans (rsc_1 hcd_35)
        subst e_35
        refine lv_iload hx hb dL_pumps_224 (lv_at hl 4 rfl) ?_
        refine zb_Bne (tgt := 234) hx hb dL_pumps_226 (by decide) (fun c_36 => False.elim (by revert c_36; decide)) (fun _ => ?_)
        refine lv_bipush (v := (-101)) hx hb dL_pumps_229 (by decide) ?_
        refine lv_goto (tgt := 246) hx hb dL_pumps_231 (by decide) ?_
        refine lv_icmp_ne (tgt := 253) hx hb dL_pumps_246 (by decide) (fun c_37 => False.elim (by revert c_37; decide)) (fun _ => ?_)
        refine lv_iconst (v := nI 1) hx hb dL_pumps_249 (by decide) ?_
        refine lv_goto (tgt := 254) hx hb dL_pumps_250 (by decide) ?_
        exact hret (b := true) (u := (K, u_35.1, u_35.2)) (show 0 + 3 ≤ 10 by omega) (show 0 + 18 ≤ 60 by omega) ⟨rfl, hI, hT⟩ rfl hS (fun t ht hA => ⟨va_K.moved hA hK, by rw [ht]; exact hP⟩) dL_pumps_254
  · skip
    have hip := his.mp rfl
    have ebw := hbw hip.1
    subst ebw
    cases fi9
    · skip
      have hfp : ¬ (0 < ms9 ∧ ms9 < 37) := fun z => absurd (hfi.mpr z) (by decide)
      refine lv_iconst (v := nI 0) hx hb dL_pumps_157 (by decide) ?_
      refine lv_istore (lv' := [(11, .int (nI (0))), (10, .int (bB (false))), (9, .int (nI (ms9))), (8, .int (bB (true))), (7, .int (nI (un9))), (6, .int (nI (mo9))), (0, .ref (ad 0)), (1, .int (bB (true))), (2, .int (g)), (3, .ref (ad 27)), (4, .ref (ad (32 + (b9)))), (5, .int (nI (b9)))]) hx hb dL_pumps_158 hl (by decide) rfl (fun ls hl => ?_)
      refine lv_iload hx hb dL_pumps_160 (lv_at hl 5 rfl) ?_
      refine lv_istore (lv' := [(12, .int (nI (mo9))), (11, .int (nI (0))), (10, .int (bB (false))), (9, .int (nI (ms9))), (8, .int (bB (true))), (7, .int (nI (un9))), (6, .int (nI (mo9))), (0, .ref (ad 0)), (1, .int (bB (true))), (2, .int (g)), (3, .ref (ad 27)), (4, .ref (ad (32 + (b9)))), (5, .int (nI (b9)))]) hx hb dL_pumps_162 hl (by decide) rfl (fun ls hl => ?_)
      refine lv_iload hx hb dL_pumps_164 (lv_at hl 0 rfl) ?_
      refine lv_iload hx hb dL_pumps_166 (lv_at hl 6 rfl) ?_
      refine lv_iload hx hb dL_pumps_168 (lv_at hl 3 rfl) ?_
      refine zr_iadd hx hb dL_pumps_170 ?_
      refine zb_ge (tgt := 213) hx hb (by omega) (by omega) dL_pumps_171 (by decide) (fun c_38 => ?_) (fun c_38 => ?_)
      · skip
        refine lv_aload_n hx hb dL_pumps_213 rfl (lv_at hl 7 rfl) ?_
        refine lv_iconst (v := nI 2) hx hb dL_pumps_214 (by decide) ?_
        refine lv_iload hx hb dL_pumps_215 (lv_at hl 12 rfl) ?_
        refine lv_iload hx hb dL_pumps_217 (lv_at hl 6 rfl) ?_
        refine lv_iload hx hb dL_pumps_219 (lv_at hl 3 rfl) ?_
        refine zz_i (vx_runSX (As := [.ref (ad 0), .int (nI (2)), .int (nI (b9)), .int (nI (mo9)), .int (nI (ms9))]) (rest := []) ⟨hx, hb, hml, hown, hts⟩ (q_set2 l hfl hI.inv (by decide) hnd hAd (Nat.le_trans hz0 hS.1) hT  (nI (b9)) (nI (mo9)) (nI (ms9))) (vx_cwSW 5 hts gL_pumps_L_set rfl rfl rfl (by decide +kernel) (by decide)) (psV hK hP hX (fun a h1 h2 => hS.2.1 a h1 h2)) rfl rfl hl.1 rfl (lv_room (Nat.le_of_ble_eq_true rfl)) dL_pumps_221 ⟨show 0 + 3 ≤ 10 by omega, show 0 + 18 ≤ 60 by omega⟩) hS (fun q _ h => h) (fun q h => h) (fun r9 u_39 t9 H locs ht9 hv9 hp9 hB9 hz1 hk1 hS => ?_)
        obtain ⟨e_39, hT⟩ := hp9
        have hP := hB9.2
        rw [ht9] at hP
        clear hB9 ht9 hv9 hz1 hk1
        have hcd_39 : cd2 (ixB (nI (b9)) (K 0 0) && ixB (nI (mo9)) 36) (rgB (nI (ms9)) (nI 1) (nI 36)) = 2 := cd2_2 (ix2_t (by omega) (by omega) (by omega) (by decide)) (rg_f (by omega) (by omega) (by decide) (by decide))
        have eM_39 : moC (cd2 (ixB (nI (b9)) (K 0 0) && ixB (nI (mo9)) 36) (rgB (nI (ms9)) (nI 1) (nI 36))) (nx_rest K (clN (nI (b9))) (clN (nI (mo9))) (clN (nI (ms9)))) K = K := moC_n (by rw [hcd_39]; decide)
        rw [eM_39] at hP hT
        have e_39 := e_39.trans (rsc_2 hcd_39)
        subst e_39
        refine lv_iload hx hb dL_pumps_224 (lv_at hl 4 rfl) ?_
        refine zb_Bne (tgt := 234) hx hb dL_pumps_226 (by decide) (fun _ => ?_) (fun c_40 => False.elim (by revert c_40; decide))
        refine lv_iload hx hb dL_pumps_234 (lv_at hl 2 rfl) ?_
        refine zb_Beq (tgt := 244) hx hb dL_pumps_236 (by decide) (fun _ => ?_) (fun c_41 => False.elim (by revert c_41; decide))
        refine lv_bipush (v := (-102)) hx hb dL_pumps_244 (by decide) ?_
        refine lv_icmp_ne (tgt := 253) hx hb dL_pumps_246 (by decide) (fun c_42 => False.elim (by revert c_42; decide)) (fun _ => ?_)
        refine lv_iconst (v := nI 1) hx hb dL_pumps_249 (by decide) ?_
        refine lv_goto (tgt := 254) hx hb dL_pumps_250 (by decide) ?_
        exact hret (b := true) (u := (K, u_39.1, u_39.2)) (show 0 + 3 ≤ 10 by omega) (show 0 + 18 ≤ 60 by omega) ⟨rfl, hI, hT⟩ rfl hS (fun t ht hA => ⟨va_K.moved hA hK, by rw [ht]; exact hP⟩) dL_pumps_254
      · skip
        refine lv_iload hx hb dL_pumps_174 (lv_at hl 0 rfl) ?_
        refine lv_bipush (v := nI 36) hx hb dL_pumps_176 (by decide) ?_
        refine zb_ge (tgt := 213) hx hb (by omega) (by omega) dL_pumps_178 (by decide) (fun c_43 => ?_) (fun c_43 => ?_)
        · skip
          refine lv_aload_n hx hb dL_pumps_213 rfl (lv_at hl 7 rfl) ?_
          refine lv_iconst (v := nI 2) hx hb dL_pumps_214 (by decide) ?_
          refine lv_iload hx hb dL_pumps_215 (lv_at hl 12 rfl) ?_
          refine lv_iload hx hb dL_pumps_217 (lv_at hl 6 rfl) ?_
          refine lv_iload hx hb dL_pumps_219 (lv_at hl 3 rfl) ?_
          refine zz_i (vx_runSX (As := [.ref (ad 0), .int (nI (2)), .int (nI (b9)), .int (nI (mo9)), .int (nI (ms9))]) (rest := []) ⟨hx, hb, hml, hown, hts⟩ (q_set2 l hfl hI.inv (by decide) hnd hAd (Nat.le_trans hz0 hS.1) hT  (nI (b9)) (nI (mo9)) (nI (ms9))) (vx_cwSW 5 hts gL_pumps_L_set rfl rfl rfl (by decide +kernel) (by decide)) (psV hK hP hX (fun a h1 h2 => hS.2.1 a h1 h2)) rfl rfl hl.1 rfl (lv_room (Nat.le_of_ble_eq_true rfl)) dL_pumps_221 ⟨show 0 + 3 ≤ 10 by omega, show 0 + 18 ≤ 60 by omega⟩) hS (fun q _ h => h) (fun q h => h) (fun r9 u_44 t9 H locs ht9 hv9 hp9 hB9 hz1 hk1 hS => ?_)
          obtain ⟨e_44, hT⟩ := hp9
          have hP := hB9.2
          rw [ht9] at hP
          clear hB9 ht9 hv9 hz1 hk1
          have hcd_44 : cd2 (ixB (nI (b9)) (K 0 0) && ixB (nI (mo9)) 36) (rgB (nI (ms9)) (nI 1) (nI 36)) = 2 := cd2_2 (ix2_t (by omega) (by omega) (by omega) (by decide)) (rg_f (by omega) (by omega) (by decide) (by decide))
          have eM_44 : moC (cd2 (ixB (nI (b9)) (K 0 0) && ixB (nI (mo9)) 36) (rgB (nI (ms9)) (nI 1) (nI 36))) (nx_rest K (clN (nI (b9))) (clN (nI (mo9))) (clN (nI (ms9)))) K = K := moC_n (by rw [hcd_44]; decide)
          rw [eM_44] at hP hT
          have e_44 := e_44.trans (rsc_2 hcd_44)
          subst e_44
          refine lv_iload hx hb dL_pumps_224 (lv_at hl 4 rfl) ?_
          refine zb_Bne (tgt := 234) hx hb dL_pumps_226 (by decide) (fun _ => ?_) (fun c_45 => False.elim (by revert c_45; decide))
          refine lv_iload hx hb dL_pumps_234 (lv_at hl 2 rfl) ?_
          refine zb_Beq (tgt := 244) hx hb dL_pumps_236 (by decide) (fun _ => ?_) (fun c_46 => False.elim (by revert c_46; decide))
          refine lv_bipush (v := (-102)) hx hb dL_pumps_244 (by decide) ?_
          refine lv_icmp_ne (tgt := 253) hx hb dL_pumps_246 (by decide) (fun c_47 => False.elim (by revert c_47; decide)) (fun _ => ?_)
          refine lv_iconst (v := nI 1) hx hb dL_pumps_249 (by decide) ?_
          refine lv_goto (tgt := 254) hx hb dL_pumps_250 (by decide) ?_
          exact hret (b := true) (u := (K, u_44.1, u_44.2)) (show 0 + 3 ≤ 10 by omega) (show 0 + 18 ≤ 60 by omega) ⟨rfl, hI, hT⟩ rfl hS (fun t ht hA => ⟨va_K.moved hA hK, by rw [ht]; exact hP⟩) dL_pumps_254
        · skip
          refine lv_iload hx hb dL_pumps_181 (lv_at hl 4 rfl) ?_
          refine zb_Beq (tgt := 213) hx hb dL_pumps_183 (by decide) (fun c_48 => False.elim (by revert c_48; decide)) (fun _ => ?_)
          refine lv_iload hx hb dL_pumps_186 (lv_at hl 2 rfl) ?_
          refine zb_Beq (tgt := 213) hx hb dL_pumps_188 (by decide) (fun _ => ?_) (fun c_49 => False.elim (by revert c_49; decide))
          refine lv_aload_n hx hb dL_pumps_213 rfl (lv_at hl 7 rfl) ?_
          refine lv_iconst (v := nI 2) hx hb dL_pumps_214 (by decide) ?_
          refine lv_iload hx hb dL_pumps_215 (lv_at hl 12 rfl) ?_
          refine lv_iload hx hb dL_pumps_217 (lv_at hl 6 rfl) ?_
          refine lv_iload hx hb dL_pumps_219 (lv_at hl 3 rfl) ?_
          refine zz_i (vx_runSX (As := [.ref (ad 0), .int (nI (2)), .int (nI (b9)), .int (nI (mo9)), .int (nI (ms9))]) (rest := []) ⟨hx, hb, hml, hown, hts⟩ (q_set2 l hfl hI.inv (by decide) hnd hAd (Nat.le_trans hz0 hS.1) hT  (nI (b9)) (nI (mo9)) (nI (ms9))) (vx_cwSW 5 hts gL_pumps_L_set rfl rfl rfl (by decide +kernel) (by decide)) (psV hK hP hX (fun a h1 h2 => hS.2.1 a h1 h2)) rfl rfl hl.1 rfl (lv_room (Nat.le_of_ble_eq_true rfl)) dL_pumps_221 ⟨show 0 + 3 ≤ 10 by omega, show 0 + 18 ≤ 60 by omega⟩) hS (fun q _ h => h) (fun q h => h) (fun r9 u_50 t9 H locs ht9 hv9 hp9 hB9 hz1 hk1 hS => ?_)
          obtain ⟨e_50, hT⟩ := hp9
          have hP := hB9.2
          rw [ht9] at hP
          clear hB9 ht9 hv9 hz1 hk1
          have hcd_50 : cd2 (ixB (nI (b9)) (K 0 0) && ixB (nI (mo9)) 36) (rgB (nI (ms9)) (nI 1) (nI 36)) = 2 := cd2_2 (ix2_t (by omega) (by omega) (by omega) (by decide)) (rg_f (by omega) (by omega) (by decide) (by decide))
          have eM_50 : moC (cd2 (ixB (nI (b9)) (K 0 0) && ixB (nI (mo9)) 36) (rgB (nI (ms9)) (nI 1) (nI 36))) (nx_rest K (clN (nI (b9))) (clN (nI (mo9))) (clN (nI (ms9)))) K = K := moC_n (by rw [hcd_50]; decide)
          rw [eM_50] at hP hT
          have e_50 := e_50.trans (rsc_2 hcd_50)
          subst e_50
          refine lv_iload hx hb dL_pumps_224 (lv_at hl 4 rfl) ?_
          refine zb_Bne (tgt := 234) hx hb dL_pumps_226 (by decide) (fun _ => ?_) (fun c_51 => False.elim (by revert c_51; decide))
          refine lv_iload hx hb dL_pumps_234 (lv_at hl 2 rfl) ?_
          refine zb_Beq (tgt := 244) hx hb dL_pumps_236 (by decide) (fun _ => ?_) (fun c_52 => False.elim (by revert c_52; decide))
          refine lv_bipush (v := (-102)) hx hb dL_pumps_244 (by decide) ?_
          refine lv_icmp_ne (tgt := 253) hx hb dL_pumps_246 (by decide) (fun c_53 => False.elim (by revert c_53; decide)) (fun _ => ?_)
          refine lv_iconst (v := nI 1) hx hb dL_pumps_249 (by decide) ?_
          refine lv_goto (tgt := 254) hx hb dL_pumps_250 (by decide) ?_
          exact hret (b := true) (u := (K, u_50.1, u_50.2)) (show 0 + 3 ≤ 10 by omega) (show 0 + 18 ≤ 60 by omega) ⟨rfl, hI, hT⟩ rfl hS (fun t ht hA => ⟨va_K.moved hA hK, by rw [ht]; exact hP⟩) dL_pumps_254
    · skip
      have hfp := hfi.mp rfl
      have hrs := rsn_s mo9 ms9 hip.2
      refine lv_iconst (v := nI 0) hx hb dL_pumps_157 (by decide) ?_
      refine lv_istore (lv' := [(11, .int (nI (0))), (10, .int (bB (true))), (9, .int (nI (ms9))), (8, .int (bB (true))), (7, .int (nI (un9))), (6, .int (nI (mo9))), (0, .ref (ad 0)), (1, .int (bB (true))), (2, .int (g)), (3, .ref (ad 27)), (4, .ref (ad (32 + (b9)))), (5, .int (nI (b9)))]) hx hb dL_pumps_158 hl (by decide) rfl (fun ls hl => ?_)
      refine lv_iload hx hb dL_pumps_160 (lv_at hl 5 rfl) ?_
      refine lv_istore (lv' := [(12, .int (nI (mo9))), (11, .int (nI (0))), (10, .int (bB (true))), (9, .int (nI (ms9))), (8, .int (bB (true))), (7, .int (nI (un9))), (6, .int (nI (mo9))), (0, .ref (ad 0)), (1, .int (bB (true))), (2, .int (g)), (3, .ref (ad 27)), (4, .ref (ad (32 + (b9)))), (5, .int (nI (b9)))]) hx hb dL_pumps_162 hl (by decide) rfl (fun ls hl => ?_)
      have lp164 : ∀ (n9 k : Nat), k ≤ rsn mo9 ms9 → rsn mo9 ms9 - k < n9 → ∀ (H : Heap) (locs : List Loc), va_P D vwCl (wz 37 ad (wxE ad cI cJ cQ (K) (ts) (pu) (rst K b9 mo9 (k)) (X))) H → va_S (zA z0) s.heap H locs → ∀ ls : Array Slot, lv_has ls 13 [(0, .ref (ad 0)), (1, .int (bB (true))), (3, .ref (ad 27)), (4, .ref (ad (32 + (b9)))), (5, .int (nI (b9))), (6, .int (nI (mo9))), (8, .int (bB (true))), (9, .int (nI (ms9))), (10, .int (bB (true))), (11, .int (nI (rss K b9 mo9 (k)))), (12, .int (nI (mo9 + (k))))] → W p l e (rmX 3 10) s m args below meth c H locs (0) (0) Q (F0 m 164 ls []) := by
        intro n9
        induction n9 with
        | zero => intro k q1 q2; omega
        | succ n9 ih164 =>
          intro k q1_164 q2_164 H locs hP hS ls hl
          refine lv_iload hx hb dL_pumps_164 (lv_at hl 10 rfl) ?_
          refine lv_iload hx hb dL_pumps_166 (lv_at hl 5 rfl) ?_
          refine lv_iload hx hb dL_pumps_168 (lv_at hl 7 rfl) ?_
          refine zr_iadd hx hb dL_pumps_170 ?_
          refine zb_ge (tgt := 213) hx hb (by omega) (by omega) dL_pumps_171 (by decide) (fun c_54 => ?_) (fun c_54 => ?_)
          · skip
            have q_55 : k = rsn mo9 ms9 := by omega
            subst q_55
            refine lv_aload_n hx hb dL_pumps_213 rfl (lv_at hl 0 rfl) ?_
            refine lv_iconst (v := nI 2) hx hb dL_pumps_214 (by decide) ?_
            refine lv_iload hx hb dL_pumps_215 (lv_at hl 4 rfl) ?_
            refine lv_iload hx hb dL_pumps_217 (lv_at hl 5 rfl) ?_
            refine lv_iload hx hb dL_pumps_219 (lv_at hl 7 rfl) ?_
            have fss : rss K b9 mo9 (rsn mo9 ms9) ≤ 36000 := Nat.le_trans (ssum_le (c := 1000) (fun k _ => hI.inv.un b9 (by omega) _)) (Nat.le_trans (Nat.mul_le_mul_right _ hrs.2) (by decide))
            refine zz_i (vx_runSX (As := [.ref (ad 0), .int (nI (2)), .int (nI (b9)), .int (nI (mo9)), .int (nI (ms9))]) (rest := []) ⟨hx, hb, hml, hown, hts⟩ (q_set2 l hfl hI.inv (by decide) hnd hAd (Nat.le_trans hz0 hS.1) hT  (nI (b9)) (nI (mo9)) (nI (ms9))) (vx_cwSW 5 hts gL_pumps_L_set rfl rfl rfl (by decide +kernel) (by decide)) (psV hK hP hX (fun a h1 h2 => hS.2.1 a h1 h2)) rfl rfl hl.1 rfl (lv_room (Nat.le_of_ble_eq_true rfl)) dL_pumps_221 ⟨show 0 + 3 ≤ 10 by omega, show 0 + 18 ≤ 60 by omega⟩) hS (fun q _ h => h) (fun q h => h) (fun r9 u_56 t9 H locs ht9 hv9 hp9 hB9 hz1 hk1 hS => ?_)
            obtain ⟨e_56, hT⟩ := hp9
            have hP := hB9.2
            rw [ht9] at hP
            clear hB9 ht9 hv9 hz1 hk1
            have hcd_56 : cd2 (ixB (nI (b9)) (K 0 0) && ixB (nI (mo9)) 36) (rgB (nI (ms9)) (nI 1) (nI 36)) = 0 := cd2_0 (ix2_t (by omega) (by omega) (by omega) (by decide)) (rg_t (by omega) (by omega) (by decide))
            have eM_56 : moC (cd2 (ixB (nI (b9)) (K 0 0) && ixB (nI (mo9)) 36) (rgB (nI (ms9)) (nI 1) (nI 36))) (nx_rest K (clN (nI (b9))) (clN (nI (mo9))) (clN (nI (ms9)))) K = nx_rest K ((b9)) ((mo9)) ((ms9)) := (moC_z hcd_56).trans (by first | rfl | simp only [clN_nI (show b9 < 2 ^ 31 by omega), clN_nI (show mo9 < 2 ^ 31 by omega), clN_nI (show ms9 < 2 ^ 31 by omega)])
            rw [eM_56] at hP hT
            have e_56 := e_56.trans ((rsc_0 hcd_56).trans (show nI (rss K (clN (nI (b9))) (clN (nI (mo9))) (rsn (clN (nI (mo9))) (clN (nI (ms9))))) = nI (rss K ((b9)) ((mo9)) (rsn ((mo9)) ((ms9)))) by first | rfl | simp only [clN_nI (show b9 < 2 ^ 31 by omega), clN_nI (show mo9 < 2 ^ 31 by omega), clN_nI (show ms9 < 2 ^ 31 by omega)]))
            subst e_56
            refine lv_iload hx hb dL_pumps_224 (lv_at hl 6 rfl) ?_
            refine zb_Bne (tgt := 234) hx hb dL_pumps_226 (by decide) (fun _ => ?_) (fun c_57 => False.elim (by revert c_57; decide))
            refine lv_iload hx hb dL_pumps_234 (lv_at hl 8 rfl) ?_
            refine zb_Beq (tgt := 244) hx hb dL_pumps_236 (by decide) (fun c_58 => False.elim (by revert c_58; decide)) (fun _ => ?_)
            refine lv_iload hx hb dL_pumps_239 (lv_at hl 9 rfl) ?_
            refine lv_goto (tgt := 246) hx hb dL_pumps_241 (by decide) ?_
            refine zb_ne (tgt := 253) hx hb (by omega) (by omega) dL_pumps_246 (by decide) (fun c_59 => ?_) (fun c_59 => ?_)
            · skip
              exact False.elim (by omega)
            · skip
              refine lv_iconst (v := nI 1) hx hb dL_pumps_249 (by decide) ?_
              refine lv_goto (tgt := 254) hx hb dL_pumps_250 (by decide) ?_
              exact hret (b := true) (u := (nx_rest K ((b9)) ((mo9)) ((ms9)), u_56.1, u_56.2)) (show 0 + 3 ≤ 10 by omega) (show 0 + 18 ≤ 60 by omega) ⟨rfl, (inl_rst hI), hT⟩ rfl hS (fun t ht hA => ⟨va_K.moved hA hK, by rw [ht]; exact hP⟩) dL_pumps_254
          · skip
            refine lv_iload hx hb dL_pumps_174 (lv_at hl 10 rfl) ?_
            refine lv_bipush (v := nI 36) hx hb dL_pumps_176 (by decide) ?_
            refine zb_ge (tgt := 213) hx hb (by omega) (by omega) dL_pumps_178 (by decide) (fun c_60 => ?_) (fun c_60 => ?_)
            · skip
              have q_61 : k = rsn mo9 ms9 := by omega
              subst q_61
              refine lv_aload_n hx hb dL_pumps_213 rfl (lv_at hl 0 rfl) ?_
              refine lv_iconst (v := nI 2) hx hb dL_pumps_214 (by decide) ?_
              refine lv_iload hx hb dL_pumps_215 (lv_at hl 4 rfl) ?_
              refine lv_iload hx hb dL_pumps_217 (lv_at hl 5 rfl) ?_
              refine lv_iload hx hb dL_pumps_219 (lv_at hl 7 rfl) ?_
              have fss : rss K b9 mo9 (rsn mo9 ms9) ≤ 36000 := Nat.le_trans (ssum_le (c := 1000) (fun k _ => hI.inv.un b9 (by omega) _)) (Nat.le_trans (Nat.mul_le_mul_right _ hrs.2) (by decide))
              refine zz_i (vx_runSX (As := [.ref (ad 0), .int (nI (2)), .int (nI (b9)), .int (nI (mo9)), .int (nI (ms9))]) (rest := []) ⟨hx, hb, hml, hown, hts⟩ (q_set2 l hfl hI.inv (by decide) hnd hAd (Nat.le_trans hz0 hS.1) hT  (nI (b9)) (nI (mo9)) (nI (ms9))) (vx_cwSW 5 hts gL_pumps_L_set rfl rfl rfl (by decide +kernel) (by decide)) (psV hK hP hX (fun a h1 h2 => hS.2.1 a h1 h2)) rfl rfl hl.1 rfl (lv_room (Nat.le_of_ble_eq_true rfl)) dL_pumps_221 ⟨show 0 + 3 ≤ 10 by omega, show 0 + 18 ≤ 60 by omega⟩) hS (fun q _ h => h) (fun q h => h) (fun r9 u_62 t9 H locs ht9 hv9 hp9 hB9 hz1 hk1 hS => ?_)
              obtain ⟨e_62, hT⟩ := hp9
              have hP := hB9.2
              rw [ht9] at hP
              clear hB9 ht9 hv9 hz1 hk1
              have hcd_62 : cd2 (ixB (nI (b9)) (K 0 0) && ixB (nI (mo9)) 36) (rgB (nI (ms9)) (nI 1) (nI 36)) = 0 := cd2_0 (ix2_t (by omega) (by omega) (by omega) (by decide)) (rg_t (by omega) (by omega) (by decide))
              have eM_62 : moC (cd2 (ixB (nI (b9)) (K 0 0) && ixB (nI (mo9)) 36) (rgB (nI (ms9)) (nI 1) (nI 36))) (nx_rest K (clN (nI (b9))) (clN (nI (mo9))) (clN (nI (ms9)))) K = nx_rest K ((b9)) ((mo9)) ((ms9)) := (moC_z hcd_62).trans (by first | rfl | simp only [clN_nI (show b9 < 2 ^ 31 by omega), clN_nI (show mo9 < 2 ^ 31 by omega), clN_nI (show ms9 < 2 ^ 31 by omega)])
              rw [eM_62] at hP hT
              have e_62 := e_62.trans ((rsc_0 hcd_62).trans (show nI (rss K (clN (nI (b9))) (clN (nI (mo9))) (rsn (clN (nI (mo9))) (clN (nI (ms9))))) = nI (rss K ((b9)) ((mo9)) (rsn ((mo9)) ((ms9)))) by first | rfl | simp only [clN_nI (show b9 < 2 ^ 31 by omega), clN_nI (show mo9 < 2 ^ 31 by omega), clN_nI (show ms9 < 2 ^ 31 by omega)]))
              subst e_62
              refine lv_iload hx hb dL_pumps_224 (lv_at hl 6 rfl) ?_
              refine zb_Bne (tgt := 234) hx hb dL_pumps_226 (by decide) (fun _ => ?_) (fun c_63 => False.elim (by revert c_63; decide))
              refine lv_iload hx hb dL_pumps_234 (lv_at hl 8 rfl) ?_
              refine zb_Beq (tgt := 244) hx hb dL_pumps_236 (by decide) (fun c_64 => False.elim (by revert c_64; decide)) (fun _ => ?_)
              refine lv_iload hx hb dL_pumps_239 (lv_at hl 9 rfl) ?_
              refine lv_goto (tgt := 246) hx hb dL_pumps_241 (by decide) ?_
              refine zb_ne (tgt := 253) hx hb (by omega) (by omega) dL_pumps_246 (by decide) (fun c_65 => ?_) (fun c_65 => ?_)
              · skip
                exact False.elim (by omega)
              · skip
                refine lv_iconst (v := nI 1) hx hb dL_pumps_249 (by decide) ?_
                refine lv_goto (tgt := 254) hx hb dL_pumps_250 (by decide) ?_
                exact hret (b := true) (u := (nx_rest K ((b9)) ((mo9)) ((ms9)), u_62.1, u_62.2)) (show 0 + 3 ≤ 10 by omega) (show 0 + 18 ≤ 60 by omega) ⟨rfl, (inl_rst hI), hT⟩ rfl hS (fun t ht hA => ⟨va_K.moved hA hK, by rw [ht]; exact hP⟩) dL_pumps_254
            · skip
              refine lv_iload hx hb dL_pumps_181 (lv_at hl 6 rfl) ?_
              refine zb_Beq (tgt := 213) hx hb dL_pumps_183 (by decide) (fun c_66 => False.elim (by revert c_66; decide)) (fun _ => ?_)
              refine lv_iload hx hb dL_pumps_186 (lv_at hl 8 rfl) ?_
              refine zb_Beq (tgt := 213) hx hb dL_pumps_188 (by decide) (fun c_67 => False.elim (by revert c_67; decide)) (fun _ => ?_)
              refine lv_iload hx hb dL_pumps_191 (lv_at hl 9 rfl) ?_
              refine lv_aload hx hb dL_pumps_193 (lv_at hl 3 rfl) ?_
              refine lv_iload hx hb dL_pumps_195 (lv_at hl 10 rfl) ?_
              have f_68 := hI.inv.un (b9) (by omega) (mo9 + (k))
              refine zi_ld hx hb hK hP (32 + (b9)) (by omega) 0 (wx_p (by omega)) rfl (by decide) (i := mo9 + (k)) (by omega) (v := nI ((rst K b9 mo9 (k)) (10 + 3 * (b9)) (mo9 + (k)))) rfl dL_pumps_197 ?_
              refine zt_i (y := nI (K (10 + 3 * b9) (mo9 + k))) (congrArg nI (rst_at K b9 mo9 k k (Nat.le_refl _))) ?_
              refine zr_iadd hx hb dL_pumps_198 ?_
              refine lv_istore (lv' := [(11, .int (nI ((rss K b9 mo9 (k)) + (K (10 + 3 * b9) (mo9 + k))))), (0, .ref (ad 0)), (1, .int (bB (true))), (3, .ref (ad 27)), (4, .ref (ad (32 + (b9)))), (5, .int (nI (b9))), (6, .int (nI (mo9))), (8, .int (bB (true))), (9, .int (nI (ms9))), (10, .int (bB (true))), (12, .int (nI (mo9 + (k))))]) hx hb dL_pumps_199 hl (by decide) rfl (fun ls hl => ?_)
              refine lv_aload hx hb dL_pumps_201 (lv_at hl 4 rfl) ?_
              refine lv_iload hx hb dL_pumps_203 (lv_at hl 10 rfl) ?_
              refine lv_iconst (v := nI 0) hx hb dL_pumps_205 (by decide) ?_
              refine zi_st hx hb hK hP hnd hAd hS (32 + (b9)) (by omega) 0 (wx_p (by omega)) rfl (by decide) (i := mo9 + (k)) (by omega) (wxE ad cI cJ cQ (K) (ts) (pu) (mup (rst K b9 mo9 (k)) (10 + 3 * (b9)) (mo9 + (k)) (0)) (X)) (wlS_p (by omega)) dL_pumps_206 (fun H locs hP hS => ?_)
              refine lv_iinc (v := nI (mo9 + (k) + 1)) (lv' := [(12, .int (nI (mo9 + (k) + 1))), (11, .int (nI ((rss K b9 mo9 (k)) + (K (10 + 3 * b9) (mo9 + k))))), (0, .ref (ad 0)), (1, .int (bB (true))), (3, .ref (ad 27)), (4, .ref (ad (32 + (b9)))), (5, .int (nI (b9))), (6, .int (nI (mo9))), (8, .int (bB (true))), (9, .int (nI (ms9))), (10, .int (bB (true)))]) hx hb dL_pumps_207 hl (k := 10) rfl (zn_inc (mo9 + (k))) (by decide) rfl (fun ls hl => ?_)
              refine lv_goto (tgt := 164) hx hb dL_pumps_210 (by decide) ?_
              exact ih164 (k + 1) (by omega) (by omega) _ _ hP hS _ (lv_sub hl [2, 3, 4, 5, 6, 7, 8, 9, 10, 1, 0] rfl)
      exact lp164 (rsn mo9 ms9 - (0) + 1) (0) (by omega) (by omega) _ _ hP hS _ (lv_sub hl [7, 8, 10, 11, 12, 6, 4, 3, 2, 1, 0] rfl)
