set_option maxHeartbeats 4000000 in
set_option maxRecDepth 100000 in
/-- a well is built -/
theorem l_lays0 (l : Launch) (hfl : l.stackTraces = false) {D : va_G} {ad : Nat → Nat} {cI cJ cQ : ClassId} {K : Mdl} {ts : Nat → Nat} {pu : Nat → Int64} {X : Nat → va_E} {sa : Nat → Nat} {sz z0 : Nat} (hI : Inl K) (hnd : ndz 37 ad) (hAd : ∀ i, i < 37 → zA z0 (ad i)) (hz0 : z0 ≤ sz) (hT : hTs K ts) (g : Int32)  : Met l yL_lays wsL_lays (rmX 3 10) (va_Pc [.ref (ad 0), .int (nI (0)), .int (g), .ref (ad 27), .ref (ad 28), .ref (ad 29), .ref (ad 30), .ref (ad 31)] (KV D 37 ad cI cJ cQ (wxE ad cI cJ cQ K ts pu K X) sa (zA z0) sz)) (va_Qi (fun r_ (u_ : Mdl × (Nat → Nat) × (Nat → Int64)) => ∃ b : Bool, r_ = bB b ∧ (b = true ∧ Inl u_.1 ∧ hTs u_.1 u_.2.1)) (fun (u_ : Mdl × (Nat → Nat) × (Nat → Int64)) t_ => KA D 37 ad cI cJ cQ (wxE ad cI cJ cQ u_.1 u_.2.1 u_.2.2 u_.1 X) t_) (zA z0)) 10 60 (zA z0) := by
  refine mkW_Qz (S := Mdl × (Nat → Nat) × (Nat → Int64)) (post := fun b (u_ : Mdl × (Nat → Nat) × (Nat → Int64)) => b = true ∧ Inl u_.1 ∧ hTs u_.1 u_.2.1) (BQ := fun (u_ : Mdl × (Nat → Nat) × (Nat → Int64)) t_ => KA D 37 ad cI cJ cQ (wxE ad cI cJ cQ u_.1 u_.2.1 u_.2.2 u_.1 X) t_) (cc := cL_lays) (maxL := 14) (by decide) rfl (Nat.le_of_ble_eq_true rfl) ?_
  intro p e s m args below meth c Q C0 B0 hret ls hl
  obtain ⟨hx, hb, hr, hml, hown, hts, hlocks⟩ := C0
  have hown : s.vm.findClass RL = some m.cls := hown
  obtain ⟨hsz, hX, hK, hP⟩ := B0
  subst hsz
  have b_nw := hI.nw
  have b_nv := hI.nv
  have hS : va_S (zA z0) s.heap s.heap [] := va_S.rf
  have hl : lv_has ls 14 [(0, .ref (ad 0)), (1, .int (nI (0))), (2, .int (g)), (3, .ref (ad 27)), (4, .ref (ad 28)), (5, .ref (ad 29)), (6, .ref (ad 30)), (7, .ref (ad 31))] := hl
  refine lv_iload_n hx hb dL_lays_0 rfl (lv_at hl 1 rfl) ?_
  refine lv_if_ne (tgt := 199) hx hb dL_lays_1 (by decide) (fun c_1 => False.elim (by revert c_1; decide)) (fun _ => ?_)
  suffices mg24 : ∀ (pl9 : Nat), (pl9 ≤ 100) → ∀ ls : Array Slot, lv_has ls 14 [(0, .ref (ad 0)), (1, .int (nI (0))), (2, .int (g)), (3, .ref (ad 27)), (4, .ref (ad 28)), (5, .ref (ad 29)), (6, .ref (ad 30)), (7, .ref (ad 31))] → W p l e (rmX 3 10) s m args below meth c s.heap [] (0) (0) Q (F0 m 24 ls [.int (nI (pl9))]) by
    refine lv_iload_n hx hb dL_lays_4 rfl (lv_at hl 2 rfl) ?_
    refine lv_bipush (v := nI 60) hx hb dL_lays_5 (by decide) ?_
    refine vp_callSi (W.runS (As := [.int (g), .int (nI (60))]) (rest := []) ⟨hx, hb, hml, hown, hts⟩ (l_some l ((g)) (N := 60) (by omega) (by omega)) (va_cwS 2 hts gL_lays_L_some rfl rfl rfl (by decide +kernel) (by decide)) (psN) rfl rfl hl.1 rfl (lv_room (Nat.le_of_ble_eq_true rfl)) dL_lays_7 (by decide)) (fun r_2 hr_2 => ?_)
    obtain ⟨r_2j, br_2, rfl⟩ := hr_2
    refine zb_0ne (tgt := 18) hx hb (by omega) dL_lays_10 (by decide) (fun c_3 => ?_) (fun c_3 => ?_)
    · skip
      refine lv_iload_n hx hb dL_lays_18 rfl (lv_at hl 2 rfl) ?_
      refine lv_bipush (v := nI 100) hx hb dL_lays_19 (by decide) ?_
      refine vp_callSi (W.runS (As := [.int (g), .int (nI (100))]) (rest := []) ⟨hx, hb, hml, hown, hts⟩ (l_some l ((g)) (N := 100) (by omega) (by omega)) (va_cwS 2 hts gL_lays_L_some rfl rfl rfl (by decide +kernel) (by decide)) (psN) rfl rfl hl.1 rfl (lv_room (Nat.le_of_ble_eq_true rfl)) dL_lays_21 (by decide)) (fun r_4 hr_4 => ?_)
      obtain ⟨r_4j, br_4, rfl⟩ := hr_4
      exact mg24 (r_4j) (by omega) _ (lv_sub hl [0, 1, 2, 3, 4, 5, 6, 7] rfl)
    · skip
      refine lv_bipush (v := nI 100) hx hb dL_lays_13 (by decide) ?_
      refine lv_goto (tgt := 24) hx hb dL_lays_15 (by decide) ?_
      exact mg24 (100) (by omega) _ (lv_sub hl [0, 1, 2, 3, 4, 5, 6, 7] rfl)
  intro pl9 hpl ls hl
  refine lv_istore (lv' := [(8, .int (nI (pl9))), (0, .ref (ad 0)), (1, .int (nI (0))), (2, .int (g)), (3, .ref (ad 27)), (4, .ref (ad 28)), (5, .ref (ad 29)), (6, .ref (ad 30)), (7, .ref (ad 31))]) hx hb dL_lays_24 hl (by decide) rfl (fun ls hl => ?_)
  suffices mg48 : ∀ (zo9 : Nat), (zo9 ≤ 3) → ∀ ls : Array Slot, lv_has ls 14 [(8, .int (nI (pl9))), (0, .ref (ad 0)), (1, .int (nI (0))), (2, .int (g)), (3, .ref (ad 27)), (4, .ref (ad 28)), (5, .ref (ad 29)), (6, .ref (ad 30)), (7, .ref (ad 31))] → W p l e (rmX 3 10) s m args below meth c s.heap [] (0) (0) Q (F0 m 48 ls [.int (nI (zo9))]) by
    refine lv_iload_n hx hb dL_lays_26 rfl (lv_at hl 3 rfl) ?_
    refine lv_iconst (v := nI 5) hx hb dL_lays_27 (by decide) ?_
    refine lv_ishr hx hb dL_lays_28 ?_
    refine lv_bipush (v := nI 40) hx hb dL_lays_29 (by decide) ?_
    refine vp_callSi (W.runS (As := [.int ((g) >>> (nI (5) &&& 31)), .int (nI (40))]) (rest := []) ⟨hx, hb, hml, hown, hts⟩ (l_some l (((g) >>> (nI (5) &&& 31))) (N := 40) (by omega) (by omega)) (va_cwS 2 hts gL_lays_L_some rfl rfl rfl (by decide +kernel) (by decide)) (psN) rfl rfl hl.1 rfl (lv_room (Nat.le_of_ble_eq_true rfl)) dL_lays_31 (by decide)) (fun r_6 hr_6 => ?_)
    obtain ⟨r_6j, br_6, rfl⟩ := hr_6
    refine zb_0ne (tgt := 41) hx hb (by omega) dL_lays_34 (by decide) (fun c_7 => ?_) (fun c_7 => ?_)
    · skip
      refine lv_iload_n hx hb dL_lays_41 rfl (lv_at hl 3 rfl) ?_
      refine lv_iconst (v := nI 5) hx hb dL_lays_42 (by decide) ?_
      refine lv_ishr hx hb dL_lays_43 ?_
      refine lv_iconst (v := nI 3) hx hb dL_lays_44 (by decide) ?_
      refine vp_callSi (W.runS (As := [.int ((g) >>> (nI (5) &&& 31)), .int (nI (3))]) (rest := []) ⟨hx, hb, hml, hown, hts⟩ (l_some l (((g) >>> (nI (5) &&& 31))) (N := 3) (by omega) (by omega)) (va_cwS 2 hts gL_lays_L_some rfl rfl rfl (by decide +kernel) (by decide)) (psN) rfl rfl hl.1 rfl (lv_room (Nat.le_of_ble_eq_true rfl)) dL_lays_45 (by decide)) (fun r_9 hr_9 => ?_)
      obtain ⟨r_9j, br_9, rfl⟩ := hr_9
      exact mg48 (r_9j) (by omega) _ (lv_sub hl [0, 1, 2, 3, 4, 5, 6, 7, 8] rfl)
    · skip
      refine lv_iconst (v := nI 3) hx hb dL_lays_37 (by decide) ?_
      refine lv_goto (tgt := 48) hx hb dL_lays_38 (by decide) ?_
      exact mg48 (3) (by omega) _ (lv_sub hl [0, 1, 2, 3, 4, 5, 6, 7, 8] rfl)
  intro zo9 hzo ls hl
  refine lv_istore (lv' := [(9, .int (nI (zo9))), (8, .int (nI (pl9))), (0, .ref (ad 0)), (1, .int (nI (0))), (2, .int (g)), (3, .ref (ad 27)), (4, .ref (ad 28)), (5, .ref (ad 29)), (6, .ref (ad 30)), (7, .ref (ad 31))]) hx hb dL_lays_48 hl (by decide) rfl (fun ls hl => ?_)
  suffices mg80 : ∀ (li9 : Nat), (li9 ≤ 5001) → ∀ ls : Array Slot, lv_has ls 14 [(9, .int (nI (zo9))), (8, .int (nI (pl9))), (0, .ref (ad 0)), (1, .int (nI (0))), (2, .int (g)), (3, .ref (ad 27)), (4, .ref (ad 28)), (5, .ref (ad 29)), (6, .ref (ad 30)), (7, .ref (ad 31))] → W p l e (rmX 3 10) s m args below meth c s.heap [] (0) (0) Q (F0 m 80 ls [.int (nI (li9))]) by
    refine lv_iload_n hx hb dL_lays_50 rfl (lv_at hl 4 rfl) ?_
    refine lv_bipush (v := nI 7) hx hb dL_lays_51 (by decide) ?_
    refine lv_ishr hx hb dL_lays_53 ?_
    refine lv_bipush (v := nI 60) hx hb dL_lays_54 (by decide) ?_
    refine vp_callSi (W.runS (As := [.int ((g) >>> (nI (7) &&& 31)), .int (nI (60))]) (rest := []) ⟨hx, hb, hml, hown, hts⟩ (l_some l (((g) >>> (nI (7) &&& 31))) (N := 60) (by omega) (by omega)) (va_cwS 2 hts gL_lays_L_some rfl rfl rfl (by decide +kernel) (by decide)) (psN) rfl rfl hl.1 rfl (lv_room (Nat.le_of_ble_eq_true rfl)) dL_lays_56 (by decide)) (fun r_11 hr_11 => ?_)
    obtain ⟨r_11j, br_11, rfl⟩ := hr_11
    refine zb_0ne (tgt := 68) hx hb (by omega) dL_lays_59 (by decide) (fun c_12 => ?_) (fun c_12 => ?_)
    · skip
      refine lv_iload_n hx hb dL_lays_68 rfl (lv_at hl 4 rfl) ?_
      refine lv_bipush (v := nI 7) hx hb dL_lays_69 (by decide) ?_
      refine lv_ishr hx hb dL_lays_71 ?_
      refine lv_bipush (v := nI 60) hx hb dL_lays_72 (by decide) ?_
      refine vp_callSi (W.runS (As := [.int ((g) >>> (nI (7) &&& 31)), .int (nI (60))]) (rest := []) ⟨hx, hb, hml, hown, hts⟩ (l_some l (((g) >>> (nI (7) &&& 31))) (N := 60) (by omega) (by omega)) (va_cwS 2 hts gL_lays_L_some rfl rfl rfl (by decide +kernel) (by decide)) (psN) rfl rfl hl.1 rfl (lv_room (Nat.le_of_ble_eq_true rfl)) dL_lays_74 (by decide)) (fun r_14 hr_14 => ?_)
      obtain ⟨r_14j, br_14, rfl⟩ := hr_14
      refine lv_bipush (v := nI 10) hx hb dL_lays_77 (by decide) ?_
      refine zr_imul hx hb dL_lays_79 ?_
      exact mg80 ((r_14j) * (10)) (by omega) _ (lv_sub hl [0, 1, 2, 3, 4, 5, 6, 7, 8, 9] rfl)
    · skip
      refine lv_sipush (v := nI 5001) hx hb dL_lays_62 (by decide) ?_
      refine lv_goto (tgt := 80) hx hb dL_lays_65 (by decide) ?_
      exact mg80 (5001) (by omega) _ (lv_sub hl [0, 1, 2, 3, 4, 5, 6, 7, 8, 9] rfl)
  intro li9 hli ls hl
  refine lv_istore (lv' := [(10, .int (nI (li9))), (9, .int (nI (zo9))), (8, .int (nI (pl9))), (0, .ref (ad 0)), (1, .int (nI (0))), (2, .int (g)), (3, .ref (ad 27)), (4, .ref (ad 28)), (5, .ref (ad 29)), (6, .ref (ad 30)), (7, .ref (ad 31))]) hx hb dL_lays_80 hl (by decide) rfl (fun ls hl => ?_)
  suffices mg108 : ∀ (fi9 : Bool), (fi9 = true ↔ (pl9 < 100 ∧ zo9 < 3 ∧ li9 < 5001)) → ∀ ls : Array Slot, lv_has ls 14 [(10, .int (nI (li9))), (9, .int (nI (zo9))), (8, .int (nI (pl9))), (0, .ref (ad 0)), (1, .int (nI (0))), (2, .int (g)), (3, .ref (ad 27)), (4, .ref (ad 28)), (5, .ref (ad 29)), (6, .ref (ad 30)), (7, .ref (ad 31))] → W p l e (rmX 3 10) s m args below meth c s.heap [] (0) (0) Q (F0 m 108 ls [.int (bB (fi9))]) by
    refine lv_iload hx hb dL_lays_82 (lv_at hl 2 rfl) ?_
    refine lv_bipush (v := nI 100) hx hb dL_lays_84 (by decide) ?_
    refine zb_ge (tgt := 107) hx hb (by omega) (by omega) dL_lays_86 (by decide) (fun c_15 => ?_) (fun c_15 => ?_)
    · skip
      refine lv_iconst (v := nI 0) hx hb dL_lays_107 (by decide) ?_
      refine zt_i (y := bB (false)) rfl ?_
      exact mg108 (false) (iff_of_false (by decide) (by omega)) _ (lv_sub hl [0, 1, 2, 3, 4, 5, 6, 7, 8, 9, 10] rfl)
    · skip
      refine lv_iload hx hb dL_lays_89 (lv_at hl 1 rfl) ?_
      refine lv_iconst (v := nI 3) hx hb dL_lays_91 (by decide) ?_
      refine zb_ge (tgt := 107) hx hb (by omega) (by omega) dL_lays_92 (by decide) (fun c_16 => ?_) (fun c_16 => ?_)
      · skip
        refine lv_iconst (v := nI 0) hx hb dL_lays_107 (by decide) ?_
        refine zt_i (y := bB (false)) rfl ?_
        exact mg108 (false) (iff_of_false (by decide) (by omega)) _ (lv_sub hl [0, 1, 2, 3, 4, 5, 6, 7, 8, 9, 10] rfl)
      · skip
        refine lv_iload hx hb dL_lays_95 (lv_at hl 0 rfl) ?_
        refine lv_sipush (v := nI 5001) hx hb dL_lays_97 (by decide) ?_
        refine zb_ge (tgt := 107) hx hb (by omega) (by omega) dL_lays_100 (by decide) (fun c_17 => ?_) (fun c_17 => ?_)
        · skip
          refine lv_iconst (v := nI 0) hx hb dL_lays_107 (by decide) ?_
          refine zt_i (y := bB (false)) rfl ?_
          exact mg108 (false) (iff_of_false (by decide) (by omega)) _ (lv_sub hl [0, 1, 2, 3, 4, 5, 6, 7, 8, 9, 10] rfl)
        · skip
          refine lv_iconst (v := nI 1) hx hb dL_lays_103 (by decide) ?_
          refine lv_goto (tgt := 108) hx hb dL_lays_104 (by decide) ?_
          refine zt_i (y := bB (true)) rfl ?_
          exact mg108 (true) (iff_of_true rfl (by omega)) _ (lv_sub hl [0, 1, 2, 3, 4, 5, 6, 7, 8, 9, 10] rfl)
  intro fi9 hfi ls hl
  refine lv_istore (lv' := [(11, .int (bB (fi9))), (10, .int (nI (li9))), (9, .int (nI (zo9))), (8, .int (nI (pl9))), (0, .ref (ad 0)), (1, .int (nI (0))), (2, .int (g)), (3, .ref (ad 27)), (4, .ref (ad 28)), (5, .ref (ad 29)), (6, .ref (ad 30)), (7, .ref (ad 31))]) hx hb dL_lays_108 hl (by decide) rfl (fun ls hl => ?_)
  suffices mg124 : (fi9 = true → K 0 0 < 5) → ∀ ls : Array Slot, lv_has ls 14 [(11, .int (bB (fi9))), (10, .int (nI (li9))), (9, .int (nI (zo9))), (8, .int (nI (pl9))), (0, .ref (ad 0)), (1, .int (nI (0))), (2, .int (g)), (3, .ref (ad 27)), (4, .ref (ad 28)), (5, .ref (ad 29)), (6, .ref (ad 30)), (7, .ref (ad 31))] → W p l e (rmX 3 10) s m args below meth c s.heap [] (0) (0) Q (F0 m 124 ls []) by
    refine lv_iload hx hb dL_lays_110 (lv_at hl 0 rfl) ?_
    refine zb_Beq (tgt := 124) hx hb dL_lays_112 (by decide) (fun c_18 => ?_) (fun c_18 => ?_)
    · skip
      exact mg124 (fun h9 => absurd (h9.symm.trans (by assumption : fi9 = false)) (by decide)) _ (lv_sub hl [0, 1, 2, 3, 4, 5, 6, 7, 8, 9, 10, 11] rfl)
    · skip
      refine lv_aload_n hx hb dL_lays_115 rfl (lv_at hl 7 rfl) ?_
      refine lv_iconst (v := nI 0) hx hb dL_lays_116 (by decide) ?_
      refine zi_ld hx hb hK hP 27 (by decide) 0 rfl rfl (by decide) (i := 0) (by omega) (v := nI (K 0 0)) rfl dL_lays_117 ?_
      refine lv_iconst (v := nI 5) hx hb dL_lays_118 (by decide) ?_
      refine zb_ne (tgt := 124) hx hb (by omega) (by omega) dL_lays_119 (by decide) (fun c_19 => ?_) (fun c_19 => ?_)
      · skip
        exact mg124 (fun h9 => by omega) _ (lv_sub hl [0, 1, 2, 3, 4, 5, 6, 7, 8, 9, 10, 11] rfl)
      · skip
        refine lv_iconst (v := nI 1) hx hb dL_lays_122 (by decide) ?_
        exact hret (b := true) (u := (K, ts, pu)) (show 0 ≤ 10 by omega) (show 0 ≤ 60 by omega) ⟨rfl, hI, hT⟩ rfl hS (fun t ht hA => ⟨va_K.moved hA hK, by rw [ht]; exact hP⟩) dL_lays_123
  intro hcu ls hl
  refine lv_iload hx hb dL_lays_124 (lv_at hl 0 rfl) ?_
  refine zb_Beq (tgt := 165) hx hb dL_lays_126 (by decide) (fun c_20 => ?_) (fun c_20 => ?_)
  · skip
    subst c_20
    have hfp : ¬ (pl9 < 100 ∧ zo9 < 3 ∧ li9 < 5001) := fun z => absurd (hfi.mpr z) (by decide)
    refine lv_aload_n hx hb dL_lays_165 rfl (lv_at hl 4 rfl) ?_
    refine lv_iload hx hb dL_lays_166 (lv_at hl 3 rfl) ?_
    refine lv_iload hx hb dL_lays_168 (lv_at hl 2 rfl) ?_
    refine lv_iload hx hb dL_lays_170 (lv_at hl 1 rfl) ?_
    refine zz_i (vx_runSX (As := [.ref (ad 0), .int (nI (pl9)), .int (nI (zo9)), .int (nI (li9))]) (rest := []) ⟨hx, hb, hml, hown, hts⟩ (q_built l hfl hI.inv (by decide) hnd hAd (Nat.le_trans hz0 hS.1) hT (by omega) (nI (pl9)) (nI (zo9)) (nI (li9))) (vx_cwSW 4 hts gL_lays_L_built rfl rfl rfl (by decide +kernel) (by decide)) (psV hK hP hX (fun a h1 h2 => hS.2.1 a h1 h2)) rfl rfl hl.1 rfl (lv_room (Nat.le_of_ble_eq_true rfl)) dL_lays_172 ⟨show 0 + 4 ≤ 10 by omega, show 0 + 24 ≤ 60 by omega⟩) hS (fun q _ h => h) (fun q h => h) (fun r9 u_21 t9 H locs ht9 hv9 hp9 hB9 hz1 hk1 hS => ?_)
    obtain ⟨e_21, hT⟩ := hp9
    have hP := hB9.2
    rw [ht9] at hP
    clear hB9 ht9 hv9 hz1 hk1
    have hcd_21 : cd2 (rgB (nI (pl9)) (nI 0) (nI 99) && rgB (nI (zo9)) (nI 0) (nI 2) && rgB (nI (li9)) (nI 0) (nI 5000)) (decide (K 0 0 < 8)) = 1 := cd2_1 (rg3_f (by omega) (by omega) (by omega) (by omega))
    have eM_21 : moC (cd2 (rgB (nI (pl9)) (nI 0) (nI 99) && rgB (nI (zo9)) (nI 0) (nI 2) && rgB (nI (li9)) (nI 0) (nI 5000)) (decide (K 0 0 < 8))) (nx_well K (clN (nI (pl9))) (clN (nI (zo9))) (clN (nI (li9)))) K = K := moC_n (by rw [hcd_21]; decide)
    rw [eM_21] at hP hT
    have e_21 := e_21.trans (rsc_1 hcd_21)
    subst e_21
    refine lv_iload hx hb dL_lays_175 (lv_at hl 0 rfl) ?_
    refine zb_Beq (tgt := 188) hx hb dL_lays_177 (by decide) (fun _ => ?_) (fun c_22 => False.elim (by revert c_22; decide))
    refine lv_bipush (v := (-101)) hx hb dL_lays_188 (by decide) ?_
    refine lv_icmp_ne (tgt := 197) hx hb dL_lays_190 (by decide) (fun c_23 => False.elim (by revert c_23; decide)) (fun _ => ?_)
    refine lv_iconst (v := nI 1) hx hb dL_lays_193 (by decide) ?_
    refine lv_goto (tgt := 198) hx hb dL_lays_194 (by decide) ?_
    exact hret (b := true) (u := (K, u_21.1, u_21.2)) (show 0 + 4 ≤ 10 by omega) (show 0 + 24 ≤ 60 by omega) ⟨rfl, hI, hT⟩ rfl hS (fun t ht hA => ⟨va_K.moved hA hK, by rw [ht]; exact hP⟩) dL_lays_198
  · skip
    subst c_20
    have hfp := hfi.mp rfl
    have hc5 := hcu rfl
    refine lv_aload hx hb dL_lays_129 (lv_at hl 8 rfl) ?_
    refine lv_aload_n hx hb dL_lays_131 rfl (lv_at hl 7 rfl) ?_
    refine lv_iconst (v := nI 0) hx hb dL_lays_132 (by decide) ?_
    refine zi_ld hx hb hK hP 27 (by decide) 0 rfl rfl (by decide) (i := 0) (by omega) (v := nI (K 0 0)) rfl dL_lays_133 ?_
    refine lv_iload hx hb dL_lays_134 (lv_at hl 3 rfl) ?_
    refine zi_st hx hb hK hP hnd hAd hS 28 (by decide) 0 rfl rfl (by decide) (i := K 0 0) (by omega) (wxE ad cI cJ cQ (K) (ts) (pu) (mup K (1) (K 0 0) (pl9)) (X)) (wlS_w1 (by omega)) dL_lays_136 (fun H locs hP hS => ?_)
    refine lv_aload hx hb dL_lays_137 (lv_at hl 8 rfl) ?_
    refine lv_iconst (v := nI 5) hx hb dL_lays_139 (by decide) ?_
    refine lv_aload_n hx hb dL_lays_140 rfl (lv_at hl 7 rfl) ?_
    refine lv_iconst (v := nI 0) hx hb dL_lays_141 (by decide) ?_
    refine zi_ld hx hb hK hP 27 (by decide) 0 rfl rfl (by decide) (i := 0) (by omega) (v := nI ((mup K (1) (K 0 0) (pl9)) 0 0)) rfl dL_lays_142 ?_
    refine zt_i (y := nI (K 0 0)) (congrArg nI (by simp [mup])) ?_
    refine zr_iadd hx hb dL_lays_143 ?_
    refine lv_iload hx hb dL_lays_144 (lv_at hl 2 rfl) ?_
    refine zi_st hx hb hK hP hnd hAd hS 28 (by decide) 0 rfl rfl (by decide) (i := 5 + (K 0 0)) (by omega) (wxE ad cI cJ cQ (K) (ts) (pu) (mup (mup K (1) (K 0 0) (pl9)) (2) (K 0 0) (zo9)) (X)) (wlS_w2 (by omega)) dL_lays_146 (fun H locs hP hS => ?_)
    refine lv_aload hx hb dL_lays_147 (lv_at hl 8 rfl) ?_
    refine lv_bipush (v := nI 10) hx hb dL_lays_149 (by decide) ?_
    refine lv_aload_n hx hb dL_lays_151 rfl (lv_at hl 7 rfl) ?_
    refine lv_iconst (v := nI 0) hx hb dL_lays_152 (by decide) ?_
    refine zi_ld hx hb hK hP 27 (by decide) 0 rfl rfl (by decide) (i := 0) (by omega) (v := nI ((mup (mup K (1) (K 0 0) (pl9)) (2) (K 0 0) (zo9)) 0 0)) rfl dL_lays_153 ?_
    refine zt_i (y := nI (K 0 0)) (congrArg nI (by simp [mup])) ?_
    refine zr_iadd hx hb dL_lays_154 ?_
    refine lv_iload hx hb dL_lays_155 (lv_at hl 1 rfl) ?_
    refine zi_st hx hb hK hP hnd hAd hS 28 (by decide) 0 rfl rfl (by decide) (i := 10 + (K 0 0)) (by omega) (wxE ad cI cJ cQ (K) (ts) (pu) (mup (mup (mup K (1) (K 0 0) (pl9)) (2) (K 0 0) (zo9)) (3) (K 0 0) (li9)) (X)) (wlS_w3 (by omega)) dL_lays_157 (fun H locs hP hS => ?_)
    refine lv_aload_n hx hb dL_lays_158 rfl (lv_at hl 7 rfl) ?_
    refine lv_iconst (v := nI 0) hx hb dL_lays_159 (by decide) ?_
    refine lv_dup2_11 hx hb dL_lays_160 rfl rfl ?_
    refine zi_ld hx hb hK hP 27 (by decide) 0 rfl rfl (by decide) (i := 0) (by omega) (v := nI ((mup (mup (mup K (1) (K 0 0) (pl9)) (2) (K 0 0) (zo9)) (3) (K 0 0) (li9)) 0 0)) rfl dL_lays_161 ?_
    refine zt_i (y := nI (K 0 0)) (congrArg nI (by simp [mup])) ?_
    refine lv_iconst (v := nI 1) hx hb dL_lays_162 (by decide) ?_
    refine zr_iadd hx hb dL_lays_163 ?_
    refine zi_st hx hb hK hP hnd hAd hS 27 (by decide) 0 rfl rfl (by decide) (i := 0) (by omega) (wxE ad cI cJ cQ (K) (ts) (pu) (mup (mup (mup (mup K (1) (K 0 0) (pl9)) (2) (K 0 0) (zo9)) (3) (K 0 0) (li9)) (0) (0) ((K 0 0) + (1))) (X)) wlS_c0 dL_lays_164 (fun H locs hP hS => ?_)
    refine lv_aload_n hx hb dL_lays_165 rfl (lv_at hl 4 rfl) ?_
    refine lv_iload hx hb dL_lays_166 (lv_at hl 3 rfl) ?_
    refine lv_iload hx hb dL_lays_168 (lv_at hl 2 rfl) ?_
    refine lv_iload hx hb dL_lays_170 (lv_at hl 1 rfl) ?_
    refine zz_i (vx_runSX (As := [.ref (ad 0), .int (nI (pl9)), .int (nI (zo9)), .int (nI (li9))]) (rest := []) ⟨hx, hb, hml, hown, hts⟩ (q_built l hfl hI.inv (by decide) hnd hAd (Nat.le_trans hz0 hS.1) hT (by omega) (nI (pl9)) (nI (zo9)) (nI (li9))) (vx_cwSW 4 hts gL_lays_L_built rfl rfl rfl (by decide +kernel) (by decide)) (psV hK hP hX (fun a h1 h2 => hS.2.1 a h1 h2)) rfl rfl hl.1 rfl (lv_room (Nat.le_of_ble_eq_true rfl)) dL_lays_172 ⟨show 0 + 4 ≤ 10 by omega, show 0 + 24 ≤ 60 by omega⟩) hS (fun q _ h => h) (fun q h => h) (fun r9 u_24 t9 H locs ht9 hv9 hp9 hB9 hz1 hk1 hS => ?_)
    obtain ⟨e_24, hT⟩ := hp9
    have hP := hB9.2
    rw [ht9] at hP
    clear hB9 ht9 hv9 hz1 hk1
    have hcd_24 : cd2 (rgB (nI (pl9)) (nI 0) (nI 99) && rgB (nI (zo9)) (nI 0) (nI 2) && rgB (nI (li9)) (nI 0) (nI 5000)) (decide (K 0 0 < 8)) = 0 := cd2_0 (rg3_t (by omega) (by omega) (by omega)) (decide_eq_true (by omega))
    have eM_24 : moC (cd2 (rgB (nI (pl9)) (nI 0) (nI 99) && rgB (nI (zo9)) (nI 0) (nI 2) && rgB (nI (li9)) (nI 0) (nI 5000)) (decide (K 0 0 < 8))) (nx_well K (clN (nI (pl9))) (clN (nI (zo9))) (clN (nI (li9)))) K = nx_well K ((pl9)) ((zo9)) ((li9)) := (moC_z hcd_24).trans (by first | rfl | simp only [clN_nI (show pl9 < 2 ^ 31 by omega), clN_nI (show zo9 < 2 ^ 31 by omega), clN_nI (show li9 < 2 ^ 31 by omega)])
    rw [eM_24] at hP hT
    have e_24 := e_24.trans ((rsc_0 hcd_24).trans (show nI (K 0 0) = nI (K 0 0) by first | rfl | simp only [clN_nI (show pl9 < 2 ^ 31 by omega), clN_nI (show zo9 < 2 ^ 31 by omega), clN_nI (show li9 < 2 ^ 31 by omega)]))
    subst e_24
    refine lv_iload hx hb dL_lays_175 (lv_at hl 0 rfl) ?_
    refine zb_Beq (tgt := 188) hx hb dL_lays_177 (by decide) (fun c_25 => False.elim (by revert c_25; decide)) (fun _ => ?_)
    refine lv_aload_n hx hb dL_lays_180 rfl (lv_at hl 7 rfl) ?_
    refine lv_iconst (v := nI 0) hx hb dL_lays_181 (by decide) ?_
    refine zi_ld hx hb hK hP 27 (by decide) 0 rfl rfl (by decide) (i := 0) (by omega) (v := nI ((mup (mup (mup (mup K (1) (K 0 0) (pl9)) (2) (K 0 0) (zo9)) (3) (K 0 0) (li9)) (0) (0) ((K 0 0) + (1))) 0 0)) rfl dL_lays_182 ?_
    refine zt_i (y := nI ((K 0 0) + (1))) (congrArg nI (by simp [mup])) ?_
    refine lv_iconst (v := nI 1) hx hb dL_lays_183 (by decide) ?_
    refine zr_isub hx hb (by omega) dL_lays_184 ?_
    refine lv_goto (tgt := 190) hx hb dL_lays_185 (by decide) ?_
    refine zb_ne (tgt := 197) hx hb (by omega) (by omega) dL_lays_190 (by decide) (fun c_26 => ?_) (fun c_26 => ?_)
    · skip
      exact False.elim (by omega)
    · skip
      refine lv_iconst (v := nI 1) hx hb dL_lays_193 (by decide) ?_
      refine lv_goto (tgt := 198) hx hb dL_lays_194 (by decide) ?_
      exact hret (b := true) (u := (nx_well K ((pl9)) ((zo9)) ((li9)), u_24.1, u_24.2)) (show 0 + 4 ≤ 10 by omega) (show 0 + 24 ≤ 60 by omega) ⟨rfl, (inl_well hI (by omega) (by omega) (by omega) (by omega)), hT⟩ rfl hS (fun t ht hA => ⟨va_K.moved hA hK, by rw [ht]; exact hP⟩) dL_lays_198
set_option maxHeartbeats 4000000 in
set_option maxRecDepth 100000 in
/-- a watch is set -/
theorem l_lays1 (l : Launch) (hfl : l.stackTraces = false) {D : va_G} {ad : Nat → Nat} {cI cJ cQ : ClassId} {K : Mdl} {ts : Nat → Nat} {pu : Nat → Int64} {X : Nat → va_E} {sa : Nat → Nat} {sz z0 : Nat} (hI : Inl K) (hnd : ndz 37 ad) (hAd : ∀ i, i < 37 → zA z0 (ad i)) (hz0 : z0 ≤ sz) (hT : hTs K ts) (g : Int32)  : Met l yL_lays wsL_lays (rmX 3 10) (va_Pc [.ref (ad 0), .int (nI (1)), .int (g), .ref (ad 27), .ref (ad 28), .ref (ad 29), .ref (ad 30), .ref (ad 31)] (KV D 37 ad cI cJ cQ (wxE ad cI cJ cQ K ts pu K X) sa (zA z0) sz)) (va_Qi (fun r_ (u_ : Mdl × (Nat → Nat) × (Nat → Int64)) => ∃ b : Bool, r_ = bB b ∧ (b = true ∧ Inl u_.1 ∧ hTs u_.1 u_.2.1)) (fun (u_ : Mdl × (Nat → Nat) × (Nat → Int64)) t_ => KA D 37 ad cI cJ cQ (wxE ad cI cJ cQ u_.1 u_.2.1 u_.2.2 u_.1 X) t_) (zA z0)) 10 60 (zA z0) := by
  refine mkW_Qz (S := Mdl × (Nat → Nat) × (Nat → Int64)) (post := fun b (u_ : Mdl × (Nat → Nat) × (Nat → Int64)) => b = true ∧ Inl u_.1 ∧ hTs u_.1 u_.2.1) (BQ := fun (u_ : Mdl × (Nat → Nat) × (Nat → Int64)) t_ => KA D 37 ad cI cJ cQ (wxE ad cI cJ cQ u_.1 u_.2.1 u_.2.2 u_.1 X) t_) (cc := cL_lays) (maxL := 14) (by decide) rfl (Nat.le_of_ble_eq_true rfl) ?_
  intro p e s m args below meth c Q C0 B0 hret ls hl
  obtain ⟨hx, hb, hr, hml, hown, hts, hlocks⟩ := C0
  have hown : s.vm.findClass RL = some m.cls := hown
  obtain ⟨hsz, hX, hK, hP⟩ := B0
  subst hsz
  have b_nw := hI.nw
  have b_nv := hI.nv
  have hS : va_S (zA z0) s.heap s.heap [] := va_S.rf
  have hl : lv_has ls 14 [(0, .ref (ad 0)), (1, .int (nI (1))), (2, .int (g)), (3, .ref (ad 27)), (4, .ref (ad 28)), (5, .ref (ad 29)), (6, .ref (ad 30)), (7, .ref (ad 31))] := hl
  refine lv_iload_n hx hb dL_lays_0 rfl (lv_at hl 1 rfl) ?_
  refine lv_if_ne (tgt := 199) hx hb dL_lays_1 (by decide) (fun _ => ?_) (fun c_1 => False.elim (by revert c_1; decide))
  refine lv_iload_n hx hb dL_lays_199 rfl (lv_at hl 1 rfl) ?_
  refine lv_iconst (v := nI 1) hx hb dL_lays_200 (by decide) ?_
  refine lv_icmp_ne (tgt := 351) hx hb dL_lays_201 (by decide) (fun c_2 => False.elim (by revert c_2; decide)) (fun _ => ?_)
  suffices mg223 : ∀ (q9 : Int32), (q9 = -1 ∨ ∃ j : Nat, j < 100 ∧ q9 = nI j) → ∀ ls : Array Slot, lv_has ls 14 [(0, .ref (ad 0)), (1, .int (nI (1))), (2, .int (g)), (3, .ref (ad 27)), (4, .ref (ad 28)), (5, .ref (ad 29)), (6, .ref (ad 30)), (7, .ref (ad 31))] → W p l e (rmX 3 10) s m args below meth c s.heap [] (0) (0) Q (F0 m 223 ls [.int (q9)]) by
    refine lv_iload_n hx hb dL_lays_204 rfl (lv_at hl 2 rfl) ?_
    refine lv_bipush (v := nI 40) hx hb dL_lays_205 (by decide) ?_
    refine vp_callSi (W.runS (As := [.int (g), .int (nI (40))]) (rest := []) ⟨hx, hb, hml, hown, hts⟩ (l_some l ((g)) (N := 40) (by omega) (by omega)) (va_cwS 2 hts gL_lays_L_some rfl rfl rfl (by decide +kernel) (by decide)) (psN) rfl rfl hl.1 rfl (lv_room (Nat.le_of_ble_eq_true rfl)) dL_lays_207 (by decide)) (fun r_3 hr_3 => ?_)
    obtain ⟨r_3j, br_3, rfl⟩ := hr_3
    refine zb_0ne (tgt := 217) hx hb (by omega) dL_lays_210 (by decide) (fun c_4 => ?_) (fun c_4 => ?_)
    · skip
      refine lv_iload_n hx hb dL_lays_217 rfl (lv_at hl 2 rfl) ?_
      refine lv_bipush (v := nI 100) hx hb dL_lays_218 (by decide) ?_
      refine vp_callSi (W.runS (As := [.int (g), .int (nI (100))]) (rest := []) ⟨hx, hb, hml, hown, hts⟩ (l_some l ((g)) (N := 100) (by omega) (by omega)) (va_cwS 2 hts gL_lays_L_some rfl rfl rfl (by decide +kernel) (by decide)) (psN) rfl rfl hl.1 rfl (lv_room (Nat.le_of_ble_eq_true rfl)) dL_lays_220 (by decide)) (fun r_5 hr_5 => ?_)
      obtain ⟨r_5j, br_5, rfl⟩ := hr_5
      exact mg223 (nI (r_5j)) (Or.inr ⟨_, by omega, rfl⟩) _ (lv_sub hl [0, 1, 2, 3, 4, 5, 6, 7] rfl)
    · skip
      refine lv_iconst (v := (-1)) hx hb dL_lays_213 (by decide) ?_
      refine lv_goto (tgt := 223) hx hb dL_lays_214 (by decide) ?_
      exact mg223 ((-1)) (Or.inl rfl) _ (lv_sub hl [0, 1, 2, 3, 4, 5, 6, 7] rfl)
  intro q9 hq9 ls hl
  rcases hq9 with rfl | ⟨pl9, bpl, rfl⟩
  · skip
    refine lv_istore (lv' := [(8, .int (-1)), (0, .ref (ad 0)), (1, .int (nI (1))), (2, .int (g)), (3, .ref (ad 27)), (4, .ref (ad 28)), (5, .ref (ad 29)), (6, .ref (ad 30)), (7, .ref (ad 31))]) hx hb dL_lays_223 hl (by decide) rfl (fun ls hl => ?_)
    suffices mg253 : ∀ (li9 : Nat), (li9 ≤ 10001) → ∀ ls : Array Slot, lv_has ls 14 [(8, .int (-1)), (0, .ref (ad 0)), (1, .int (nI (1))), (2, .int (g)), (3, .ref (ad 27)), (4, .ref (ad 28)), (5, .ref (ad 29)), (6, .ref (ad 30)), (7, .ref (ad 31))] → W p l e (rmX 3 10) s m args below meth c s.heap [] (0) (0) Q (F0 m 253 ls [.int (nI (li9))]) by
      refine lv_iload_n hx hb dL_lays_225 rfl (lv_at hl 3 rfl) ?_
      refine lv_bipush (v := nI 6) hx hb dL_lays_226 (by decide) ?_
      refine lv_ishr hx hb dL_lays_228 ?_
      refine lv_bipush (v := nI 40) hx hb dL_lays_229 (by decide) ?_
      refine vp_callSi (W.runS (As := [.int ((g) >>> (nI (6) &&& 31)), .int (nI (40))]) (rest := []) ⟨hx, hb, hml, hown, hts⟩ (l_some l (((g) >>> (nI (6) &&& 31))) (N := 40) (by omega) (by omega)) (va_cwS 2 hts gL_lays_L_some rfl rfl rfl (by decide +kernel) (by decide)) (psN) rfl rfl hl.1 rfl (lv_room (Nat.le_of_ble_eq_true rfl)) dL_lays_231 (by decide)) (fun r_7 hr_7 => ?_)
      obtain ⟨r_7j, br_7, rfl⟩ := hr_7
      refine zb_0ne (tgt := 243) hx hb (by omega) dL_lays_234 (by decide) (fun c_8 => ?_) (fun c_8 => ?_)
      · skip
        refine lv_iload_n hx hb dL_lays_243 rfl (lv_at hl 3 rfl) ?_
        refine lv_bipush (v := nI 6) hx hb dL_lays_244 (by decide) ?_
        refine lv_ishr hx hb dL_lays_246 ?_
        refine lv_sipush (v := nI 300) hx hb dL_lays_247 (by decide) ?_
        refine vp_callSi (W.runS (As := [.int ((g) >>> (nI (6) &&& 31)), .int (nI (300))]) (rest := []) ⟨hx, hb, hml, hown, hts⟩ (l_some l (((g) >>> (nI (6) &&& 31))) (N := 300) (by omega) (by omega)) (va_cwS 2 hts gL_lays_L_some rfl rfl rfl (by decide +kernel) (by decide)) (psN) rfl rfl hl.1 rfl (lv_room (Nat.le_of_ble_eq_true rfl)) dL_lays_250 (by decide)) (fun r_10 hr_10 => ?_)
        obtain ⟨r_10j, br_10, rfl⟩ := hr_10
        exact mg253 (r_10j) (by omega) _ (lv_sub hl [0, 1, 2, 3, 4, 5, 6, 7, 8] rfl)
      · skip
        refine lv_sipush (v := nI 10001) hx hb dL_lays_237 (by decide) ?_
        refine lv_goto (tgt := 253) hx hb dL_lays_240 (by decide) ?_
        exact mg253 (10001) (by omega) _ (lv_sub hl [0, 1, 2, 3, 4, 5, 6, 7, 8] rfl)
    intro li9 hli ls hl
    refine lv_istore (lv' := [(9, .int (nI (li9))), (8, .int (-1)), (0, .ref (ad 0)), (1, .int (nI (1))), (2, .int (g)), (3, .ref (ad 27)), (4, .ref (ad 28)), (5, .ref (ad 29)), (6, .ref (ad 30)), (7, .ref (ad 31))]) hx hb dL_lays_253 hl (by decide) rfl (fun ls hl => ?_)
    suffices mg273 : ∀ (fi9 : Bool), (fi9 = true ↔ (False)) → ∀ ls : Array Slot, lv_has ls 14 [(9, .int (nI (li9))), (8, .int (-1)), (0, .ref (ad 0)), (1, .int (nI (1))), (2, .int (g)), (3, .ref (ad 27)), (4, .ref (ad 28)), (5, .ref (ad 29)), (6, .ref (ad 30)), (7, .ref (ad 31))] → W p l e (rmX 3 10) s m args below meth c s.heap [] (0) (0) Q (F0 m 273 ls [.int (bB (fi9))]) by
      refine lv_iload hx hb dL_lays_255 (lv_at hl 1 rfl) ?_
      refine lv_if_lt (tgt := 272) hx hb dL_lays_257 (by decide) (fun _ => ?_) (fun c_11 => False.elim (by revert c_11; decide))
      refine lv_iconst (v := nI 0) hx hb dL_lays_272 (by decide) ?_
      refine zt_i (y := bB (false)) rfl ?_
      exact mg273 (false) (iff_of_false (by decide) (fun z => z)) _ (lv_sub hl [0, 1, 2, 3, 4, 5, 6, 7, 8, 9] rfl)
    intro fi9 hfi ls hl
    refine lv_istore (lv' := [(10, .int (bB (fi9))), (9, .int (nI (li9))), (8, .int (-1)), (0, .ref (ad 0)), (1, .int (nI (1))), (2, .int (g)), (3, .ref (ad 27)), (4, .ref (ad 28)), (5, .ref (ad 29)), (6, .ref (ad 30)), (7, .ref (ad 31))]) hx hb dL_lays_273 hl (by decide) rfl (fun ls hl => ?_)
    suffices mg289 : (fi9 = true → K 5 0 < 3) → ∀ ls : Array Slot, lv_has ls 14 [(10, .int (bB (fi9))), (9, .int (nI (li9))), (8, .int (-1)), (0, .ref (ad 0)), (1, .int (nI (1))), (2, .int (g)), (3, .ref (ad 27)), (4, .ref (ad 28)), (5, .ref (ad 29)), (6, .ref (ad 30)), (7, .ref (ad 31))] → W p l e (rmX 3 10) s m args below meth c s.heap [] (0) (0) Q (F0 m 289 ls []) by
      refine lv_iload hx hb dL_lays_275 (lv_at hl 0 rfl) ?_
      refine zb_Beq (tgt := 289) hx hb dL_lays_277 (by decide) (fun c_12 => ?_) (fun c_12 => ?_)
      · skip
        exact mg289 (fun h9 => absurd (h9.symm.trans (by assumption : fi9 = false)) (by decide)) _ (lv_sub hl [0, 1, 2, 3, 4, 5, 6, 7, 8, 9, 10] rfl)
      · skip
        refine lv_aload_n hx hb dL_lays_280 rfl (lv_at hl 6 rfl) ?_
        refine lv_iconst (v := nI 1) hx hb dL_lays_281 (by decide) ?_
        refine zi_ld hx hb hK hP 27 (by decide) 0 rfl rfl (by decide) (i := 1) (by omega) (v := nI (K 5 0)) rfl dL_lays_282 ?_
        refine lv_iconst (v := nI 3) hx hb dL_lays_283 (by decide) ?_
        refine zb_ne (tgt := 289) hx hb (by omega) (by omega) dL_lays_284 (by decide) (fun c_13 => ?_) (fun c_13 => ?_)
        · skip
          exact mg289 (fun h9 => by omega) _ (lv_sub hl [0, 1, 2, 3, 4, 5, 6, 7, 8, 9, 10] rfl)
        · skip
          refine lv_iconst (v := nI 1) hx hb dL_lays_287 (by decide) ?_
          exact hret (b := true) (u := (K, ts, pu)) (show 0 ≤ 10 by omega) (show 0 ≤ 60 by omega) ⟨rfl, hI, hT⟩ rfl hS (fun t ht hA => ⟨va_K.moved hA hK, by rw [ht]; exact hP⟩) dL_lays_288
    intro hcu ls hl
    refine lv_iload hx hb dL_lays_289 (lv_at hl 0 rfl) ?_
    refine zb_Beq (tgt := 319) hx hb dL_lays_291 (by decide) (fun c_14 => ?_) (fun c_14 => ?_)
    · skip
      subst c_14
      refine lv_aload_n hx hb dL_lays_319 rfl (lv_at hl 3 rfl) ?_
      refine lv_iload hx hb dL_lays_320 (lv_at hl 2 rfl) ?_
      refine lv_iload hx hb dL_lays_322 (lv_at hl 1 rfl) ?_
      refine zz_i (vx_runSX (As := [.ref (ad 0), .int (-1), .int (nI (li9))]) (rest := []) ⟨hx, hb, hml, hown, hts⟩ (q_watched l hfl hI.inv (by decide) hnd hAd (Nat.le_trans hz0 hS.1) hT (by omega) ((-1)) (nI (li9))) (vx_cwSW 3 hts gL_lays_L_watched rfl rfl rfl (by decide +kernel) (by decide)) (psV hK hP hX (fun a h1 h2 => hS.2.1 a h1 h2)) rfl rfl hl.1 rfl (lv_room (Nat.le_of_ble_eq_true rfl)) dL_lays_324 ⟨show 0 + 3 ≤ 10 by omega, show 0 + 18 ≤ 60 by omega⟩) hS (fun q _ h => h) (fun q h => h) (fun r9 u_15 t9 H locs ht9 hv9 hp9 hB9 hz1 hk1 hS => ?_)
      obtain ⟨e_15, hT⟩ := hp9
      have hP := hB9.2
      rw [ht9] at hP
      clear hB9 ht9 hv9 hz1 hk1
      have hcd_15 : cd2 (rgB ((-1)) (nI 0) (nI 99) && rgB (nI (li9)) (nI 0) (nI 10000)) (decide (K 5 0 < 4)) = 1 := cd2_1 rg2_m
      have eM_15 : moC (cd2 (rgB ((-1)) (nI 0) (nI 99) && rgB (nI (li9)) (nI 0) (nI 10000)) (decide (K 5 0 < 4))) (nx_watch K (clN ((-1))) (clN (nI (li9)))) K = K := moC_n (by rw [hcd_15]; decide)
      rw [eM_15] at hP hT
      have e_15 := e_15.trans (rsc_1 hcd_15)
      subst e_15
      refine lv_iload hx hb dL_lays_327 (lv_at hl 0 rfl) ?_
      refine zb_Beq (tgt := 340) hx hb dL_lays_329 (by decide) (fun _ => ?_) (fun c_16 => False.elim (by revert c_16; decide))
      refine lv_bipush (v := (-101)) hx hb dL_lays_340 (by decide) ?_
      refine lv_icmp_ne (tgt := 349) hx hb dL_lays_342 (by decide) (fun c_17 => False.elim (by revert c_17; decide)) (fun _ => ?_)
      refine lv_iconst (v := nI 1) hx hb dL_lays_345 (by decide) ?_
      refine lv_goto (tgt := 350) hx hb dL_lays_346 (by decide) ?_
      exact hret (b := true) (u := (K, u_15.1, u_15.2)) (show 0 + 3 ≤ 10 by omega) (show 0 + 18 ≤ 60 by omega) ⟨rfl, hI, hT⟩ rfl hS (fun t ht hA => ⟨va_K.moved hA hK, by rw [ht]; exact hP⟩) dL_lays_350
    · skip
      subst c_14
      exact (hfi.mp rfl).elim
  · skip
    refine lv_istore (lv' := [(8, .int (nI (pl9))), (0, .ref (ad 0)), (1, .int (nI (1))), (2, .int (g)), (3, .ref (ad 27)), (4, .ref (ad 28)), (5, .ref (ad 29)), (6, .ref (ad 30)), (7, .ref (ad 31))]) hx hb dL_lays_223 hl (by decide) rfl (fun ls hl => ?_)
    suffices mg253 : ∀ (li9 : Nat), (li9 ≤ 10001) → ∀ ls : Array Slot, lv_has ls 14 [(8, .int (nI (pl9))), (0, .ref (ad 0)), (1, .int (nI (1))), (2, .int (g)), (3, .ref (ad 27)), (4, .ref (ad 28)), (5, .ref (ad 29)), (6, .ref (ad 30)), (7, .ref (ad 31))] → W p l e (rmX 3 10) s m args below meth c s.heap [] (0) (0) Q (F0 m 253 ls [.int (nI (li9))]) by
      refine lv_iload_n hx hb dL_lays_225 rfl (lv_at hl 3 rfl) ?_
      refine lv_bipush (v := nI 6) hx hb dL_lays_226 (by decide) ?_
      refine lv_ishr hx hb dL_lays_228 ?_
      refine lv_bipush (v := nI 40) hx hb dL_lays_229 (by decide) ?_
      refine vp_callSi (W.runS (As := [.int ((g) >>> (nI (6) &&& 31)), .int (nI (40))]) (rest := []) ⟨hx, hb, hml, hown, hts⟩ (l_some l (((g) >>> (nI (6) &&& 31))) (N := 40) (by omega) (by omega)) (va_cwS 2 hts gL_lays_L_some rfl rfl rfl (by decide +kernel) (by decide)) (psN) rfl rfl hl.1 rfl (lv_room (Nat.le_of_ble_eq_true rfl)) dL_lays_231 (by decide)) (fun r_19 hr_19 => ?_)
      obtain ⟨r_19j, br_19, rfl⟩ := hr_19
      refine zb_0ne (tgt := 243) hx hb (by omega) dL_lays_234 (by decide) (fun c_20 => ?_) (fun c_20 => ?_)
      · skip
        refine lv_iload_n hx hb dL_lays_243 rfl (lv_at hl 3 rfl) ?_
        refine lv_bipush (v := nI 6) hx hb dL_lays_244 (by decide) ?_
        refine lv_ishr hx hb dL_lays_246 ?_
        refine lv_sipush (v := nI 300) hx hb dL_lays_247 (by decide) ?_
        refine vp_callSi (W.runS (As := [.int ((g) >>> (nI (6) &&& 31)), .int (nI (300))]) (rest := []) ⟨hx, hb, hml, hown, hts⟩ (l_some l (((g) >>> (nI (6) &&& 31))) (N := 300) (by omega) (by omega)) (va_cwS 2 hts gL_lays_L_some rfl rfl rfl (by decide +kernel) (by decide)) (psN) rfl rfl hl.1 rfl (lv_room (Nat.le_of_ble_eq_true rfl)) dL_lays_250 (by decide)) (fun r_22 hr_22 => ?_)
        obtain ⟨r_22j, br_22, rfl⟩ := hr_22
        exact mg253 (r_22j) (by omega) _ (lv_sub hl [0, 1, 2, 3, 4, 5, 6, 7, 8] rfl)
      · skip
        refine lv_sipush (v := nI 10001) hx hb dL_lays_237 (by decide) ?_
        refine lv_goto (tgt := 253) hx hb dL_lays_240 (by decide) ?_
        exact mg253 (10001) (by omega) _ (lv_sub hl [0, 1, 2, 3, 4, 5, 6, 7, 8] rfl)
    intro li9 hli ls hl
    refine lv_istore (lv' := [(9, .int (nI (li9))), (8, .int (nI (pl9))), (0, .ref (ad 0)), (1, .int (nI (1))), (2, .int (g)), (3, .ref (ad 27)), (4, .ref (ad 28)), (5, .ref (ad 29)), (6, .ref (ad 30)), (7, .ref (ad 31))]) hx hb dL_lays_253 hl (by decide) rfl (fun ls hl => ?_)
    suffices mg273 : ∀ (fi9 : Bool), (fi9 = true ↔ (pl9 < 100 ∧ li9 < 10001)) → ∀ ls : Array Slot, lv_has ls 14 [(9, .int (nI (li9))), (8, .int (nI (pl9))), (0, .ref (ad 0)), (1, .int (nI (1))), (2, .int (g)), (3, .ref (ad 27)), (4, .ref (ad 28)), (5, .ref (ad 29)), (6, .ref (ad 30)), (7, .ref (ad 31))] → W p l e (rmX 3 10) s m args below meth c s.heap [] (0) (0) Q (F0 m 273 ls [.int (bB (fi9))]) by
      refine lv_iload hx hb dL_lays_255 (lv_at hl 1 rfl) ?_
      refine zb_0lt (tgt := 272) hx hb (by omega) dL_lays_257 (by decide) ?_
      refine lv_iload hx hb dL_lays_260 (lv_at hl 0 rfl) ?_
      refine lv_sipush (v := nI 10001) hx hb dL_lays_262 (by decide) ?_
      refine zb_ge (tgt := 272) hx hb (by omega) (by omega) dL_lays_265 (by decide) (fun c_24 => ?_) (fun c_24 => ?_)
      · skip
        refine lv_iconst (v := nI 0) hx hb dL_lays_272 (by decide) ?_
        refine zt_i (y := bB (false)) rfl ?_
        exact mg273 (false) (iff_of_false (by decide) (by omega)) _ (lv_sub hl [0, 1, 2, 3, 4, 5, 6, 7, 8, 9] rfl)
      · skip
        refine lv_iconst (v := nI 1) hx hb dL_lays_268 (by decide) ?_
        refine lv_goto (tgt := 273) hx hb dL_lays_269 (by decide) ?_
        refine zt_i (y := bB (true)) rfl ?_
        exact mg273 (true) (iff_of_true rfl (by omega)) _ (lv_sub hl [0, 1, 2, 3, 4, 5, 6, 7, 8, 9] rfl)
    intro fi9 hfi ls hl
    refine lv_istore (lv' := [(10, .int (bB (fi9))), (9, .int (nI (li9))), (8, .int (nI (pl9))), (0, .ref (ad 0)), (1, .int (nI (1))), (2, .int (g)), (3, .ref (ad 27)), (4, .ref (ad 28)), (5, .ref (ad 29)), (6, .ref (ad 30)), (7, .ref (ad 31))]) hx hb dL_lays_273 hl (by decide) rfl (fun ls hl => ?_)
    suffices mg289 : (fi9 = true → K 5 0 < 3) → ∀ ls : Array Slot, lv_has ls 14 [(10, .int (bB (fi9))), (9, .int (nI (li9))), (8, .int (nI (pl9))), (0, .ref (ad 0)), (1, .int (nI (1))), (2, .int (g)), (3, .ref (ad 27)), (4, .ref (ad 28)), (5, .ref (ad 29)), (6, .ref (ad 30)), (7, .ref (ad 31))] → W p l e (rmX 3 10) s m args below meth c s.heap [] (0) (0) Q (F0 m 289 ls []) by
      refine lv_iload hx hb dL_lays_275 (lv_at hl 0 rfl) ?_
      refine zb_Beq (tgt := 289) hx hb dL_lays_277 (by decide) (fun c_25 => ?_) (fun c_25 => ?_)
      · skip
        exact mg289 (fun h9 => absurd (h9.symm.trans (by assumption : fi9 = false)) (by decide)) _ (lv_sub hl [0, 1, 2, 3, 4, 5, 6, 7, 8, 9, 10] rfl)
      · skip
        refine lv_aload_n hx hb dL_lays_280 rfl (lv_at hl 6 rfl) ?_
        refine lv_iconst (v := nI 1) hx hb dL_lays_281 (by decide) ?_
        refine zi_ld hx hb hK hP 27 (by decide) 0 rfl rfl (by decide) (i := 1) (by omega) (v := nI (K 5 0)) rfl dL_lays_282 ?_
        refine lv_iconst (v := nI 3) hx hb dL_lays_283 (by decide) ?_
        refine zb_ne (tgt := 289) hx hb (by omega) (by omega) dL_lays_284 (by decide) (fun c_26 => ?_) (fun c_26 => ?_)
        · skip
          exact mg289 (fun h9 => by omega) _ (lv_sub hl [0, 1, 2, 3, 4, 5, 6, 7, 8, 9, 10] rfl)
        · skip
          refine lv_iconst (v := nI 1) hx hb dL_lays_287 (by decide) ?_
          exact hret (b := true) (u := (K, ts, pu)) (show 0 ≤ 10 by omega) (show 0 ≤ 60 by omega) ⟨rfl, hI, hT⟩ rfl hS (fun t ht hA => ⟨va_K.moved hA hK, by rw [ht]; exact hP⟩) dL_lays_288
    intro hcu ls hl
    refine lv_iload hx hb dL_lays_289 (lv_at hl 0 rfl) ?_
    refine zb_Beq (tgt := 319) hx hb dL_lays_291 (by decide) (fun c_27 => ?_) (fun c_27 => ?_)
    · skip
      subst c_27
      have hfp : ¬ (pl9 < 100 ∧ li9 < 10001) := fun z => absurd (hfi.mpr z) (by decide)
      refine lv_aload_n hx hb dL_lays_319 rfl (lv_at hl 3 rfl) ?_
      refine lv_iload hx hb dL_lays_320 (lv_at hl 2 rfl) ?_
      refine lv_iload hx hb dL_lays_322 (lv_at hl 1 rfl) ?_
      refine zz_i (vx_runSX (As := [.ref (ad 0), .int (nI (pl9)), .int (nI (li9))]) (rest := []) ⟨hx, hb, hml, hown, hts⟩ (q_watched l hfl hI.inv (by decide) hnd hAd (Nat.le_trans hz0 hS.1) hT (by omega) (nI (pl9)) (nI (li9))) (vx_cwSW 3 hts gL_lays_L_watched rfl rfl rfl (by decide +kernel) (by decide)) (psV hK hP hX (fun a h1 h2 => hS.2.1 a h1 h2)) rfl rfl hl.1 rfl (lv_room (Nat.le_of_ble_eq_true rfl)) dL_lays_324 ⟨show 0 + 3 ≤ 10 by omega, show 0 + 18 ≤ 60 by omega⟩) hS (fun q _ h => h) (fun q h => h) (fun r9 u_28 t9 H locs ht9 hv9 hp9 hB9 hz1 hk1 hS => ?_)
      obtain ⟨e_28, hT⟩ := hp9
      have hP := hB9.2
      rw [ht9] at hP
      clear hB9 ht9 hv9 hz1 hk1
      have hcd_28 : cd2 (rgB (nI (pl9)) (nI 0) (nI 99) && rgB (nI (li9)) (nI 0) (nI 10000)) (decide (K 5 0 < 4)) = 1 := cd2_1 (rg2_f (by omega) (by omega))
      have eM_28 : moC (cd2 (rgB (nI (pl9)) (nI 0) (nI 99) && rgB (nI (li9)) (nI 0) (nI 10000)) (decide (K 5 0 < 4))) (nx_watch K (clN (nI (pl9))) (clN (nI (li9)))) K = K := moC_n (by rw [hcd_28]; decide)
      rw [eM_28] at hP hT
      have e_28 := e_28.trans (rsc_1 hcd_28)
      subst e_28
      refine lv_iload hx hb dL_lays_327 (lv_at hl 0 rfl) ?_
      refine zb_Beq (tgt := 340) hx hb dL_lays_329 (by decide) (fun _ => ?_) (fun c_29 => False.elim (by revert c_29; decide))
      refine lv_bipush (v := (-101)) hx hb dL_lays_340 (by decide) ?_
      refine lv_icmp_ne (tgt := 349) hx hb dL_lays_342 (by decide) (fun c_30 => False.elim (by revert c_30; decide)) (fun _ => ?_)
      refine lv_iconst (v := nI 1) hx hb dL_lays_345 (by decide) ?_
      refine lv_goto (tgt := 350) hx hb dL_lays_346 (by decide) ?_
      exact hret (b := true) (u := (K, u_28.1, u_28.2)) (show 0 + 3 ≤ 10 by omega) (show 0 + 18 ≤ 60 by omega) ⟨rfl, hI, hT⟩ rfl hS (fun t ht hA => ⟨va_K.moved hA hK, by rw [ht]; exact hP⟩) dL_lays_350
    · skip
      subst c_27
      have hfp := hfi.mp rfl
      have hc5 := hcu rfl
      refine lv_aload hx hb dL_lays_294 (lv_at hl 8 rfl) ?_
      refine lv_aload_n hx hb dL_lays_296 rfl (lv_at hl 6 rfl) ?_
      refine lv_iconst (v := nI 1) hx hb dL_lays_297 (by decide) ?_
      refine zi_ld hx hb hK hP 27 (by decide) 0 rfl rfl (by decide) (i := 1) (by omega) (v := nI (K 5 0)) rfl dL_lays_298 ?_
      refine lv_iload hx hb dL_lays_299 (lv_at hl 2 rfl) ?_
      refine zi_st hx hb hK hP hnd hAd hS 29 (by decide) 0 rfl rfl (by decide) (i := K 5 0) (by omega) (wxE ad cI cJ cQ (K) (ts) (pu) (mup K (6) (K 5 0) (pl9)) (X)) (wlS_v1 (by omega)) dL_lays_301 (fun H locs hP hS => ?_)
      refine lv_aload hx hb dL_lays_302 (lv_at hl 8 rfl) ?_
      refine lv_iconst (v := nI 3) hx hb dL_lays_304 (by decide) ?_
      refine lv_aload_n hx hb dL_lays_305 rfl (lv_at hl 6 rfl) ?_
      refine lv_iconst (v := nI 1) hx hb dL_lays_306 (by decide) ?_
      refine zi_ld hx hb hK hP 27 (by decide) 0 rfl rfl (by decide) (i := 1) (by omega) (v := nI ((mup K (6) (K 5 0) (pl9)) 5 0)) rfl dL_lays_307 ?_
      refine zt_i (y := nI (K 5 0)) (congrArg nI (by simp [mup])) ?_
      refine zr_iadd hx hb dL_lays_308 ?_
      refine lv_iload hx hb dL_lays_309 (lv_at hl 1 rfl) ?_
      refine zi_st hx hb hK hP hnd hAd hS 29 (by decide) 0 rfl rfl (by decide) (i := 3 + (K 5 0)) (by omega) (wxE ad cI cJ cQ (K) (ts) (pu) (mup (mup K (6) (K 5 0) (pl9)) (7) (K 5 0) (li9)) (X)) (wlS_v2 (by omega)) dL_lays_311 (fun H locs hP hS => ?_)
      refine lv_aload_n hx hb dL_lays_312 rfl (lv_at hl 6 rfl) ?_
      refine lv_iconst (v := nI 1) hx hb dL_lays_313 (by decide) ?_
      refine lv_dup2_11 hx hb dL_lays_314 rfl rfl ?_
      refine zi_ld hx hb hK hP 27 (by decide) 0 rfl rfl (by decide) (i := 1) (by omega) (v := nI ((mup (mup K (6) (K 5 0) (pl9)) (7) (K 5 0) (li9)) 5 0)) rfl dL_lays_315 ?_
      refine zt_i (y := nI (K 5 0)) (congrArg nI (by simp [mup])) ?_
      refine lv_iconst (v := nI 1) hx hb dL_lays_316 (by decide) ?_
      refine zr_iadd hx hb dL_lays_317 ?_
      refine zi_st hx hb hK hP hnd hAd hS 27 (by decide) 0 rfl rfl (by decide) (i := 1) (by omega) (wxE ad cI cJ cQ (K) (ts) (pu) (mup (mup (mup K (6) (K 5 0) (pl9)) (7) (K 5 0) (li9)) (5) (0) ((K 5 0) + (1))) (X)) wlS_c1 dL_lays_318 (fun H locs hP hS => ?_)
      refine lv_aload_n hx hb dL_lays_319 rfl (lv_at hl 3 rfl) ?_
      refine lv_iload hx hb dL_lays_320 (lv_at hl 2 rfl) ?_
      refine lv_iload hx hb dL_lays_322 (lv_at hl 1 rfl) ?_
      refine zz_i (vx_runSX (As := [.ref (ad 0), .int (nI (pl9)), .int (nI (li9))]) (rest := []) ⟨hx, hb, hml, hown, hts⟩ (q_watched l hfl hI.inv (by decide) hnd hAd (Nat.le_trans hz0 hS.1) hT (by omega) (nI (pl9)) (nI (li9))) (vx_cwSW 3 hts gL_lays_L_watched rfl rfl rfl (by decide +kernel) (by decide)) (psV hK hP hX (fun a h1 h2 => hS.2.1 a h1 h2)) rfl rfl hl.1 rfl (lv_room (Nat.le_of_ble_eq_true rfl)) dL_lays_324 ⟨show 0 + 3 ≤ 10 by omega, show 0 + 18 ≤ 60 by omega⟩) hS (fun q _ h => h) (fun q h => h) (fun r9 u_31 t9 H locs ht9 hv9 hp9 hB9 hz1 hk1 hS => ?_)
      obtain ⟨e_31, hT⟩ := hp9
      have hP := hB9.2
      rw [ht9] at hP
      clear hB9 ht9 hv9 hz1 hk1
      have hcd_31 : cd2 (rgB (nI (pl9)) (nI 0) (nI 99) && rgB (nI (li9)) (nI 0) (nI 10000)) (decide (K 5 0 < 4)) = 0 := cd2_0 (rg2_t (by omega) (by omega)) (decide_eq_true (by omega))
      have eM_31 : moC (cd2 (rgB (nI (pl9)) (nI 0) (nI 99) && rgB (nI (li9)) (nI 0) (nI 10000)) (decide (K 5 0 < 4))) (nx_watch K (clN (nI (pl9))) (clN (nI (li9)))) K = nx_watch K ((pl9)) ((li9)) := (moC_z hcd_31).trans (by first | rfl | simp only [clN_nI (show pl9 < 2 ^ 31 by omega), clN_nI (show li9 < 2 ^ 31 by omega)])
      rw [eM_31] at hP hT
      have e_31 := e_31.trans ((rsc_0 hcd_31).trans (show nI (K 5 0) = nI (K 5 0) by first | rfl | simp only [clN_nI (show pl9 < 2 ^ 31 by omega), clN_nI (show li9 < 2 ^ 31 by omega)]))
      subst e_31
      refine lv_iload hx hb dL_lays_327 (lv_at hl 0 rfl) ?_
      refine zb_Beq (tgt := 340) hx hb dL_lays_329 (by decide) (fun c_32 => False.elim (by revert c_32; decide)) (fun _ => ?_)
      refine lv_aload_n hx hb dL_lays_332 rfl (lv_at hl 6 rfl) ?_
      refine lv_iconst (v := nI 1) hx hb dL_lays_333 (by decide) ?_
      refine zi_ld hx hb hK hP 27 (by decide) 0 rfl rfl (by decide) (i := 1) (by omega) (v := nI ((mup (mup (mup K (6) (K 5 0) (pl9)) (7) (K 5 0) (li9)) (5) (0) ((K 5 0) + (1))) 5 0)) rfl dL_lays_334 ?_
      refine zt_i (y := nI ((K 5 0) + (1))) (congrArg nI (by simp [mup])) ?_
      refine lv_iconst (v := nI 1) hx hb dL_lays_335 (by decide) ?_
      refine zr_isub hx hb (by omega) dL_lays_336 ?_
      refine lv_goto (tgt := 342) hx hb dL_lays_337 (by decide) ?_
      refine zb_ne (tgt := 349) hx hb (by omega) (by omega) dL_lays_342 (by decide) (fun c_33 => ?_) (fun c_33 => ?_)
      · skip
        exact False.elim (by omega)
      · skip
        refine lv_iconst (v := nI 1) hx hb dL_lays_345 (by decide) ?_
        refine lv_goto (tgt := 350) hx hb dL_lays_346 (by decide) ?_
        exact hret (b := true) (u := (nx_watch K ((pl9)) ((li9)), u_31.1, u_31.2)) (show 0 + 3 ≤ 10 by omega) (show 0 + 18 ≤ 60 by omega) ⟨rfl, (inl_watch hI (by omega) (by omega) (by omega)), hT⟩ rfl hS (fun t ht hA => ⟨va_K.moved hA hK, by rw [ht]; exact hP⟩) dL_lays_350
set_option maxHeartbeats 4000000 in
set_option maxRecDepth 100000 in
/-- a ratio is told -/
theorem l_lays2 (l : Launch) (hfl : l.stackTraces = false) {D : va_G} {ad : Nat → Nat} {cI cJ cQ : ClassId} {K : Mdl} {ts : Nat → Nat} {pu : Nat → Int64} {X : Nat → va_E} {sa : Nat → Nat} {sz z0 : Nat} (hI : Inl K) (hnd : ndz 37 ad) (hAd : ∀ i, i < 37 → zA z0 (ad i)) (hz0 : z0 ≤ sz) (hT : hTs K ts) (g : Int32)  : Met l yL_lays wsL_lays (rmX 3 10) (va_Pc [.ref (ad 0), .int (nI (2)), .int (g), .ref (ad 27), .ref (ad 28), .ref (ad 29), .ref (ad 30), .ref (ad 31)] (KV D 37 ad cI cJ cQ (wxE ad cI cJ cQ K ts pu K X) sa (zA z0) sz)) (va_Qi (fun r_ (u_ : Mdl × (Nat → Nat) × (Nat → Int64)) => ∃ b : Bool, r_ = bB b ∧ (b = true ∧ Inl u_.1 ∧ hTs u_.1 u_.2.1)) (fun (u_ : Mdl × (Nat → Nat) × (Nat → Int64)) t_ => KA D 37 ad cI cJ cQ (wxE ad cI cJ cQ u_.1 u_.2.1 u_.2.2 u_.1 X) t_) (zA z0)) 10 60 (zA z0) := by
  refine mkW_Qz (S := Mdl × (Nat → Nat) × (Nat → Int64)) (post := fun b (u_ : Mdl × (Nat → Nat) × (Nat → Int64)) => b = true ∧ Inl u_.1 ∧ hTs u_.1 u_.2.1) (BQ := fun (u_ : Mdl × (Nat → Nat) × (Nat → Int64)) t_ => KA D 37 ad cI cJ cQ (wxE ad cI cJ cQ u_.1 u_.2.1 u_.2.2 u_.1 X) t_) (cc := cL_lays) (maxL := 14) (by decide) rfl (Nat.le_of_ble_eq_true rfl) ?_
  intro p e s m args below meth c Q C0 B0 hret ls hl
  obtain ⟨hx, hb, hr, hml, hown, hts, hlocks⟩ := C0
  have hown : s.vm.findClass RL = some m.cls := hown
  obtain ⟨hsz, hX, hK, hP⟩ := B0
  subst hsz
  have b_nw := hI.nw
  have b_nv := hI.nv
  have hS : va_S (zA z0) s.heap s.heap [] := va_S.rf
  have hl : lv_has ls 14 [(0, .ref (ad 0)), (1, .int (nI (2))), (2, .int (g)), (3, .ref (ad 27)), (4, .ref (ad 28)), (5, .ref (ad 29)), (6, .ref (ad 30)), (7, .ref (ad 31))] := hl
  refine lv_iload_n hx hb dL_lays_0 rfl (lv_at hl 1 rfl) ?_
  refine lv_if_ne (tgt := 199) hx hb dL_lays_1 (by decide) (fun _ => ?_) (fun c_1 => False.elim (by revert c_1; decide))
  refine lv_iload_n hx hb dL_lays_199 rfl (lv_at hl 1 rfl) ?_
  refine lv_iconst (v := nI 1) hx hb dL_lays_200 (by decide) ?_
  refine lv_icmp_ne (tgt := 351) hx hb dL_lays_201 (by decide) (fun _ => ?_) (fun c_2 => False.elim (by revert c_2; decide))
  refine lv_iload_n hx hb dL_lays_351 rfl (lv_at hl 1 rfl) ?_
  refine lv_iconst (v := nI 2) hx hb dL_lays_352 (by decide) ?_
  refine lv_icmp_ne (tgt := 528) hx hb dL_lays_353 (by decide) (fun c_3 => False.elim (by revert c_3; decide)) (fun _ => ?_)
  suffices mg374 : ∀ (fr9 : Nat), (fr9 ≤ 3) → ∀ ls : Array Slot, lv_has ls 14 [(0, .ref (ad 0)), (1, .int (nI (2))), (2, .int (g)), (3, .ref (ad 27)), (4, .ref (ad 28)), (5, .ref (ad 29)), (6, .ref (ad 30)), (7, .ref (ad 31))] → W p l e (rmX 3 10) s m args below meth c s.heap [] (0) (0) Q (F0 m 374 ls [.int (nI (fr9))]) by
    refine lv_iload_n hx hb dL_lays_356 rfl (lv_at hl 2 rfl) ?_
    refine lv_bipush (v := nI 30) hx hb dL_lays_357 (by decide) ?_
    refine vp_callSi (W.runS (As := [.int (g), .int (nI (30))]) (rest := []) ⟨hx, hb, hml, hown, hts⟩ (l_some l ((g)) (N := 30) (by omega) (by omega)) (va_cwS 2 hts gL_lays_L_some rfl rfl rfl (by decide +kernel) (by decide)) (psN) rfl rfl hl.1 rfl (lv_room (Nat.le_of_ble_eq_true rfl)) dL_lays_359 (by decide)) (fun r_4 hr_4 => ?_)
    obtain ⟨r_4j, br_4, rfl⟩ := hr_4
    refine zb_0ne (tgt := 369) hx hb (by omega) dL_lays_362 (by decide) (fun c_5 => ?_) (fun c_5 => ?_)
    · skip
      refine lv_iload_n hx hb dL_lays_369 rfl (lv_at hl 2 rfl) ?_
      refine lv_iconst (v := nI 3) hx hb dL_lays_370 (by decide) ?_
      refine vp_callSi (W.runS (As := [.int (g), .int (nI (3))]) (rest := []) ⟨hx, hb, hml, hown, hts⟩ (l_some l ((g)) (N := 3) (by omega) (by omega)) (va_cwS 2 hts gL_lays_L_some rfl rfl rfl (by decide +kernel) (by decide)) (psN) rfl rfl hl.1 rfl (lv_room (Nat.le_of_ble_eq_true rfl)) dL_lays_371 (by decide)) (fun r_6 hr_6 => ?_)
      obtain ⟨r_6j, br_6, rfl⟩ := hr_6
      exact mg374 (r_6j) (by omega) _ (lv_sub hl [0, 1, 2, 3, 4, 5, 6, 7] rfl)
    · skip
      refine lv_iconst (v := nI 3) hx hb dL_lays_365 (by decide) ?_
      refine lv_goto (tgt := 374) hx hb dL_lays_366 (by decide) ?_
      exact mg374 (3) (by omega) _ (lv_sub hl [0, 1, 2, 3, 4, 5, 6, 7] rfl)
  intro fr9 hfr ls hl
  refine lv_istore (lv' := [(8, .int (nI (fr9))), (0, .ref (ad 0)), (1, .int (nI (2))), (2, .int (g)), (3, .ref (ad 27)), (4, .ref (ad 28)), (5, .ref (ad 29)), (6, .ref (ad 30)), (7, .ref (ad 31))]) hx hb dL_lays_374 hl (by decide) rfl (fun ls hl => ?_)
  suffices mg383 : ∀ (to9 : Nat), (to9 ≤ 2) → ∀ ls : Array Slot, lv_has ls 14 [(8, .int (nI (fr9))), (0, .ref (ad 0)), (1, .int (nI (2))), (2, .int (g)), (3, .ref (ad 27)), (4, .ref (ad 28)), (5, .ref (ad 29)), (6, .ref (ad 30)), (7, .ref (ad 31))] → W p l e (rmX 3 10) s m args below meth c s.heap [] (0) (0) Q (F0 m 383 ls [.int (nI (to9))]) by
    refine lv_iload_n hx hb dL_lays_376 rfl (lv_at hl 3 rfl) ?_
    refine lv_iconst (v := nI 3) hx hb dL_lays_377 (by decide) ?_
    refine lv_ishr hx hb dL_lays_378 ?_
    refine lv_iconst (v := nI 3) hx hb dL_lays_379 (by decide) ?_
    refine vp_callSi (W.runS (As := [.int ((g) >>> (nI (3) &&& 31)), .int (nI (3))]) (rest := []) ⟨hx, hb, hml, hown, hts⟩ (l_some l (((g) >>> (nI (3) &&& 31))) (N := 3) (by omega) (by omega)) (va_cwS 2 hts gL_lays_L_some rfl rfl rfl (by decide +kernel) (by decide)) (psN) rfl rfl hl.1 rfl (lv_room (Nat.le_of_ble_eq_true rfl)) dL_lays_380 (by decide)) (fun r_8 hr_8 => ?_)
    obtain ⟨r_8j, br_8, rfl⟩ := hr_8
    exact mg383 (r_8j) (by omega) _ (lv_sub hl [0, 1, 2, 3, 4, 5, 6, 7, 8] rfl)
  intro to9 hto ls hl
  refine lv_istore (lv' := [(9, .int (nI (to9))), (8, .int (nI (fr9))), (0, .ref (ad 0)), (1, .int (nI (2))), (2, .int (g)), (3, .ref (ad 27)), (4, .ref (ad 28)), (5, .ref (ad 29)), (6, .ref (ad 30)), (7, .ref (ad 31))]) hx hb dL_lays_383 hl (by decide) rfl (fun ls hl => ?_)
  suffices mg413 : ∀ (ra9 : Nat), (ra9 ≤ 201) → ∀ ls : Array Slot, lv_has ls 14 [(9, .int (nI (to9))), (8, .int (nI (fr9))), (0, .ref (ad 0)), (1, .int (nI (2))), (2, .int (g)), (3, .ref (ad 27)), (4, .ref (ad 28)), (5, .ref (ad 29)), (6, .ref (ad 30)), (7, .ref (ad 31))] → W p l e (rmX 3 10) s m args below meth c s.heap [] (0) (0) Q (F0 m 413 ls [.int (nI (ra9))]) by
    refine lv_iload_n hx hb dL_lays_385 rfl (lv_at hl 4 rfl) ?_
    refine lv_bipush (v := nI 6) hx hb dL_lays_386 (by decide) ?_
    refine lv_ishr hx hb dL_lays_388 ?_
    refine lv_bipush (v := nI 30) hx hb dL_lays_389 (by decide) ?_
    refine vp_callSi (W.runS (As := [.int ((g) >>> (nI (6) &&& 31)), .int (nI (30))]) (rest := []) ⟨hx, hb, hml, hown, hts⟩ (l_some l (((g) >>> (nI (6) &&& 31))) (N := 30) (by omega) (by omega)) (va_cwS 2 hts gL_lays_L_some rfl rfl rfl (by decide +kernel) (by decide)) (psN) rfl rfl hl.1 rfl (lv_room (Nat.le_of_ble_eq_true rfl)) dL_lays_391 (by decide)) (fun r_10 hr_10 => ?_)
    obtain ⟨r_10j, br_10, rfl⟩ := hr_10
    refine zb_0ne (tgt := 403) hx hb (by omega) dL_lays_394 (by decide) (fun c_11 => ?_) (fun c_11 => ?_)
    · skip
      refine lv_iload_n hx hb dL_lays_403 rfl (lv_at hl 4 rfl) ?_
      refine lv_bipush (v := nI 6) hx hb dL_lays_404 (by decide) ?_
      refine lv_ishr hx hb dL_lays_406 ?_
      refine lv_sipush (v := nI 151) hx hb dL_lays_407 (by decide) ?_
      refine vp_callSi (W.runS (As := [.int ((g) >>> (nI (6) &&& 31)), .int (nI (151))]) (rest := []) ⟨hx, hb, hml, hown, hts⟩ (l_some l (((g) >>> (nI (6) &&& 31))) (N := 151) (by omega) (by omega)) (va_cwS 2 hts gL_lays_L_some rfl rfl rfl (by decide +kernel) (by decide)) (psN) rfl rfl hl.1 rfl (lv_room (Nat.le_of_ble_eq_true rfl)) dL_lays_410 (by decide)) (fun r_13 hr_13 => ?_)
      obtain ⟨r_13j, br_13, rfl⟩ := hr_13
      exact mg413 (r_13j) (by omega) _ (lv_sub hl [0, 1, 2, 3, 4, 5, 6, 7, 8, 9] rfl)
    · skip
      refine lv_sipush (v := nI 201) hx hb dL_lays_397 (by decide) ?_
      refine lv_goto (tgt := 413) hx hb dL_lays_400 (by decide) ?_
      exact mg413 (201) (by omega) _ (lv_sub hl [0, 1, 2, 3, 4, 5, 6, 7, 8, 9] rfl)
  intro ra9 hra ls hl
  refine lv_istore (lv' := [(10, .int (nI (ra9))), (9, .int (nI (to9))), (8, .int (nI (fr9))), (0, .ref (ad 0)), (1, .int (nI (2))), (2, .int (g)), (3, .ref (ad 27)), (4, .ref (ad 28)), (5, .ref (ad 29)), (6, .ref (ad 30)), (7, .ref (ad 31))]) hx hb dL_lays_413 hl (by decide) rfl (fun ls hl => ?_)
  suffices mg426 : ∀ (is9 : Bool), (is9 = true ↔ (fr9 < 3)) → ∀ ls : Array Slot, lv_has ls 14 [(10, .int (nI (ra9))), (9, .int (nI (to9))), (8, .int (nI (fr9))), (0, .ref (ad 0)), (1, .int (nI (2))), (2, .int (g)), (3, .ref (ad 27)), (4, .ref (ad 28)), (5, .ref (ad 29)), (6, .ref (ad 30)), (7, .ref (ad 31))] → W p l e (rmX 3 10) s m args below meth c s.heap [] (0) (0) Q (F0 m 426 ls [.int (bB (is9))]) by
    refine lv_iload hx hb dL_lays_415 (lv_at hl 2 rfl) ?_
    refine lv_iconst (v := nI 3) hx hb dL_lays_417 (by decide) ?_
    refine zb_ge (tgt := 425) hx hb (by omega) (by omega) dL_lays_418 (by decide) (fun c_14 => ?_) (fun c_14 => ?_)
    · skip
      refine lv_iconst (v := nI 0) hx hb dL_lays_425 (by decide) ?_
      refine zt_i (y := bB (false)) rfl ?_
      exact mg426 (false) (iff_of_false (by decide) (by omega)) _ (lv_sub hl [0, 1, 2, 3, 4, 5, 6, 7, 8, 9, 10] rfl)
    · skip
      refine lv_iconst (v := nI 1) hx hb dL_lays_421 (by decide) ?_
      refine lv_goto (tgt := 426) hx hb dL_lays_422 (by decide) ?_
      refine zt_i (y := bB (true)) rfl ?_
      exact mg426 (true) (iff_of_true rfl (by omega)) _ (lv_sub hl [0, 1, 2, 3, 4, 5, 6, 7, 8, 9, 10] rfl)
  intro is9 his ls hl
  refine lv_istore (lv' := [(11, .int (bB (is9))), (10, .int (nI (ra9))), (9, .int (nI (to9))), (8, .int (nI (fr9))), (0, .ref (ad 0)), (1, .int (nI (2))), (2, .int (g)), (3, .ref (ad 27)), (4, .ref (ad 28)), (5, .ref (ad 29)), (6, .ref (ad 30)), (7, .ref (ad 31))]) hx hb dL_lays_426 hl (by decide) rfl (fun ls hl => ?_)
  suffices mg441 : ∀ (fi9 : Bool), (fi9 = true ↔ (ra9 < 201)) → ∀ ls : Array Slot, lv_has ls 14 [(11, .int (bB (is9))), (10, .int (nI (ra9))), (9, .int (nI (to9))), (8, .int (nI (fr9))), (0, .ref (ad 0)), (1, .int (nI (2))), (2, .int (g)), (3, .ref (ad 27)), (4, .ref (ad 28)), (5, .ref (ad 29)), (6, .ref (ad 30)), (7, .ref (ad 31))] → W p l e (rmX 3 10) s m args below meth c s.heap [] (0) (0) Q (F0 m 441 ls [.int (bB (fi9))]) by
    refine lv_iload hx hb dL_lays_428 (lv_at hl 1 rfl) ?_
    refine lv_sipush (v := nI 201) hx hb dL_lays_430 (by decide) ?_
    refine zb_ge (tgt := 440) hx hb (by omega) (by omega) dL_lays_433 (by decide) (fun c_15 => ?_) (fun c_15 => ?_)
    · skip
      refine lv_iconst (v := nI 0) hx hb dL_lays_440 (by decide) ?_
      refine zt_i (y := bB (false)) rfl ?_
      exact mg441 (false) (iff_of_false (by decide) (by omega)) _ (lv_sub hl [0, 1, 2, 3, 4, 5, 6, 7, 8, 9, 10, 11] rfl)
    · skip
      refine lv_iconst (v := nI 1) hx hb dL_lays_436 (by decide) ?_
      refine lv_goto (tgt := 441) hx hb dL_lays_437 (by decide) ?_
      refine zt_i (y := bB (true)) rfl ?_
      exact mg441 (true) (iff_of_true rfl (by omega)) _ (lv_sub hl [0, 1, 2, 3, 4, 5, 6, 7, 8, 9, 10, 11] rfl)
  intro fi9 hfi ls hl
  refine lv_istore (lv' := [(12, .int (bB (fi9))), (11, .int (bB (is9))), (10, .int (nI (ra9))), (9, .int (nI (to9))), (8, .int (nI (fr9))), (0, .ref (ad 0)), (1, .int (nI (2))), (2, .int (g)), (3, .ref (ad 27)), (4, .ref (ad 28)), (5, .ref (ad 29)), (6, .ref (ad 30)), (7, .ref (ad 31))]) hx hb dL_lays_441 hl (by decide) rfl (fun ls hl => ?_)
  suffices mg462 : ∀ (bf9 : Nat), (is9 = true → bf9 = K (12 + 3 * (fr9)) (to9)) → ∀ ls : Array Slot, lv_has ls 14 [(12, .int (bB (fi9))), (11, .int (bB (is9))), (10, .int (nI (ra9))), (9, .int (nI (to9))), (8, .int (nI (fr9))), (0, .ref (ad 0)), (1, .int (nI (2))), (2, .int (g)), (3, .ref (ad 27)), (4, .ref (ad 28)), (5, .ref (ad 29)), (6, .ref (ad 30)), (7, .ref (ad 31))] → W p l e (rmX 3 10) s m args below meth c s.heap [] (0) (0) Q (F0 m 462 ls [.int (nI (bf9))]) by
    refine lv_iload hx hb dL_lays_443 (lv_at hl 1 rfl) ?_
    refine zb_Beq (tgt := 461) hx hb dL_lays_445 (by decide) (fun c_16 => ?_) (fun c_16 => ?_)
    · skip
      refine lv_iconst (v := nI 0) hx hb dL_lays_461 (by decide) ?_
      exact mg462 (0) (fun h9 => absurd (h9.symm.trans (by assumption : is9 = false)) (by decide)) _ (lv_sub hl [0, 1, 2, 3, 4, 5, 6, 7, 8, 9, 10, 11, 12] rfl)
    · skip
      have hi3 := his.mp c_16
      refine lv_aload hx hb dL_lays_448 (lv_at hl 12 rfl) ?_
      refine lv_iconst (v := nI 3) hx hb dL_lays_450 (by decide) ?_
      refine lv_iload hx hb dL_lays_451 (lv_at hl 4 rfl) ?_
      refine zr_imul hx hb dL_lays_453 ?_
      refine lv_iload hx hb dL_lays_454 (lv_at hl 3 rfl) ?_
      refine zr_iadd hx hb dL_lays_456 ?_
      have f_17 := hI.inv.ra (fr9) (by omega) (to9)
      refine zi_ld hx hb hK hP 31 (by decide) 0 rfl rfl (by decide) (i := ((3) * (fr9)) + (to9)) (by omega) (v := nI (K (12 + 3 * (fr9)) (to9))) (fr_1 (by omega)) dL_lays_457 ?_
      refine lv_goto (tgt := 462) hx hb dL_lays_458 (by decide) ?_
      exact mg462 (K (12 + 3 * (fr9)) (to9)) (fun _ => rfl) _ (lv_sub hl [0, 1, 2, 3, 4, 5, 6, 7, 8, 9, 10, 11, 12] rfl)
  intro bf9 hbf ls hl
  refine lv_istore (lv' := [(13, .int (nI (bf9))), (12, .int (bB (fi9))), (11, .int (bB (is9))), (10, .int (nI (ra9))), (9, .int (nI (to9))), (8, .int (nI (fr9))), (0, .ref (ad 0)), (1, .int (nI (2))), (2, .int (g)), (3, .ref (ad 27)), (4, .ref (ad 28)), (5, .ref (ad 29)), (6, .ref (ad 30)), (7, .ref (ad 31))]) hx hb dL_lays_462 hl (by decide) rfl (fun ls hl => ?_)
  refine lv_iload hx hb dL_lays_464 (lv_at hl 2 rfl) ?_
  refine zb_Beq (tgt := 486) hx hb dL_lays_466 (by decide) (fun c_18 => ?_) (fun c_18 => ?_)
  · skip
    subst c_18
    have hip : ¬ (fr9 < 3) := fun z => absurd (his.mpr z) (by decide)
    refine lv_aload_n hx hb dL_lays_486 rfl (lv_at hl 6 rfl) ?_
    refine lv_iconst (v := nI 3) hx hb dL_lays_487 (by decide) ?_
    refine lv_iload hx hb dL_lays_488 (lv_at hl 5 rfl) ?_
    refine lv_iload hx hb dL_lays_490 (lv_at hl 4 rfl) ?_
    refine lv_iload hx hb dL_lays_492 (lv_at hl 3 rfl) ?_
    refine zz_i (vx_runSX (As := [.ref (ad 0), .int (nI (3)), .int (nI (fr9)), .int (nI (to9)), .int (nI (ra9))]) (rest := []) ⟨hx, hb, hml, hown, hts⟩ (q_set3 l hfl hI.inv (by decide) hnd hAd (Nat.le_trans hz0 hS.1) hT  (nI (fr9)) (nI (to9)) (nI (ra9))) (vx_cwSW 5 hts gL_lays_L_set rfl rfl rfl (by decide +kernel) (by decide)) (psV hK hP hX (fun a h1 h2 => hS.2.1 a h1 h2)) rfl rfl hl.1 rfl (lv_room (Nat.le_of_ble_eq_true rfl)) dL_lays_494 ⟨show 0 + 3 ≤ 10 by omega, show 0 + 18 ≤ 60 by omega⟩) hS (fun q _ h => h) (fun q h => h) (fun r9 u_19 t9 H locs ht9 hv9 hp9 hB9 hz1 hk1 hS => ?_)
    obtain ⟨e_19, hT⟩ := hp9
    have hP := hB9.2
    rw [ht9] at hP
    clear hB9 ht9 hv9 hz1 hk1
    have hcd_19 : cd2 (ixB (nI (fr9)) 3 && ixB (nI (to9)) 3) (rgB (nI (ra9)) (nI 0) (nI 200)) = 1 := cd2_1 (ix2_f (by omega) (by omega) (by omega) (by decide) (by decide))
    have eM_19 : moC (cd2 (ixB (nI (fr9)) 3 && ixB (nI (to9)) 3) (rgB (nI (ra9)) (nI 0) (nI 200))) (nx_ratio K (clN (nI (fr9))) (clN (nI (to9))) (clN (nI (ra9)))) K = K := moC_n (by rw [hcd_19]; decide)
    rw [eM_19] at hP hT
    have e_19 := e_19.trans (rsc_1 hcd_19)
    subst e_19
    refine lv_iload hx hb dL_lays_497 (lv_at hl 2 rfl) ?_
    refine zb_Bne (tgt := 507) hx hb dL_lays_499 (by decide) (fun c_20 => False.elim (by revert c_20; decide)) (fun _ => ?_)
    refine lv_bipush (v := (-101)) hx hb dL_lays_502 (by decide) ?_
    refine lv_goto (tgt := 519) hx hb dL_lays_504 (by decide) ?_
    refine lv_icmp_ne (tgt := 526) hx hb dL_lays_519 (by decide) (fun c_21 => False.elim (by revert c_21; decide)) (fun _ => ?_)
    refine lv_iconst (v := nI 1) hx hb dL_lays_522 (by decide) ?_
    refine lv_goto (tgt := 527) hx hb dL_lays_523 (by decide) ?_
    exact hret (b := true) (u := (K, u_19.1, u_19.2)) (show 0 + 3 ≤ 10 by omega) (show 0 + 18 ≤ 60 by omega) ⟨rfl, hI, hT⟩ rfl hS (fun t ht hA => ⟨va_K.moved hA hK, by rw [ht]; exact hP⟩) dL_lays_527
  · skip
    subst c_18
    have hip := his.mp rfl
    have fbv := hI.inv.ra fr9 (by omega) to9
    have ebf := hbf rfl
    subst ebf
    refine lv_iload hx hb dL_lays_469 (lv_at hl 1 rfl) ?_
    refine zb_Beq (tgt := 486) hx hb dL_lays_471 (by decide) (fun c_22 => ?_) (fun c_22 => ?_)
    · skip
      subst c_22
      have hfp : ¬ (ra9 < 201) := fun z => absurd (hfi.mpr z) (by decide)
      refine lv_aload_n hx hb dL_lays_486 rfl (lv_at hl 6 rfl) ?_
      refine lv_iconst (v := nI 3) hx hb dL_lays_487 (by decide) ?_
      refine lv_iload hx hb dL_lays_488 (lv_at hl 5 rfl) ?_
      refine lv_iload hx hb dL_lays_490 (lv_at hl 4 rfl) ?_
      refine lv_iload hx hb dL_lays_492 (lv_at hl 3 rfl) ?_
      refine zz_i (vx_runSX (As := [.ref (ad 0), .int (nI (3)), .int (nI (fr9)), .int (nI (to9)), .int (nI (ra9))]) (rest := []) ⟨hx, hb, hml, hown, hts⟩ (q_set3 l hfl hI.inv (by decide) hnd hAd (Nat.le_trans hz0 hS.1) hT  (nI (fr9)) (nI (to9)) (nI (ra9))) (vx_cwSW 5 hts gL_lays_L_set rfl rfl rfl (by decide +kernel) (by decide)) (psV hK hP hX (fun a h1 h2 => hS.2.1 a h1 h2)) rfl rfl hl.1 rfl (lv_room (Nat.le_of_ble_eq_true rfl)) dL_lays_494 ⟨show 0 + 3 ≤ 10 by omega, show 0 + 18 ≤ 60 by omega⟩) hS (fun q _ h => h) (fun q h => h) (fun r9 u_23 t9 H locs ht9 hv9 hp9 hB9 hz1 hk1 hS => ?_)
      obtain ⟨e_23, hT⟩ := hp9
      have hP := hB9.2
      rw [ht9] at hP
      clear hB9 ht9 hv9 hz1 hk1
      have hcd_23 : cd2 (ixB (nI (fr9)) 3 && ixB (nI (to9)) 3) (rgB (nI (ra9)) (nI 0) (nI 200)) = 2 := cd2_2 (ix2_t (by omega) (by omega) (by decide) (by decide)) (rg_f (by omega) (by omega) (by decide) (by decide))
      have eM_23 : moC (cd2 (ixB (nI (fr9)) 3 && ixB (nI (to9)) 3) (rgB (nI (ra9)) (nI 0) (nI 200))) (nx_ratio K (clN (nI (fr9))) (clN (nI (to9))) (clN (nI (ra9)))) K = K := moC_n (by rw [hcd_23]; decide)
      rw [eM_23] at hP hT
      have e_23 := e_23.trans (rsc_2 hcd_23)
      subst e_23
      refine lv_iload hx hb dL_lays_497 (lv_at hl 2 rfl) ?_
      refine zb_Bne (tgt := 507) hx hb dL_lays_499 (by decide) (fun _ => ?_) (fun c_24 => False.elim (by revert c_24; decide))
      refine lv_iload hx hb dL_lays_507 (lv_at hl 1 rfl) ?_
      refine zb_Beq (tgt := 517) hx hb dL_lays_509 (by decide) (fun _ => ?_) (fun c_25 => False.elim (by revert c_25; decide))
      refine lv_bipush (v := (-102)) hx hb dL_lays_517 (by decide) ?_
      refine lv_icmp_ne (tgt := 526) hx hb dL_lays_519 (by decide) (fun c_26 => False.elim (by revert c_26; decide)) (fun _ => ?_)
      refine lv_iconst (v := nI 1) hx hb dL_lays_522 (by decide) ?_
      refine lv_goto (tgt := 527) hx hb dL_lays_523 (by decide) ?_
      exact hret (b := true) (u := (K, u_23.1, u_23.2)) (show 0 + 3 ≤ 10 by omega) (show 0 + 18 ≤ 60 by omega) ⟨rfl, hI, hT⟩ rfl hS (fun t ht hA => ⟨va_K.moved hA hK, by rw [ht]; exact hP⟩) dL_lays_527
    · skip
      subst c_22
      have hfp := hfi.mp rfl
      refine lv_aload hx hb dL_lays_474 (lv_at hl 13 rfl) ?_
      refine lv_iconst (v := nI 3) hx hb dL_lays_476 (by decide) ?_
      refine lv_iload hx hb dL_lays_477 (lv_at hl 5 rfl) ?_
      refine zr_imul hx hb dL_lays_479 ?_
      refine lv_iload hx hb dL_lays_480 (lv_at hl 4 rfl) ?_
      refine zr_iadd hx hb dL_lays_482 ?_
      refine lv_iload hx hb dL_lays_483 (lv_at hl 3 rfl) ?_
      refine zi_st hx hb hK hP hnd hAd hS 31 (by decide) 0 rfl rfl (by decide) (i := ((3) * (fr9)) + (to9)) (by omega) (wxE ad cI cJ cQ (K) (ts) (pu) (mup K (12 + 3 * (fr9)) (to9) (ra9)) (X)) (wlS_r (by omega) (by omega)) dL_lays_485 (fun H locs hP hS => ?_)
      refine lv_aload_n hx hb dL_lays_486 rfl (lv_at hl 6 rfl) ?_
      refine lv_iconst (v := nI 3) hx hb dL_lays_487 (by decide) ?_
      refine lv_iload hx hb dL_lays_488 (lv_at hl 5 rfl) ?_
      refine lv_iload hx hb dL_lays_490 (lv_at hl 4 rfl) ?_
      refine lv_iload hx hb dL_lays_492 (lv_at hl 3 rfl) ?_
      refine zz_i (vx_runSX (As := [.ref (ad 0), .int (nI (3)), .int (nI (fr9)), .int (nI (to9)), .int (nI (ra9))]) (rest := []) ⟨hx, hb, hml, hown, hts⟩ (q_set3 l hfl hI.inv (by decide) hnd hAd (Nat.le_trans hz0 hS.1) hT  (nI (fr9)) (nI (to9)) (nI (ra9))) (vx_cwSW 5 hts gL_lays_L_set rfl rfl rfl (by decide +kernel) (by decide)) (psV hK hP hX (fun a h1 h2 => hS.2.1 a h1 h2)) rfl rfl hl.1 rfl (lv_room (Nat.le_of_ble_eq_true rfl)) dL_lays_494 ⟨show 0 + 3 ≤ 10 by omega, show 0 + 18 ≤ 60 by omega⟩) hS (fun q _ h => h) (fun q h => h) (fun r9 u_27 t9 H locs ht9 hv9 hp9 hB9 hz1 hk1 hS => ?_)
      obtain ⟨e_27, hT⟩ := hp9
      have hP := hB9.2
      rw [ht9] at hP
      clear hB9 ht9 hv9 hz1 hk1
      have hcd_27 : cd2 (ixB (nI (fr9)) 3 && ixB (nI (to9)) 3) (rgB (nI (ra9)) (nI 0) (nI 200)) = 0 := cd2_0 (ix2_t (by omega) (by omega) (by decide) (by decide)) (rg_t (by omega) (by omega) (by decide))
      have eM_27 : moC (cd2 (ixB (nI (fr9)) 3 && ixB (nI (to9)) 3) (rgB (nI (ra9)) (nI 0) (nI 200))) (nx_ratio K (clN (nI (fr9))) (clN (nI (to9))) (clN (nI (ra9)))) K = nx_ratio K ((fr9)) ((to9)) ((ra9)) := (moC_z hcd_27).trans (by first | rfl | simp only [clN_nI (show fr9 < 2 ^ 31 by omega), clN_nI (show to9 < 2 ^ 31 by omega), clN_nI (show ra9 < 2 ^ 31 by omega)])
      rw [eM_27] at hP hT
      have e_27 := e_27.trans ((rsc_0 hcd_27).trans (show nI (K (12 + 3 * clN (nI (fr9))) (clN (nI (to9)))) = nI (K (12 + 3 * (fr9)) ((to9))) by first | rfl | simp only [clN_nI (show fr9 < 2 ^ 31 by omega), clN_nI (show to9 < 2 ^ 31 by omega), clN_nI (show ra9 < 2 ^ 31 by omega)]))
      subst e_27
      refine lv_iload hx hb dL_lays_497 (lv_at hl 2 rfl) ?_
      refine zb_Bne (tgt := 507) hx hb dL_lays_499 (by decide) (fun _ => ?_) (fun c_28 => False.elim (by revert c_28; decide))
      refine lv_iload hx hb dL_lays_507 (lv_at hl 1 rfl) ?_
      refine zb_Beq (tgt := 517) hx hb dL_lays_509 (by decide) (fun c_29 => False.elim (by revert c_29; decide)) (fun _ => ?_)
      refine lv_iload hx hb dL_lays_512 (lv_at hl 0 rfl) ?_
      refine lv_goto (tgt := 519) hx hb dL_lays_514 (by decide) ?_
      refine zb_ne (tgt := 526) hx hb (by omega) (by omega) dL_lays_519 (by decide) (fun c_30 => ?_) (fun c_30 => ?_)
      · skip
        exact False.elim (by omega)
      · skip
        refine lv_iconst (v := nI 1) hx hb dL_lays_522 (by decide) ?_
        refine lv_goto (tgt := 527) hx hb dL_lays_523 (by decide) ?_
        exact hret (b := true) (u := (nx_ratio K ((fr9)) ((to9)) ((ra9)), u_27.1, u_27.2)) (show 0 + 3 ≤ 10 by omega) (show 0 + 18 ≤ 60 by omega) ⟨rfl, (inl_ratio hI (by omega)), hT⟩ rfl hS (fun t ht hA => ⟨va_K.moved hA hK, by rw [ht]; exact hP⟩) dL_lays_527
set_option maxHeartbeats 4000000 in
set_option maxRecDepth 100000 in
/-- a response is told -/
theorem l_lays3 (l : Launch) (hfl : l.stackTraces = false) {D : va_G} {ad : Nat → Nat} {cI cJ cQ : ClassId} {K : Mdl} {ts : Nat → Nat} {pu : Nat → Int64} {X : Nat → va_E} {sa : Nat → Nat} {sz z0 : Nat} (hI : Inl K) (hnd : ndz 37 ad) (hAd : ∀ i, i < 37 → zA z0 (ad i)) (hz0 : z0 ≤ sz) (hT : hTs K ts) (g : Int32)  : Met l yL_lays wsL_lays (rmX 3 10) (va_Pc [.ref (ad 0), .int (nI (3)), .int (g), .ref (ad 27), .ref (ad 28), .ref (ad 29), .ref (ad 30), .ref (ad 31)] (KV D 37 ad cI cJ cQ (wxE ad cI cJ cQ K ts pu K X) sa (zA z0) sz)) (va_Qi (fun r_ (u_ : Mdl × (Nat → Nat) × (Nat → Int64)) => ∃ b : Bool, r_ = bB b ∧ (b = true ∧ Inl u_.1 ∧ hTs u_.1 u_.2.1)) (fun (u_ : Mdl × (Nat → Nat) × (Nat → Int64)) t_ => KA D 37 ad cI cJ cQ (wxE ad cI cJ cQ u_.1 u_.2.1 u_.2.2 u_.1 X) t_) (zA z0)) 10 60 (zA z0) := by
  refine mkW_Qz (S := Mdl × (Nat → Nat) × (Nat → Int64)) (post := fun b (u_ : Mdl × (Nat → Nat) × (Nat → Int64)) => b = true ∧ Inl u_.1 ∧ hTs u_.1 u_.2.1) (BQ := fun (u_ : Mdl × (Nat → Nat) × (Nat → Int64)) t_ => KA D 37 ad cI cJ cQ (wxE ad cI cJ cQ u_.1 u_.2.1 u_.2.2 u_.1 X) t_) (cc := cL_lays) (maxL := 14) (by decide) rfl (Nat.le_of_ble_eq_true rfl) ?_
  intro p e s m args below meth c Q C0 B0 hret ls hl
  obtain ⟨hx, hb, hr, hml, hown, hts, hlocks⟩ := C0
  have hown : s.vm.findClass RL = some m.cls := hown
  obtain ⟨hsz, hX, hK, hP⟩ := B0
  subst hsz
  have b_nw := hI.nw
  have b_nv := hI.nv
  have hS : va_S (zA z0) s.heap s.heap [] := va_S.rf
  have hl : lv_has ls 14 [(0, .ref (ad 0)), (1, .int (nI (3))), (2, .int (g)), (3, .ref (ad 27)), (4, .ref (ad 28)), (5, .ref (ad 29)), (6, .ref (ad 30)), (7, .ref (ad 31))] := hl
  refine lv_iload_n hx hb dL_lays_0 rfl (lv_at hl 1 rfl) ?_
  refine lv_if_ne (tgt := 199) hx hb dL_lays_1 (by decide) (fun _ => ?_) (fun c_1 => False.elim (by revert c_1; decide))
  refine lv_iload_n hx hb dL_lays_199 rfl (lv_at hl 1 rfl) ?_
  refine lv_iconst (v := nI 1) hx hb dL_lays_200 (by decide) ?_
  refine lv_icmp_ne (tgt := 351) hx hb dL_lays_201 (by decide) (fun _ => ?_) (fun c_2 => False.elim (by revert c_2; decide))
  refine lv_iload_n hx hb dL_lays_351 rfl (lv_at hl 1 rfl) ?_
  refine lv_iconst (v := nI 2) hx hb dL_lays_352 (by decide) ?_
  refine lv_icmp_ne (tgt := 528) hx hb dL_lays_353 (by decide) (fun _ => ?_) (fun c_3 => False.elim (by revert c_3; decide))
  suffices mg546 : ∀ (re9 : Nat), (re9 ≤ 5) → ∀ ls : Array Slot, lv_has ls 14 [(0, .ref (ad 0)), (1, .int (nI (3))), (2, .int (g)), (3, .ref (ad 27)), (4, .ref (ad 28)), (5, .ref (ad 29)), (6, .ref (ad 30)), (7, .ref (ad 31))] → W p l e (rmX 3 10) s m args below meth c s.heap [] (0) (0) Q (F0 m 546 ls [.int (nI (re9))]) by
    refine lv_iload_n hx hb dL_lays_528 rfl (lv_at hl 2 rfl) ?_
    refine lv_bipush (v := nI 60) hx hb dL_lays_529 (by decide) ?_
    refine vp_callSi (W.runS (As := [.int (g), .int (nI (60))]) (rest := []) ⟨hx, hb, hml, hown, hts⟩ (l_some l ((g)) (N := 60) (by omega) (by omega)) (va_cwS 2 hts gL_lays_L_some rfl rfl rfl (by decide +kernel) (by decide)) (psN) rfl rfl hl.1 rfl (lv_room (Nat.le_of_ble_eq_true rfl)) dL_lays_531 (by decide)) (fun r_4 hr_4 => ?_)
    obtain ⟨r_4j, br_4, rfl⟩ := hr_4
    refine zb_0ne (tgt := 541) hx hb (by omega) dL_lays_534 (by decide) (fun c_5 => ?_) (fun c_5 => ?_)
    · skip
      refine lv_iload_n hx hb dL_lays_541 rfl (lv_at hl 2 rfl) ?_
      refine lv_iconst (v := nI 5) hx hb dL_lays_542 (by decide) ?_
      refine vp_callSi (W.runS (As := [.int (g), .int (nI (5))]) (rest := []) ⟨hx, hb, hml, hown, hts⟩ (l_some l ((g)) (N := 5) (by omega) (by omega)) (va_cwS 2 hts gL_lays_L_some rfl rfl rfl (by decide +kernel) (by decide)) (psN) rfl rfl hl.1 rfl (lv_room (Nat.le_of_ble_eq_true rfl)) dL_lays_543 (by decide)) (fun r_6 hr_6 => ?_)
      obtain ⟨r_6j, br_6, rfl⟩ := hr_6
      exact mg546 (r_6j) (by omega) _ (lv_sub hl [0, 1, 2, 3, 4, 5, 6, 7] rfl)
    · skip
      refine lv_iconst (v := nI 5) hx hb dL_lays_537 (by decide) ?_
      refine lv_goto (tgt := 546) hx hb dL_lays_538 (by decide) ?_
      exact mg546 (5) (by omega) _ (lv_sub hl [0, 1, 2, 3, 4, 5, 6, 7] rfl)
  intro re9 hre ls hl
  refine lv_istore (lv' := [(8, .int (nI (re9))), (0, .ref (ad 0)), (1, .int (nI (3))), (2, .int (g)), (3, .ref (ad 27)), (4, .ref (ad 28)), (5, .ref (ad 29)), (6, .ref (ad 30)), (7, .ref (ad 31))]) hx hb dL_lays_546 hl (by decide) rfl (fun ls hl => ?_)
  suffices mg571 : ∀ (q9 : Int32), (q9 = -1 ∨ ∃ j : Nat, j < 12 ∧ q9 = nI j) → ∀ ls : Array Slot, lv_has ls 14 [(8, .int (nI (re9))), (0, .ref (ad 0)), (1, .int (nI (3))), (2, .int (g)), (3, .ref (ad 27)), (4, .ref (ad 28)), (5, .ref (ad 29)), (6, .ref (ad 30)), (7, .ref (ad 31))] → W p l e (rmX 3 10) s m args below meth c s.heap [] (0) (0) Q (F0 m 571 ls [.int (q9)]) by
    refine lv_iload_n hx hb dL_lays_548 rfl (lv_at hl 3 rfl) ?_
    refine lv_iconst (v := nI 4) hx hb dL_lays_549 (by decide) ?_
    refine lv_ishr hx hb dL_lays_550 ?_
    refine lv_bipush (v := nI 60) hx hb dL_lays_551 (by decide) ?_
    refine vp_callSi (W.runS (As := [.int ((g) >>> (nI (4) &&& 31)), .int (nI (60))]) (rest := []) ⟨hx, hb, hml, hown, hts⟩ (l_some l (((g) >>> (nI (4) &&& 31))) (N := 60) (by omega) (by omega)) (va_cwS 2 hts gL_lays_L_some rfl rfl rfl (by decide +kernel) (by decide)) (psN) rfl rfl hl.1 rfl (lv_room (Nat.le_of_ble_eq_true rfl)) dL_lays_553 (by decide)) (fun r_8 hr_8 => ?_)
    obtain ⟨r_8j, br_8, rfl⟩ := hr_8
    refine zb_0ne (tgt := 563) hx hb (by omega) dL_lays_556 (by decide) (fun c_9 => ?_) (fun c_9 => ?_)
    · skip
      refine lv_iload_n hx hb dL_lays_563 rfl (lv_at hl 3 rfl) ?_
      refine lv_iconst (v := nI 4) hx hb dL_lays_564 (by decide) ?_
      refine lv_ishr hx hb dL_lays_565 ?_
      refine lv_bipush (v := nI 12) hx hb dL_lays_566 (by decide) ?_
      refine vp_callSi (W.runS (As := [.int ((g) >>> (nI (4) &&& 31)), .int (nI (12))]) (rest := []) ⟨hx, hb, hml, hown, hts⟩ (l_some l (((g) >>> (nI (4) &&& 31))) (N := 12) (by omega) (by omega)) (va_cwS 2 hts gL_lays_L_some rfl rfl rfl (by decide +kernel) (by decide)) (psN) rfl rfl hl.1 rfl (lv_room (Nat.le_of_ble_eq_true rfl)) dL_lays_568 (by decide)) (fun r_11 hr_11 => ?_)
      obtain ⟨r_11j, br_11, rfl⟩ := hr_11
      exact mg571 (nI (r_11j)) (Or.inr ⟨_, by omega, rfl⟩) _ (lv_sub hl [0, 1, 2, 3, 4, 5, 6, 7, 8] rfl)
    · skip
      refine lv_iconst (v := (-1)) hx hb dL_lays_559 (by decide) ?_
      refine lv_goto (tgt := 571) hx hb dL_lays_560 (by decide) ?_
      exact mg571 ((-1)) (Or.inl rfl) _ (lv_sub hl [0, 1, 2, 3, 4, 5, 6, 7, 8] rfl)
  intro q9 hq9 ls hl
  rcases hq9 with rfl | ⟨de9, bde, rfl⟩
  · skip
    refine lv_istore (lv' := [(9, .int (-1)), (8, .int (nI (re9))), (0, .ref (ad 0)), (1, .int (nI (3))), (2, .int (g)), (3, .ref (ad 27)), (4, .ref (ad 28)), (5, .ref (ad 29)), (6, .ref (ad 30)), (7, .ref (ad 31))]) hx hb dL_lays_571 hl (by decide) rfl (fun ls hl => ?_)
    suffices mg616 : ∀ (rs9 : Nat), (rs9 ≤ 1001) → ∀ ls : Array Slot, lv_has ls 14 [(9, .int (-1)), (8, .int (nI (re9))), (0, .ref (ad 0)), (1, .int (nI (3))), (2, .int (g)), (3, .ref (ad 27)), (4, .ref (ad 28)), (5, .ref (ad 29)), (6, .ref (ad 30)), (7, .ref (ad 31))] → W p l e (rmX 3 10) s m args below meth c s.heap [] (0) (0) Q (F0 m 616 ls [.int (nI (rs9))]) by
      refine lv_iload_n hx hb dL_lays_573 rfl (lv_at hl 4 rfl) ?_
      refine lv_bipush (v := nI 8) hx hb dL_lays_574 (by decide) ?_
      refine lv_ishr hx hb dL_lays_576 ?_
      refine lv_bipush (v := nI 60) hx hb dL_lays_577 (by decide) ?_
      refine vp_callSi (W.runS (As := [.int ((g) >>> (nI (8) &&& 31)), .int (nI (60))]) (rest := []) ⟨hx, hb, hml, hown, hts⟩ (l_some l (((g) >>> (nI (8) &&& 31))) (N := 60) (by omega) (by omega)) (va_cwS 2 hts gL_lays_L_some rfl rfl rfl (by decide +kernel) (by decide)) (psN) rfl rfl hl.1 rfl (lv_room (Nat.le_of_ble_eq_true rfl)) dL_lays_579 (by decide)) (fun r_13 hr_13 => ?_)
      obtain ⟨r_13j, br_13, rfl⟩ := hr_13
      refine zb_0ne (tgt := 591) hx hb (by omega) dL_lays_582 (by decide) (fun c_14 => ?_) (fun c_14 => ?_)
      · skip
        refine lv_iload_n hx hb dL_lays_591 rfl (lv_at hl 4 rfl) ?_
        refine lv_bipush (v := nI 8) hx hb dL_lays_592 (by decide) ?_
        refine lv_ishr hx hb dL_lays_594 ?_
        refine lv_iconst (v := nI 4) hx hb dL_lays_595 (by decide) ?_
        refine vp_callSi (W.runS (As := [.int ((g) >>> (nI (8) &&& 31)), .int (nI (4))]) (rest := []) ⟨hx, hb, hml, hown, hts⟩ (l_some l (((g) >>> (nI (8) &&& 31))) (N := 4) (by omega) (by omega)) (va_cwS 2 hts gL_lays_L_some rfl rfl rfl (by decide +kernel) (by decide)) (psN) rfl rfl hl.1 rfl (lv_room (Nat.le_of_ble_eq_true rfl)) dL_lays_596 (by decide)) (fun r_16 hr_16 => ?_)
        obtain ⟨r_16j, br_16, rfl⟩ := hr_16
        refine zb_0ne (tgt := 606) hx hb (by omega) dL_lays_599 (by decide) (fun c_17 => ?_) (fun c_17 => ?_)
        · skip
          refine lv_iload_n hx hb dL_lays_606 rfl (lv_at hl 4 rfl) ?_
          refine lv_bipush (v := nI 9) hx hb dL_lays_607 (by decide) ?_
          refine lv_ishr hx hb dL_lays_609 ?_
          refine lv_sipush (v := nI 300) hx hb dL_lays_610 (by decide) ?_
          refine vp_callSi (W.runS (As := [.int ((g) >>> (nI (9) &&& 31)), .int (nI (300))]) (rest := []) ⟨hx, hb, hml, hown, hts⟩ (l_some l (((g) >>> (nI (9) &&& 31))) (N := 300) (by omega) (by omega)) (va_cwS 2 hts gL_lays_L_some rfl rfl rfl (by decide +kernel) (by decide)) (psN) rfl rfl hl.1 rfl (lv_room (Nat.le_of_ble_eq_true rfl)) dL_lays_613 (by decide)) (fun r_19 hr_19 => ?_)
          obtain ⟨r_19j, br_19, rfl⟩ := hr_19
          exact mg616 (r_19j) (by omega) _ (lv_sub hl [0, 1, 2, 3, 4, 5, 6, 7, 8, 9] rfl)
        · skip
          refine lv_iconst (v := nI 0) hx hb dL_lays_602 (by decide) ?_
          refine lv_goto (tgt := 616) hx hb dL_lays_603 (by decide) ?_
          exact mg616 (0) (by omega) _ (lv_sub hl [0, 1, 2, 3, 4, 5, 6, 7, 8, 9] rfl)
      · skip
        refine lv_sipush (v := nI 1001) hx hb dL_lays_585 (by decide) ?_
        refine lv_goto (tgt := 616) hx hb dL_lays_588 (by decide) ?_
        exact mg616 (1001) (by omega) _ (lv_sub hl [0, 1, 2, 3, 4, 5, 6, 7, 8, 9] rfl)
    intro rs9 hrs ls hl
    refine lv_istore (lv' := [(10, .int (nI (rs9))), (9, .int (-1)), (8, .int (nI (re9))), (0, .ref (ad 0)), (1, .int (nI (3))), (2, .int (g)), (3, .ref (ad 27)), (4, .ref (ad 28)), (5, .ref (ad 29)), (6, .ref (ad 30)), (7, .ref (ad 31))]) hx hb dL_lays_616 hl (by decide) rfl (fun ls hl => ?_)
    suffices mg634 : ∀ (is9 : Bool), (is9 = true ↔ (False)) → ∀ ls : Array Slot, lv_has ls 14 [(10, .int (nI (rs9))), (9, .int (-1)), (8, .int (nI (re9))), (0, .ref (ad 0)), (1, .int (nI (3))), (2, .int (g)), (3, .ref (ad 27)), (4, .ref (ad 28)), (5, .ref (ad 29)), (6, .ref (ad 30)), (7, .ref (ad 31))] → W p l e (rmX 3 10) s m args below meth c s.heap [] (0) (0) Q (F0 m 634 ls [.int (bB (is9))]) by
      refine lv_iload hx hb dL_lays_618 (lv_at hl 2 rfl) ?_
      refine lv_iconst (v := nI 5) hx hb dL_lays_620 (by decide) ?_
      refine zb_ge (tgt := 633) hx hb (by omega) (by omega) dL_lays_621 (by decide) (fun c_20 => ?_) (fun c_20 => ?_)
      · skip
        refine lv_iconst (v := nI 0) hx hb dL_lays_633 (by decide) ?_
        refine zt_i (y := bB (false)) rfl ?_
        exact mg634 (false) (iff_of_false (by decide) (fun z => z)) _ (lv_sub hl [0, 1, 2, 3, 4, 5, 6, 7, 8, 9, 10] rfl)
      · skip
        refine lv_iload hx hb dL_lays_624 (lv_at hl 1 rfl) ?_
        refine lv_if_lt (tgt := 633) hx hb dL_lays_626 (by decide) (fun _ => ?_) (fun c_21 => False.elim (by revert c_21; decide))
        refine lv_iconst (v := nI 0) hx hb dL_lays_633 (by decide) ?_
        refine zt_i (y := bB (false)) rfl ?_
        exact mg634 (false) (iff_of_false (by decide) (fun z => z)) _ (lv_sub hl [0, 1, 2, 3, 4, 5, 6, 7, 8, 9, 10] rfl)
    intro is9 his ls hl
    refine lv_istore (lv' := [(11, .int (bB (is9))), (10, .int (nI (rs9))), (9, .int (-1)), (8, .int (nI (re9))), (0, .ref (ad 0)), (1, .int (nI (3))), (2, .int (g)), (3, .ref (ad 27)), (4, .ref (ad 28)), (5, .ref (ad 29)), (6, .ref (ad 30)), (7, .ref (ad 31))]) hx hb dL_lays_634 hl (by decide) rfl (fun ls hl => ?_)
    suffices mg649 : ∀ (fi9 : Bool), (fi9 = true ↔ (rs9 < 1001)) → ∀ ls : Array Slot, lv_has ls 14 [(11, .int (bB (is9))), (10, .int (nI (rs9))), (9, .int (-1)), (8, .int (nI (re9))), (0, .ref (ad 0)), (1, .int (nI (3))), (2, .int (g)), (3, .ref (ad 27)), (4, .ref (ad 28)), (5, .ref (ad 29)), (6, .ref (ad 30)), (7, .ref (ad 31))] → W p l e (rmX 3 10) s m args below meth c s.heap [] (0) (0) Q (F0 m 649 ls [.int (bB (fi9))]) by
      refine lv_iload hx hb dL_lays_636 (lv_at hl 1 rfl) ?_
      refine lv_sipush (v := nI 1001) hx hb dL_lays_638 (by decide) ?_
      refine zb_ge (tgt := 648) hx hb (by omega) (by omega) dL_lays_641 (by decide) (fun c_22 => ?_) (fun c_22 => ?_)
      · skip
        refine lv_iconst (v := nI 0) hx hb dL_lays_648 (by decide) ?_
        refine zt_i (y := bB (false)) rfl ?_
        exact mg649 (false) (iff_of_false (by decide) (by omega)) _ (lv_sub hl [0, 1, 2, 3, 4, 5, 6, 7, 8, 9, 10, 11] rfl)
      · skip
        refine lv_iconst (v := nI 1) hx hb dL_lays_644 (by decide) ?_
        refine lv_goto (tgt := 649) hx hb dL_lays_645 (by decide) ?_
        refine zt_i (y := bB (true)) rfl ?_
        exact mg649 (true) (iff_of_true rfl (by omega)) _ (lv_sub hl [0, 1, 2, 3, 4, 5, 6, 7, 8, 9, 10, 11] rfl)
    intro fi9 hfi ls hl
    refine lv_istore (lv' := [(12, .int (bB (fi9))), (11, .int (bB (is9))), (10, .int (nI (rs9))), (9, .int (-1)), (8, .int (nI (re9))), (0, .ref (ad 0)), (1, .int (nI (3))), (2, .int (g)), (3, .ref (ad 27)), (4, .ref (ad 28)), (5, .ref (ad 29)), (6, .ref (ad 30)), (7, .ref (ad 31))]) hx hb dL_lays_649 hl (by decide) rfl (fun ls hl => ?_)
    suffices mg671 : ∀ (bf9 : Nat), (is9 = true → bf9 = 0) → ∀ ls : Array Slot, lv_has ls 14 [(12, .int (bB (fi9))), (11, .int (bB (is9))), (10, .int (nI (rs9))), (9, .int (-1)), (8, .int (nI (re9))), (0, .ref (ad 0)), (1, .int (nI (3))), (2, .int (g)), (3, .ref (ad 27)), (4, .ref (ad 28)), (5, .ref (ad 29)), (6, .ref (ad 30)), (7, .ref (ad 31))] → W p l e (rmX 3 10) s m args below meth c s.heap [] (0) (0) Q (F0 m 671 ls [.int (nI (bf9))]) by
      refine lv_iload hx hb dL_lays_651 (lv_at hl 1 rfl) ?_
      refine zb_Beq (tgt := 670) hx hb dL_lays_653 (by decide) (fun c_23 => ?_) (fun c_23 => ?_)
      · skip
        refine lv_iconst (v := nI 0) hx hb dL_lays_670 (by decide) ?_
        exact mg671 (0) (fun h9 => absurd (h9.symm.trans (by assumption : is9 = false)) (by decide)) _ (lv_sub hl [0, 1, 2, 3, 4, 5, 6, 7, 8, 9, 10, 11, 12] rfl)
      · skip
        exact (his.mp c_23).elim
    intro bf9 hbf ls hl
    refine lv_istore (lv' := [(13, .int (nI (bf9))), (12, .int (bB (fi9))), (11, .int (bB (is9))), (10, .int (nI (rs9))), (9, .int (-1)), (8, .int (nI (re9))), (0, .ref (ad 0)), (1, .int (nI (3))), (2, .int (g)), (3, .ref (ad 27)), (4, .ref (ad 28)), (5, .ref (ad 29)), (6, .ref (ad 30)), (7, .ref (ad 31))]) hx hb dL_lays_671 hl (by decide) rfl (fun ls hl => ?_)
    refine lv_iload hx hb dL_lays_673 (lv_at hl 2 rfl) ?_
    refine zb_Beq (tgt := 696) hx hb dL_lays_675 (by decide) (fun c_24 => ?_) (fun c_24 => ?_)
    · skip
      subst c_24
      refine lv_aload_n hx hb dL_lays_696 rfl (lv_at hl 6 rfl) ?_
      refine lv_iconst (v := nI 0) hx hb dL_lays_697 (by decide) ?_
      refine lv_iload hx hb dL_lays_698 (lv_at hl 5 rfl) ?_
      refine lv_iload hx hb dL_lays_700 (lv_at hl 4 rfl) ?_
      refine lv_iload hx hb dL_lays_702 (lv_at hl 3 rfl) ?_
      refine zz_i (vx_runSX (As := [.ref (ad 0), .int (nI (0)), .int (nI (re9)), .int (-1), .int (nI (rs9))]) (rest := []) ⟨hx, hb, hml, hown, hts⟩ (q_set0 l hfl hI.inv (by decide) hnd hAd (Nat.le_trans hz0 hS.1) hT  (nI (re9)) ((-1)) (nI (rs9))) (vx_cwSW 5 hts gL_lays_L_set rfl rfl rfl (by decide +kernel) (by decide)) (psV hK hP hX (fun a h1 h2 => hS.2.1 a h1 h2)) rfl rfl hl.1 rfl (lv_room (Nat.le_of_ble_eq_true rfl)) dL_lays_704 ⟨show 0 + 3 ≤ 10 by omega, show 0 + 18 ≤ 60 by omega⟩) hS (fun q _ h => h) (fun q h => h) (fun r9 u_25 t9 H locs ht9 hv9 hp9 hB9 hz1 hk1 hS => ?_)
      obtain ⟨e_25, hT⟩ := hp9
      have hP := hB9.2
      rw [ht9] at hP
      clear hB9 ht9 hv9 hz1 hk1
      have hcd_25 : cd2 (ixB (nI (re9)) 5 && ixB ((-1)) 12) (rgB (nI (rs9)) (nI 0) (nI 1000)) = 1 := cd2_1 ix2_n
      have eM_25 : moC (cd2 (ixB (nI (re9)) 5 && ixB ((-1)) 12) (rgB (nI (rs9)) (nI 0) (nI 1000))) (nx_response K (clN (nI (re9))) (clN ((-1))) (clN (nI (rs9)))) K = K := moC_n (by rw [hcd_25]; decide)
      rw [eM_25] at hP hT
      have e_25 := e_25.trans (rsc_1 hcd_25)
      subst e_25
      refine lv_iload hx hb dL_lays_707 (lv_at hl 2 rfl) ?_
      refine zb_Bne (tgt := 717) hx hb dL_lays_709 (by decide) (fun c_26 => False.elim (by revert c_26; decide)) (fun _ => ?_)
      refine lv_bipush (v := (-101)) hx hb dL_lays_712 (by decide) ?_
      refine lv_goto (tgt := 729) hx hb dL_lays_714 (by decide) ?_
      refine lv_icmp_ne (tgt := 736) hx hb dL_lays_729 (by decide) (fun c_27 => False.elim (by revert c_27; decide)) (fun _ => ?_)
      refine lv_iconst (v := nI 1) hx hb dL_lays_732 (by decide) ?_
      refine lv_goto (tgt := 737) hx hb dL_lays_733 (by decide) ?_
      exact hret (b := true) (u := (K, u_25.1, u_25.2)) (show 0 + 3 ≤ 10 by omega) (show 0 + 18 ≤ 60 by omega) ⟨rfl, hI, hT⟩ rfl hS (fun t ht hA => ⟨va_K.moved hA hK, by rw [ht]; exact hP⟩) dL_lays_737
    · skip
      subst c_24
      exact (his.mp rfl).elim
  · skip
    refine lv_istore (lv' := [(9, .int (nI (de9))), (8, .int (nI (re9))), (0, .ref (ad 0)), (1, .int (nI (3))), (2, .int (g)), (3, .ref (ad 27)), (4, .ref (ad 28)), (5, .ref (ad 29)), (6, .ref (ad 30)), (7, .ref (ad 31))]) hx hb dL_lays_571 hl (by decide) rfl (fun ls hl => ?_)
    suffices mg616 : ∀ (rs9 : Nat), (rs9 ≤ 1001) → ∀ ls : Array Slot, lv_has ls 14 [(9, .int (nI (de9))), (8, .int (nI (re9))), (0, .ref (ad 0)), (1, .int (nI (3))), (2, .int (g)), (3, .ref (ad 27)), (4, .ref (ad 28)), (5, .ref (ad 29)), (6, .ref (ad 30)), (7, .ref (ad 31))] → W p l e (rmX 3 10) s m args below meth c s.heap [] (0) (0) Q (F0 m 616 ls [.int (nI (rs9))]) by
      refine lv_iload_n hx hb dL_lays_573 rfl (lv_at hl 4 rfl) ?_
      refine lv_bipush (v := nI 8) hx hb dL_lays_574 (by decide) ?_
      refine lv_ishr hx hb dL_lays_576 ?_
      refine lv_bipush (v := nI 60) hx hb dL_lays_577 (by decide) ?_
      refine vp_callSi (W.runS (As := [.int ((g) >>> (nI (8) &&& 31)), .int (nI (60))]) (rest := []) ⟨hx, hb, hml, hown, hts⟩ (l_some l (((g) >>> (nI (8) &&& 31))) (N := 60) (by omega) (by omega)) (va_cwS 2 hts gL_lays_L_some rfl rfl rfl (by decide +kernel) (by decide)) (psN) rfl rfl hl.1 rfl (lv_room (Nat.le_of_ble_eq_true rfl)) dL_lays_579 (by decide)) (fun r_29 hr_29 => ?_)
      obtain ⟨r_29j, br_29, rfl⟩ := hr_29
      refine zb_0ne (tgt := 591) hx hb (by omega) dL_lays_582 (by decide) (fun c_30 => ?_) (fun c_30 => ?_)
      · skip
        refine lv_iload_n hx hb dL_lays_591 rfl (lv_at hl 4 rfl) ?_
        refine lv_bipush (v := nI 8) hx hb dL_lays_592 (by decide) ?_
        refine lv_ishr hx hb dL_lays_594 ?_
        refine lv_iconst (v := nI 4) hx hb dL_lays_595 (by decide) ?_
        refine vp_callSi (W.runS (As := [.int ((g) >>> (nI (8) &&& 31)), .int (nI (4))]) (rest := []) ⟨hx, hb, hml, hown, hts⟩ (l_some l (((g) >>> (nI (8) &&& 31))) (N := 4) (by omega) (by omega)) (va_cwS 2 hts gL_lays_L_some rfl rfl rfl (by decide +kernel) (by decide)) (psN) rfl rfl hl.1 rfl (lv_room (Nat.le_of_ble_eq_true rfl)) dL_lays_596 (by decide)) (fun r_32 hr_32 => ?_)
        obtain ⟨r_32j, br_32, rfl⟩ := hr_32
        refine zb_0ne (tgt := 606) hx hb (by omega) dL_lays_599 (by decide) (fun c_33 => ?_) (fun c_33 => ?_)
        · skip
          refine lv_iload_n hx hb dL_lays_606 rfl (lv_at hl 4 rfl) ?_
          refine lv_bipush (v := nI 9) hx hb dL_lays_607 (by decide) ?_
          refine lv_ishr hx hb dL_lays_609 ?_
          refine lv_sipush (v := nI 300) hx hb dL_lays_610 (by decide) ?_
          refine vp_callSi (W.runS (As := [.int ((g) >>> (nI (9) &&& 31)), .int (nI (300))]) (rest := []) ⟨hx, hb, hml, hown, hts⟩ (l_some l (((g) >>> (nI (9) &&& 31))) (N := 300) (by omega) (by omega)) (va_cwS 2 hts gL_lays_L_some rfl rfl rfl (by decide +kernel) (by decide)) (psN) rfl rfl hl.1 rfl (lv_room (Nat.le_of_ble_eq_true rfl)) dL_lays_613 (by decide)) (fun r_35 hr_35 => ?_)
          obtain ⟨r_35j, br_35, rfl⟩ := hr_35
          exact mg616 (r_35j) (by omega) _ (lv_sub hl [0, 1, 2, 3, 4, 5, 6, 7, 8, 9] rfl)
        · skip
          refine lv_iconst (v := nI 0) hx hb dL_lays_602 (by decide) ?_
          refine lv_goto (tgt := 616) hx hb dL_lays_603 (by decide) ?_
          exact mg616 (0) (by omega) _ (lv_sub hl [0, 1, 2, 3, 4, 5, 6, 7, 8, 9] rfl)
      · skip
        refine lv_sipush (v := nI 1001) hx hb dL_lays_585 (by decide) ?_
        refine lv_goto (tgt := 616) hx hb dL_lays_588 (by decide) ?_
        exact mg616 (1001) (by omega) _ (lv_sub hl [0, 1, 2, 3, 4, 5, 6, 7, 8, 9] rfl)
    intro rs9 hrs ls hl
    refine lv_istore (lv' := [(10, .int (nI (rs9))), (9, .int (nI (de9))), (8, .int (nI (re9))), (0, .ref (ad 0)), (1, .int (nI (3))), (2, .int (g)), (3, .ref (ad 27)), (4, .ref (ad 28)), (5, .ref (ad 29)), (6, .ref (ad 30)), (7, .ref (ad 31))]) hx hb dL_lays_616 hl (by decide) rfl (fun ls hl => ?_)
    suffices mg634 : ∀ (is9 : Bool), (is9 = true ↔ (re9 < 5)) → ∀ ls : Array Slot, lv_has ls 14 [(10, .int (nI (rs9))), (9, .int (nI (de9))), (8, .int (nI (re9))), (0, .ref (ad 0)), (1, .int (nI (3))), (2, .int (g)), (3, .ref (ad 27)), (4, .ref (ad 28)), (5, .ref (ad 29)), (6, .ref (ad 30)), (7, .ref (ad 31))] → W p l e (rmX 3 10) s m args below meth c s.heap [] (0) (0) Q (F0 m 634 ls [.int (bB (is9))]) by
      refine lv_iload hx hb dL_lays_618 (lv_at hl 2 rfl) ?_
      refine lv_iconst (v := nI 5) hx hb dL_lays_620 (by decide) ?_
      refine zb_ge (tgt := 633) hx hb (by omega) (by omega) dL_lays_621 (by decide) (fun c_36 => ?_) (fun c_36 => ?_)
      · skip
        refine lv_iconst (v := nI 0) hx hb dL_lays_633 (by decide) ?_
        refine zt_i (y := bB (false)) rfl ?_
        exact mg634 (false) (iff_of_false (by decide) (by omega)) _ (lv_sub hl [0, 1, 2, 3, 4, 5, 6, 7, 8, 9, 10] rfl)
      · skip
        refine lv_iload hx hb dL_lays_624 (lv_at hl 1 rfl) ?_
        refine zb_0lt (tgt := 633) hx hb (by omega) dL_lays_626 (by decide) ?_
        refine lv_iconst (v := nI 1) hx hb dL_lays_629 (by decide) ?_
        refine lv_goto (tgt := 634) hx hb dL_lays_630 (by decide) ?_
        refine zt_i (y := bB (true)) rfl ?_
        exact mg634 (true) (iff_of_true rfl (by omega)) _ (lv_sub hl [0, 1, 2, 3, 4, 5, 6, 7, 8, 9, 10] rfl)
    intro is9 his ls hl
    refine lv_istore (lv' := [(11, .int (bB (is9))), (10, .int (nI (rs9))), (9, .int (nI (de9))), (8, .int (nI (re9))), (0, .ref (ad 0)), (1, .int (nI (3))), (2, .int (g)), (3, .ref (ad 27)), (4, .ref (ad 28)), (5, .ref (ad 29)), (6, .ref (ad 30)), (7, .ref (ad 31))]) hx hb dL_lays_634 hl (by decide) rfl (fun ls hl => ?_)
    suffices mg649 : ∀ (fi9 : Bool), (fi9 = true ↔ (rs9 < 1001)) → ∀ ls : Array Slot, lv_has ls 14 [(11, .int (bB (is9))), (10, .int (nI (rs9))), (9, .int (nI (de9))), (8, .int (nI (re9))), (0, .ref (ad 0)), (1, .int (nI (3))), (2, .int (g)), (3, .ref (ad 27)), (4, .ref (ad 28)), (5, .ref (ad 29)), (6, .ref (ad 30)), (7, .ref (ad 31))] → W p l e (rmX 3 10) s m args below meth c s.heap [] (0) (0) Q (F0 m 649 ls [.int (bB (fi9))]) by
      refine lv_iload hx hb dL_lays_636 (lv_at hl 1 rfl) ?_
      refine lv_sipush (v := nI 1001) hx hb dL_lays_638 (by decide) ?_
      refine zb_ge (tgt := 648) hx hb (by omega) (by omega) dL_lays_641 (by decide) (fun c_38 => ?_) (fun c_38 => ?_)
      · skip
        refine lv_iconst (v := nI 0) hx hb dL_lays_648 (by decide) ?_
        refine zt_i (y := bB (false)) rfl ?_
        exact mg649 (false) (iff_of_false (by decide) (by omega)) _ (lv_sub hl [0, 1, 2, 3, 4, 5, 6, 7, 8, 9, 10, 11] rfl)
      · skip
        refine lv_iconst (v := nI 1) hx hb dL_lays_644 (by decide) ?_
        refine lv_goto (tgt := 649) hx hb dL_lays_645 (by decide) ?_
        refine zt_i (y := bB (true)) rfl ?_
        exact mg649 (true) (iff_of_true rfl (by omega)) _ (lv_sub hl [0, 1, 2, 3, 4, 5, 6, 7, 8, 9, 10, 11] rfl)
    intro fi9 hfi ls hl
    refine lv_istore (lv' := [(12, .int (bB (fi9))), (11, .int (bB (is9))), (10, .int (nI (rs9))), (9, .int (nI (de9))), (8, .int (nI (re9))), (0, .ref (ad 0)), (1, .int (nI (3))), (2, .int (g)), (3, .ref (ad 27)), (4, .ref (ad 28)), (5, .ref (ad 29)), (6, .ref (ad 30)), (7, .ref (ad 31))]) hx hb dL_lays_649 hl (by decide) rfl (fun ls hl => ?_)
    suffices mg671 : ∀ (bf9 : Nat), (is9 = true → bf9 = K (11 + 3 * (re9)) (de9)) → ∀ ls : Array Slot, lv_has ls 14 [(12, .int (bB (fi9))), (11, .int (bB (is9))), (10, .int (nI (rs9))), (9, .int (nI (de9))), (8, .int (nI (re9))), (0, .ref (ad 0)), (1, .int (nI (3))), (2, .int (g)), (3, .ref (ad 27)), (4, .ref (ad 28)), (5, .ref (ad 29)), (6, .ref (ad 30)), (7, .ref (ad 31))] → W p l e (rmX 3 10) s m args below meth c s.heap [] (0) (0) Q (F0 m 671 ls [.int (nI (bf9))]) by
      refine lv_iload hx hb dL_lays_651 (lv_at hl 1 rfl) ?_
      refine zb_Beq (tgt := 670) hx hb dL_lays_653 (by decide) (fun c_39 => ?_) (fun c_39 => ?_)
      · skip
        refine lv_iconst (v := nI 0) hx hb dL_lays_670 (by decide) ?_
        exact mg671 (0) (fun h9 => absurd (h9.symm.trans (by assumption : is9 = false)) (by decide)) _ (lv_sub hl [0, 1, 2, 3, 4, 5, 6, 7, 8, 9, 10, 11, 12] rfl)
      · skip
        have hi3 := his.mp c_39
        refine lv_aload hx hb dL_lays_656 (lv_at hl 11 rfl) ?_
        refine lv_bipush (v := nI 12) hx hb dL_lays_658 (by decide) ?_
        refine lv_iload hx hb dL_lays_660 (lv_at hl 4 rfl) ?_
        refine zr_imul hx hb dL_lays_662 ?_
        refine lv_iload hx hb dL_lays_663 (lv_at hl 3 rfl) ?_
        refine zr_iadd hx hb dL_lays_665 ?_
        have f_40 := hI.inv.tb (re9) (by omega) (de9)
        refine zi_ld hx hb hK hP 30 (by decide) 0 rfl rfl (by decide) (i := ((12) * (re9)) + (de9)) (by omega) (v := nI (K (11 + 3 * (re9)) (de9))) (ft_1 (by omega)) dL_lays_666 ?_
        refine lv_goto (tgt := 671) hx hb dL_lays_667 (by decide) ?_
        exact mg671 (K (11 + 3 * (re9)) (de9)) (fun _ => rfl) _ (lv_sub hl [0, 1, 2, 3, 4, 5, 6, 7, 8, 9, 10, 11, 12] rfl)
    intro bf9 hbf ls hl
    refine lv_istore (lv' := [(13, .int (nI (bf9))), (12, .int (bB (fi9))), (11, .int (bB (is9))), (10, .int (nI (rs9))), (9, .int (nI (de9))), (8, .int (nI (re9))), (0, .ref (ad 0)), (1, .int (nI (3))), (2, .int (g)), (3, .ref (ad 27)), (4, .ref (ad 28)), (5, .ref (ad 29)), (6, .ref (ad 30)), (7, .ref (ad 31))]) hx hb dL_lays_671 hl (by decide) rfl (fun ls hl => ?_)
    refine lv_iload hx hb dL_lays_673 (lv_at hl 2 rfl) ?_
    refine zb_Beq (tgt := 696) hx hb dL_lays_675 (by decide) (fun c_41 => ?_) (fun c_41 => ?_)
    · skip
      subst c_41
      have hip : ¬ (re9 < 5) := fun z => absurd (his.mpr z) (by decide)
      refine lv_aload_n hx hb dL_lays_696 rfl (lv_at hl 6 rfl) ?_
      refine lv_iconst (v := nI 0) hx hb dL_lays_697 (by decide) ?_
      refine lv_iload hx hb dL_lays_698 (lv_at hl 5 rfl) ?_
      refine lv_iload hx hb dL_lays_700 (lv_at hl 4 rfl) ?_
      refine lv_iload hx hb dL_lays_702 (lv_at hl 3 rfl) ?_
      refine zz_i (vx_runSX (As := [.ref (ad 0), .int (nI (0)), .int (nI (re9)), .int (nI (de9)), .int (nI (rs9))]) (rest := []) ⟨hx, hb, hml, hown, hts⟩ (q_set0 l hfl hI.inv (by decide) hnd hAd (Nat.le_trans hz0 hS.1) hT  (nI (re9)) (nI (de9)) (nI (rs9))) (vx_cwSW 5 hts gL_lays_L_set rfl rfl rfl (by decide +kernel) (by decide)) (psV hK hP hX (fun a h1 h2 => hS.2.1 a h1 h2)) rfl rfl hl.1 rfl (lv_room (Nat.le_of_ble_eq_true rfl)) dL_lays_704 ⟨show 0 + 3 ≤ 10 by omega, show 0 + 18 ≤ 60 by omega⟩) hS (fun q _ h => h) (fun q h => h) (fun r9 u_42 t9 H locs ht9 hv9 hp9 hB9 hz1 hk1 hS => ?_)
      obtain ⟨e_42, hT⟩ := hp9
      have hP := hB9.2
      rw [ht9] at hP
      clear hB9 ht9 hv9 hz1 hk1
      have hcd_42 : cd2 (ixB (nI (re9)) 5 && ixB (nI (de9)) 12) (rgB (nI (rs9)) (nI 0) (nI 1000)) = 1 := cd2_1 (ix2_f (by omega) (by omega) (by omega) (by decide) (by decide))
      have eM_42 : moC (cd2 (ixB (nI (re9)) 5 && ixB (nI (de9)) 12) (rgB (nI (rs9)) (nI 0) (nI 1000))) (nx_response K (clN (nI (re9))) (clN (nI (de9))) (clN (nI (rs9)))) K = K := moC_n (by rw [hcd_42]; decide)
      rw [eM_42] at hP hT
      have e_42 := e_42.trans (rsc_1 hcd_42)
      subst e_42
      refine lv_iload hx hb dL_lays_707 (lv_at hl 2 rfl) ?_
      refine zb_Bne (tgt := 717) hx hb dL_lays_709 (by decide) (fun c_43 => False.elim (by revert c_43; decide)) (fun _ => ?_)
      refine lv_bipush (v := (-101)) hx hb dL_lays_712 (by decide) ?_
      refine lv_goto (tgt := 729) hx hb dL_lays_714 (by decide) ?_
      refine lv_icmp_ne (tgt := 736) hx hb dL_lays_729 (by decide) (fun c_44 => False.elim (by revert c_44; decide)) (fun _ => ?_)
      refine lv_iconst (v := nI 1) hx hb dL_lays_732 (by decide) ?_
      refine lv_goto (tgt := 737) hx hb dL_lays_733 (by decide) ?_
      exact hret (b := true) (u := (K, u_42.1, u_42.2)) (show 0 + 3 ≤ 10 by omega) (show 0 + 18 ≤ 60 by omega) ⟨rfl, hI, hT⟩ rfl hS (fun t ht hA => ⟨va_K.moved hA hK, by rw [ht]; exact hP⟩) dL_lays_737
    · skip
      subst c_41
      have hip := his.mp rfl
      have fbv := hI.inv.tb re9 (by omega) de9
      have ebf := hbf rfl
      subst ebf
      refine lv_iload hx hb dL_lays_678 (lv_at hl 1 rfl) ?_
      refine zb_Beq (tgt := 696) hx hb dL_lays_680 (by decide) (fun c_45 => ?_) (fun c_45 => ?_)
      · skip
        subst c_45
        have hfp : ¬ (rs9 < 1001) := fun z => absurd (hfi.mpr z) (by decide)
        refine lv_aload_n hx hb dL_lays_696 rfl (lv_at hl 6 rfl) ?_
        refine lv_iconst (v := nI 0) hx hb dL_lays_697 (by decide) ?_
        refine lv_iload hx hb dL_lays_698 (lv_at hl 5 rfl) ?_
        refine lv_iload hx hb dL_lays_700 (lv_at hl 4 rfl) ?_
        refine lv_iload hx hb dL_lays_702 (lv_at hl 3 rfl) ?_
        refine zz_i (vx_runSX (As := [.ref (ad 0), .int (nI (0)), .int (nI (re9)), .int (nI (de9)), .int (nI (rs9))]) (rest := []) ⟨hx, hb, hml, hown, hts⟩ (q_set0 l hfl hI.inv (by decide) hnd hAd (Nat.le_trans hz0 hS.1) hT  (nI (re9)) (nI (de9)) (nI (rs9))) (vx_cwSW 5 hts gL_lays_L_set rfl rfl rfl (by decide +kernel) (by decide)) (psV hK hP hX (fun a h1 h2 => hS.2.1 a h1 h2)) rfl rfl hl.1 rfl (lv_room (Nat.le_of_ble_eq_true rfl)) dL_lays_704 ⟨show 0 + 3 ≤ 10 by omega, show 0 + 18 ≤ 60 by omega⟩) hS (fun q _ h => h) (fun q h => h) (fun r9 u_46 t9 H locs ht9 hv9 hp9 hB9 hz1 hk1 hS => ?_)
        obtain ⟨e_46, hT⟩ := hp9
        have hP := hB9.2
        rw [ht9] at hP
        clear hB9 ht9 hv9 hz1 hk1
        have hcd_46 : cd2 (ixB (nI (re9)) 5 && ixB (nI (de9)) 12) (rgB (nI (rs9)) (nI 0) (nI 1000)) = 2 := cd2_2 (ix2_t (by omega) (by omega) (by decide) (by decide)) (rg_f (by omega) (by omega) (by decide) (by decide))
        have eM_46 : moC (cd2 (ixB (nI (re9)) 5 && ixB (nI (de9)) 12) (rgB (nI (rs9)) (nI 0) (nI 1000))) (nx_response K (clN (nI (re9))) (clN (nI (de9))) (clN (nI (rs9)))) K = K := moC_n (by rw [hcd_46]; decide)
        rw [eM_46] at hP hT
        have e_46 := e_46.trans (rsc_2 hcd_46)
        subst e_46
        refine lv_iload hx hb dL_lays_707 (lv_at hl 2 rfl) ?_
        refine zb_Bne (tgt := 717) hx hb dL_lays_709 (by decide) (fun _ => ?_) (fun c_47 => False.elim (by revert c_47; decide))
        refine lv_iload hx hb dL_lays_717 (lv_at hl 1 rfl) ?_
        refine zb_Beq (tgt := 727) hx hb dL_lays_719 (by decide) (fun _ => ?_) (fun c_48 => False.elim (by revert c_48; decide))
        refine lv_bipush (v := (-102)) hx hb dL_lays_727 (by decide) ?_
        refine lv_icmp_ne (tgt := 736) hx hb dL_lays_729 (by decide) (fun c_49 => False.elim (by revert c_49; decide)) (fun _ => ?_)
        refine lv_iconst (v := nI 1) hx hb dL_lays_732 (by decide) ?_
        refine lv_goto (tgt := 737) hx hb dL_lays_733 (by decide) ?_
        exact hret (b := true) (u := (K, u_46.1, u_46.2)) (show 0 + 3 ≤ 10 by omega) (show 0 + 18 ≤ 60 by omega) ⟨rfl, hI, hT⟩ rfl hS (fun t ht hA => ⟨va_K.moved hA hK, by rw [ht]; exact hP⟩) dL_lays_737
      · skip
        subst c_45
        have hfp := hfi.mp rfl
        refine lv_aload hx hb dL_lays_683 (lv_at hl 12 rfl) ?_
        refine lv_bipush (v := nI 12) hx hb dL_lays_685 (by decide) ?_
        refine lv_iload hx hb dL_lays_687 (lv_at hl 5 rfl) ?_
        refine zr_imul hx hb dL_lays_689 ?_
        refine lv_iload hx hb dL_lays_690 (lv_at hl 4 rfl) ?_
        refine zr_iadd hx hb dL_lays_692 ?_
        refine lv_iload hx hb dL_lays_693 (lv_at hl 3 rfl) ?_
        refine zi_st hx hb hK hP hnd hAd hS 30 (by decide) 0 rfl rfl (by decide) (i := ((12) * (re9)) + (de9)) (by omega) (wxE ad cI cJ cQ (K) (ts) (pu) (mup K (11 + 3 * (re9)) (de9) (rs9)) (X)) (wlS_t (by omega) (by omega)) dL_lays_695 (fun H locs hP hS => ?_)
        refine lv_aload_n hx hb dL_lays_696 rfl (lv_at hl 6 rfl) ?_
        refine lv_iconst (v := nI 0) hx hb dL_lays_697 (by decide) ?_
        refine lv_iload hx hb dL_lays_698 (lv_at hl 5 rfl) ?_
        refine lv_iload hx hb dL_lays_700 (lv_at hl 4 rfl) ?_
        refine lv_iload hx hb dL_lays_702 (lv_at hl 3 rfl) ?_
        refine zz_i (vx_runSX (As := [.ref (ad 0), .int (nI (0)), .int (nI (re9)), .int (nI (de9)), .int (nI (rs9))]) (rest := []) ⟨hx, hb, hml, hown, hts⟩ (q_set0 l hfl hI.inv (by decide) hnd hAd (Nat.le_trans hz0 hS.1) hT  (nI (re9)) (nI (de9)) (nI (rs9))) (vx_cwSW 5 hts gL_lays_L_set rfl rfl rfl (by decide +kernel) (by decide)) (psV hK hP hX (fun a h1 h2 => hS.2.1 a h1 h2)) rfl rfl hl.1 rfl (lv_room (Nat.le_of_ble_eq_true rfl)) dL_lays_704 ⟨show 0 + 3 ≤ 10 by omega, show 0 + 18 ≤ 60 by omega⟩) hS (fun q _ h => h) (fun q h => h) (fun r9 u_50 t9 H locs ht9 hv9 hp9 hB9 hz1 hk1 hS => ?_)
        obtain ⟨e_50, hT⟩ := hp9
        have hP := hB9.2
        rw [ht9] at hP
        clear hB9 ht9 hv9 hz1 hk1
        have hcd_50 : cd2 (ixB (nI (re9)) 5 && ixB (nI (de9)) 12) (rgB (nI (rs9)) (nI 0) (nI 1000)) = 0 := cd2_0 (ix2_t (by omega) (by omega) (by decide) (by decide)) (rg_t (by omega) (by omega) (by decide))
        have eM_50 : moC (cd2 (ixB (nI (re9)) 5 && ixB (nI (de9)) 12) (rgB (nI (rs9)) (nI 0) (nI 1000))) (nx_response K (clN (nI (re9))) (clN (nI (de9))) (clN (nI (rs9)))) K = nx_response K ((re9)) ((de9)) ((rs9)) := (moC_z hcd_50).trans (by first | rfl | simp only [clN_nI (show re9 < 2 ^ 31 by omega), clN_nI (show de9 < 2 ^ 31 by omega), clN_nI (show rs9 < 2 ^ 31 by omega)])
        rw [eM_50] at hP hT
        have e_50 := e_50.trans ((rsc_0 hcd_50).trans (show nI (K (11 + 3 * clN (nI (re9))) (clN (nI (de9)))) = nI (K (11 + 3 * (re9)) ((de9))) by first | rfl | simp only [clN_nI (show re9 < 2 ^ 31 by omega), clN_nI (show de9 < 2 ^ 31 by omega), clN_nI (show rs9 < 2 ^ 31 by omega)]))
        subst e_50
        refine lv_iload hx hb dL_lays_707 (lv_at hl 2 rfl) ?_
        refine zb_Bne (tgt := 717) hx hb dL_lays_709 (by decide) (fun _ => ?_) (fun c_51 => False.elim (by revert c_51; decide))
        refine lv_iload hx hb dL_lays_717 (lv_at hl 1 rfl) ?_
        refine zb_Beq (tgt := 727) hx hb dL_lays_719 (by decide) (fun c_52 => False.elim (by revert c_52; decide)) (fun _ => ?_)
        refine lv_iload hx hb dL_lays_722 (lv_at hl 0 rfl) ?_
        refine lv_goto (tgt := 729) hx hb dL_lays_724 (by decide) ?_
        refine zb_ne (tgt := 736) hx hb (by omega) (by omega) dL_lays_729 (by decide) (fun c_53 => ?_) (fun c_53 => ?_)
        · skip
          exact False.elim (by omega)
        · skip
          refine lv_iconst (v := nI 1) hx hb dL_lays_732 (by decide) ?_
          refine lv_goto (tgt := 737) hx hb dL_lays_733 (by decide) ?_
          exact hret (b := true) (u := (nx_response K ((re9)) ((de9)) ((rs9)), u_50.1, u_50.2)) (show 0 + 3 ≤ 10 by omega) (show 0 + 18 ≤ 60 by omega) ⟨rfl, (inl_response hI (by omega)), hT⟩ rfl hS (fun t ht hA => ⟨va_K.moved hA hK, by rw [ht]; exact hP⟩) dL_lays_737
