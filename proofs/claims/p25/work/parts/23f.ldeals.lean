set_option maxHeartbeats 4000000 in
set_option maxRecDepth 100000 in
/-- a trade is tried, and made -/
theorem l_deals (l : Launch) (hfl : l.stackTraces = false) {D : va_G} {ad : Nat → Nat} {cI cJ cQ : ClassId} {K : Mdl} {ts : Nat → Nat} {pu : Nat → Int64} {X : Nat → va_E} {sa : Nat → Nat} {sz z0 : Nat} (hI : Inl K) (hnd : ndz 37 ad) (hAd : ∀ i, i < 37 → zA z0 (ad i)) (hz0 : z0 ≤ sz) (hT : hTs K ts) (g : Int32)  : Met l yL_deals wsL_deals (rmX 4 20) (va_Pc [.ref (ad 0), .int (g), .ref (ad 27), .ref (ad 28), .ref (ad 29), .ref (ad 30), .ref (ad 31)] (KV D 37 ad cI cJ cQ (wxE ad cI cJ cQ K ts pu K X) sa (zA z0) sz)) (va_Qi (fun r_ (u_ : Mdl × (Nat → Nat) × (Nat → Int64)) => ∃ b : Bool, r_ = bB b ∧ (b = true ∧ Inl u_.1 ∧ hTs u_.1 u_.2.1)) (fun (u_ : Mdl × (Nat → Nat) × (Nat → Int64)) t_ => KA D 37 ad cI cJ cQ (wxE ad cI cJ cQ u_.1 u_.2.1 u_.2.2 u_.1 X) t_) (zA z0)) 20 120 (zA z0) := by
  refine mkW_Qz (S := Mdl × (Nat → Nat) × (Nat → Int64)) (post := fun b (u_ : Mdl × (Nat → Nat) × (Nat → Int64)) => b = true ∧ Inl u_.1 ∧ hTs u_.1 u_.2.1) (BQ := fun (u_ : Mdl × (Nat → Nat) × (Nat → Int64)) t_ => KA D 37 ad cI cJ cQ (wxE ad cI cJ cQ u_.1 u_.2.1 u_.2.2 u_.1 X) t_) (cc := cL_deals) (maxL := 14) (by decide) rfl (Nat.le_of_ble_eq_true rfl) ?_
  intro p e s m args below meth c Q C0 B0 hret ls hl
  obtain ⟨hx, hb, hr, hml, hown, hts, hlocks⟩ := C0
  have hown : s.vm.findClass RL = some m.cls := hown
  obtain ⟨hsz, hX, hK, hP⟩ := B0
  subst hsz
  have b_nw := hI.nw
  have b_nv := hI.nv
  have hS : va_S (zA z0) s.heap s.heap [] := va_S.rf
  have hl : lv_has ls 14 [(0, .ref (ad 0)), (1, .int (g)), (2, .ref (ad 27)), (3, .ref (ad 28)), (4, .ref (ad 29)), (5, .ref (ad 30)), (6, .ref (ad 31))] := hl
  suffices mg27 : ∀ (q9 : Int32), (q9 = -1 ∨ ∃ i : Nat, i ≤ K 0 0 ∧ q9 = nI i) → ∀ ls : Array Slot, lv_has ls 14 [(0, .ref (ad 0)), (1, .int (g)), (2, .ref (ad 27)), (3, .ref (ad 28)), (4, .ref (ad 29)), (5, .ref (ad 30)), (6, .ref (ad 31))] → W p l e (rmX 4 20) s m args below meth c s.heap [] (0) (0) Q (F0 m 27 ls [.int (q9)]) by
    refine lv_iload_n hx hb dL_deals_0 rfl (lv_at hl 1 rfl) ?_
    refine lv_aload_n hx hb dL_deals_1 rfl (lv_at hl 2 rfl) ?_
    refine lv_iconst (v := nI 0) hx hb dL_deals_2 (by decide) ?_
    refine zi_ld hx hb hK hP 27 (by decide) 0 rfl rfl (by decide) (i := 0) (by omega) (v := nI (K 0 0)) rfl dL_deals_3 ?_
    refine lv_iconst (v := nI 1) hx hb dL_deals_4 (by decide) ?_
    refine zr_iadd hx hb dL_deals_5 ?_
    refine vp_callSi (W.runS (As := [.int (g), .int (nI ((K 0 0) + (1)))]) (rest := []) ⟨hx, hb, hml, hown, hts⟩ (l_some l ((g)) (N := (K 0 0) + (1)) (by omega) (by omega)) (va_cwS 2 hts gL_deals_L_some rfl rfl rfl (by decide +kernel) (by decide)) (psN) rfl rfl hl.1 rfl (lv_room (Nat.le_of_ble_eq_true rfl)) dL_deals_6 (by decide)) (fun r_1 hr_1 => ?_)
    obtain ⟨r_1j, br_1, rfl⟩ := hr_1
    refine lv_iload_n hx hb dL_deals_9 rfl (lv_at hl 1 rfl) ?_
    refine lv_bipush (v := nI 9) hx hb dL_deals_10 (by decide) ?_
    refine lv_ishr hx hb dL_deals_12 ?_
    refine lv_bipush (v := nI 19) hx hb dL_deals_13 (by decide) ?_
    refine vp_callSi (W.runS (As := [.int ((g) >>> (nI (9) &&& 31)), .int (nI (19))]) (rest := [.int (nI (r_1j))]) ⟨hx, hb, hml, hown, hts⟩ (l_some l (((g) >>> (nI (9) &&& 31))) (N := 19) (by omega) (by omega)) (va_cwS 2 hts gL_deals_L_some rfl rfl rfl (by decide +kernel) (by decide)) (psN) rfl rfl hl.1 rfl (lv_room (Nat.le_of_ble_eq_true rfl)) dL_deals_15 (by decide)) (fun r_3 hr_3 => ?_)
    obtain ⟨r_3j, br_3, rfl⟩ := hr_3
    refine zb_0ne (tgt := 25) hx hb (by omega) dL_deals_18 (by decide) (fun c_4 => ?_) (fun c_4 => ?_)
    · skip
      refine lv_iconst (v := nI 0) hx hb dL_deals_25 (by decide) ?_
      refine lv_isub hx hb dL_deals_26 ?_
      exact mg27 (nI (r_1j) - nI (0)) (frm_0 (by omega)) _ (lv_sub hl [0, 1, 2, 3, 4, 5, 6] rfl)
    · skip
      refine lv_iconst (v := nI 1) hx hb dL_deals_21 (by decide) ?_
      refine lv_goto (tgt := 26) hx hb dL_deals_22 (by decide) ?_
      refine lv_isub hx hb dL_deals_26 ?_
      exact mg27 (nI (r_1j) - nI (1)) (frm_1 (by omega)) _ (lv_sub hl [0, 1, 2, 3, 4, 5, 6] rfl)
  intro q9 hq9 ls hl
  rcases hq9 with rfl | ⟨fr9, bfr, rfl⟩
  · skip
    refine lv_istore (lv' := [(7, .int (-1)), (0, .ref (ad 0)), (1, .int (g)), (2, .ref (ad 27)), (3, .ref (ad 28)), (4, .ref (ad 29)), (5, .ref (ad 30)), (6, .ref (ad 31))]) hx hb dL_deals_27 hl (by decide) rfl (fun ls hl => ?_)
    suffices mg40 : ∀ (to9 : Nat), (to9 ≤ K 0 0) → ∀ ls : Array Slot, lv_has ls 14 [(7, .int (-1)), (0, .ref (ad 0)), (1, .int (g)), (2, .ref (ad 27)), (3, .ref (ad 28)), (4, .ref (ad 29)), (5, .ref (ad 30)), (6, .ref (ad 31))] → W p l e (rmX 4 20) s m args below meth c s.heap [] (0) (0) Q (F0 m 40 ls [.int (nI (to9))]) by
      refine lv_iload_n hx hb dL_deals_29 rfl (lv_at hl 2 rfl) ?_
      refine lv_iconst (v := nI 4) hx hb dL_deals_30 (by decide) ?_
      refine lv_ishr hx hb dL_deals_31 ?_
      refine lv_aload_n hx hb dL_deals_32 rfl (lv_at hl 3 rfl) ?_
      refine lv_iconst (v := nI 0) hx hb dL_deals_33 (by decide) ?_
      refine zi_ld hx hb hK hP 27 (by decide) 0 rfl rfl (by decide) (i := 0) (by omega) (v := nI (K 0 0)) rfl dL_deals_34 ?_
      refine lv_iconst (v := nI 1) hx hb dL_deals_35 (by decide) ?_
      refine zr_iadd hx hb dL_deals_36 ?_
      refine vp_callSi (W.runS (As := [.int ((g) >>> (nI (4) &&& 31)), .int (nI ((K 0 0) + (1)))]) (rest := []) ⟨hx, hb, hml, hown, hts⟩ (l_some l (((g) >>> (nI (4) &&& 31))) (N := (K 0 0) + (1)) (by omega) (by omega)) (va_cwS 2 hts gL_deals_L_some rfl rfl rfl (by decide +kernel) (by decide)) (psN) rfl rfl hl.1 rfl (lv_room (Nat.le_of_ble_eq_true rfl)) dL_deals_37 (by decide)) (fun r_6 hr_6 => ?_)
      obtain ⟨r_6j, br_6, rfl⟩ := hr_6
      exact mg40 (r_6j) (by omega) _ (lv_sub hl [0, 1, 2, 3, 4, 5, 6, 7] rfl)
    intro to9 hto ls hl
    refine lv_istore (lv' := [(8, .int (nI (to9))), (7, .int (-1)), (0, .ref (ad 0)), (1, .int (g)), (2, .ref (ad 27)), (3, .ref (ad 28)), (4, .ref (ad 29)), (5, .ref (ad 30)), (6, .ref (ad 31))]) hx hb dL_deals_40 hl (by decide) rfl (fun ls hl => ?_)
    suffices mg68 : ∀ (ar9 : Bool), (ar9 = true ↔ (False)) → ∀ ls : Array Slot, lv_has ls 14 [(8, .int (nI (to9))), (7, .int (-1)), (0, .ref (ad 0)), (1, .int (g)), (2, .ref (ad 27)), (3, .ref (ad 28)), (4, .ref (ad 29)), (5, .ref (ad 30)), (6, .ref (ad 31))] → W p l e (rmX 4 20) s m args below meth c s.heap [] (0) (0) Q (F0 m 68 ls [.int (bB (ar9))]) by
      refine lv_iload hx hb dL_deals_42 (lv_at hl 1 rfl) ?_
      refine lv_if_lt (tgt := 67) hx hb dL_deals_44 (by decide) (fun _ => ?_) (fun c_7 => False.elim (by revert c_7; decide))
      refine lv_iconst (v := nI 0) hx hb dL_deals_67 (by decide) ?_
      refine zt_i (y := bB (false)) rfl ?_
      exact mg68 (false) (iff_of_false (by decide) (fun z => z)) _ (lv_sub hl [0, 1, 2, 3, 4, 5, 6, 7, 8] rfl)
    intro ar9 har ls hl
    refine lv_istore (lv' := [(9, .int (bB (ar9))), (8, .int (nI (to9))), (7, .int (-1)), (0, .ref (ad 0)), (1, .int (g)), (2, .ref (ad 27)), (3, .ref (ad 28)), (4, .ref (ad 29)), (5, .ref (ad 30)), (6, .ref (ad 31))]) hx hb dL_deals_68 hl (by decide) rfl (fun ls hl => ?_)
    cases ar9
    · skip
      refine lv_iconst (v := nI 0) hx hb dL_deals_70 (by decide) ?_
      refine lv_istore (lv' := [(10, .int (nI (0))), (9, .int (bB (false))), (8, .int (nI (to9))), (7, .int (-1)), (0, .ref (ad 0)), (1, .int (g)), (2, .ref (ad 27)), (3, .ref (ad 28)), (4, .ref (ad 29)), (5, .ref (ad 30)), (6, .ref (ad 31))]) hx hb dL_deals_71 hl (by decide) rfl (fun ls hl => ?_)
      refine lv_iconst (v := nI 1) hx hb dL_deals_73 (by decide) ?_
      refine lv_istore (lv' := [(11, .int (nI (1))), (10, .int (nI (0))), (9, .int (bB (false))), (8, .int (nI (to9))), (7, .int (-1)), (0, .ref (ad 0)), (1, .int (g)), (2, .ref (ad 27)), (3, .ref (ad 28)), (4, .ref (ad 29)), (5, .ref (ad 30)), (6, .ref (ad 31))]) hx hb dL_deals_74 hl (by decide) rfl (fun ls hl => ?_)
      refine lv_iload hx hb dL_deals_76 (lv_at hl 0 rfl) ?_
      refine lv_sipush (v := nI 700) hx hb dL_deals_78 (by decide) ?_
      refine lv_icmp_ge (tgt := 131) hx hb dL_deals_81 (by decide) (fun c_8 => False.elim (by revert c_8; decide)) (fun _ => ?_)
      refine lv_iload hx hb dL_deals_84 (lv_at hl 2 rfl) ?_
      refine zb_Beq (tgt := 131) hx hb dL_deals_86 (by decide) (fun _ => ?_) (fun c_9 => False.elim (by revert c_9; decide))
      refine lv_iload hx hb dL_deals_131 (lv_at hl 2 rfl) ?_
      refine zb_Beq (tgt := 158) hx hb dL_deals_133 (by decide) (fun _ => ?_) (fun c_10 => False.elim (by revert c_10; decide))
      refine lv_aload_n hx hb dL_deals_158 rfl (lv_at hl 5 rfl) ?_
      refine lv_iload hx hb dL_deals_159 (lv_at hl 4 rfl) ?_
      refine lv_iload hx hb dL_deals_161 (lv_at hl 3 rfl) ?_
      refine zz_i (vx_runSX (As := [.ref (ad 0), .int (-1), .int (nI (to9))]) (rest := []) ⟨hx, hb, hml, hown, hts⟩ (q_most l hfl hI.inv (by decide) hnd hAd (Nat.le_trans hz0 hS.1) hT  ((-1)) (nI (to9))) (vx_cwSW 3 hts gL_deals_L_most rfl rfl rfl (by decide +kernel) (by decide)) (psV hK hP hX (fun a h1 h2 => hS.2.1 a h1 h2)) rfl rfl hl.1 rfl (lv_room (Nat.le_of_ble_eq_true rfl)) dL_deals_163 ⟨show 0 + 3 ≤ 20 by omega, show 0 + 18 ≤ 120 by omega⟩) hS (fun q _ h => h) (fun q h => h) (fun r9 u_11 t9 H locs ht9 hv9 hp9 hB9 hz1 hk1 hS => ?_)
      obtain ⟨e_11, hT⟩ := hp9
      have hP := hB9.2
      rw [ht9] at hP
      clear hB9 ht9 hv9 hz1 hk1
      have hcd_11 : cd2 (ixB ((-1)) (K 0 0) && ixB (nI (to9)) (K 0 0)) (decide (((-1)) ≠ (nI (to9)))) = 1 := cd2_1 ix2_m
      have e_11 := e_11.trans (rsc_1 hcd_11)
      subst e_11
      refine lv_iload hx hb dL_deals_166 (lv_at hl 2 rfl) ?_
      refine zb_Bne (tgt := 176) hx hb dL_deals_168 (by decide) (fun c_12 => False.elim (by revert c_12; decide)) (fun _ => ?_)
      refine lv_bipush (v := (-101)) hx hb dL_deals_171 (by decide) ?_
      refine lv_goto (tgt := 190) hx hb dL_deals_173 (by decide) ?_
      refine lv_icmp_eq (tgt := 195) hx hb dL_deals_190 (by decide) (fun _ => ?_) (fun c_13 => False.elim (by revert c_13; decide))
      suffices mg252 : ∀ (un9 : Nat), (un9 ≤ 5001) → ∀ ls : Array Slot, lv_has ls 14 [(11, .int (nI (1))), (10, .int (nI (0))), (9, .int (bB (false))), (8, .int (nI (to9))), (7, .int (-1)), (0, .ref (ad 0)), (1, .int (g)), (2, .ref (ad 27)), (3, .ref (ad 28)), (4, .ref (ad 29)), (5, .ref (ad 30)), (6, .ref (ad 31))] → W p l e (rmX 4 20) s m args below meth c H locs (0 + 3) (0 + 18) Q (F0 m 252 ls [.int (nI (un9))]) by
        refine lv_iload_n hx hb dL_deals_195 rfl (lv_at hl 6 rfl) ?_
        refine lv_bipush (v := nI 7) hx hb dL_deals_196 (by decide) ?_
        refine lv_ishr hx hb dL_deals_198 ?_
        refine lv_bipush (v := nI 30) hx hb dL_deals_199 (by decide) ?_
        refine vp_callSi (W.runS (As := [.int ((g) >>> (nI (7) &&& 31)), .int (nI (30))]) (rest := []) ⟨hx, hb, hml, hown, hts⟩ (l_some l (((g) >>> (nI (7) &&& 31))) (N := 30) (by omega) (by omega)) (va_cwS 2 hts gL_deals_L_some rfl rfl rfl (by decide +kernel) (by decide)) (psN) rfl rfl hl.1 rfl (lv_room (Nat.le_of_ble_eq_true rfl)) dL_deals_201 ⟨show 0 + 3 + 0 ≤ 20 by omega, show 0 + 18 + 0 ≤ 120 by omega⟩) (fun r_15 hr_15 => ?_)
        obtain ⟨r_15j, br_15, rfl⟩ := hr_15
        refine zb_0ne (tgt := 219) hx hb (by omega) dL_deals_204 (by decide) (fun c_16 => ?_) (fun c_16 => ?_)
        · skip
          refine lv_iload_n hx hb dL_deals_219 rfl (lv_at hl 6 rfl) ?_
          refine lv_bipush (v := nI 7) hx hb dL_deals_220 (by decide) ?_
          refine lv_ishr hx hb dL_deals_222 ?_
          refine lv_iconst (v := nI 2) hx hb dL_deals_223 (by decide) ?_
          refine vp_callSi (W.runS (As := [.int ((g) >>> (nI (7) &&& 31)), .int (nI (2))]) (rest := []) ⟨hx, hb, hml, hown, hts⟩ (l_some l (((g) >>> (nI (7) &&& 31))) (N := 2) (by omega) (by omega)) (va_cwS 2 hts gL_deals_L_some rfl rfl rfl (by decide +kernel) (by decide)) (psN) rfl rfl hl.1 rfl (lv_room (Nat.le_of_ble_eq_true rfl)) dL_deals_224 ⟨show 0 + 3 + 0 ≤ 20 by omega, show 0 + 18 + 0 ≤ 120 by omega⟩) (fun r_18 hr_18 => ?_)
          obtain ⟨r_18j, br_18, rfl⟩ := hr_18
          refine zb_0ne (tgt := 240) hx hb (by omega) dL_deals_227 (by decide) (fun c_19 => ?_) (fun c_19 => ?_)
          · skip
            refine lv_iconst (v := nI 1) hx hb dL_deals_240 (by decide) ?_
            refine lv_iload_n hx hb dL_deals_241 rfl (lv_at hl 6 rfl) ?_
            refine lv_bipush (v := nI 6) hx hb dL_deals_242 (by decide) ?_
            refine lv_ishr hx hb dL_deals_244 ?_
            refine lv_sipush (v := nI 200) hx hb dL_deals_245 (by decide) ?_
            refine vp_callSi (W.runS (As := [.int ((g) >>> (nI (6) &&& 31)), .int (nI (200))]) (rest := [.int (nI (1))]) ⟨hx, hb, hml, hown, hts⟩ (l_some l (((g) >>> (nI (6) &&& 31))) (N := 200) (by omega) (by omega)) (va_cwS 2 hts gL_deals_L_some rfl rfl rfl (by decide +kernel) (by decide)) (psN) rfl rfl hl.1 rfl (lv_room (Nat.le_of_ble_eq_true rfl)) dL_deals_248 ⟨show 0 + 3 + 0 ≤ 20 by omega, show 0 + 18 + 0 ≤ 120 by omega⟩) (fun r_21 hr_21 => ?_)
            obtain ⟨r_21j, br_21, rfl⟩ := hr_21
            refine zr_iadd hx hb dL_deals_251 ?_
            exact mg252 ((1) + (r_21j)) (by omega) _ (lv_sub hl [0, 1, 2, 3, 4, 5, 6, 7, 8, 9, 10, 11] rfl)
          · skip
            refine lv_iload hx hb dL_deals_230 (lv_at hl 1 rfl) ?_
            refine lv_if_le (tgt := 240) hx hb dL_deals_232 (by decide) (fun _ => ?_) (fun c_22 => False.elim (by revert c_22; decide))
            refine lv_iconst (v := nI 1) hx hb dL_deals_240 (by decide) ?_
            refine lv_iload_n hx hb dL_deals_241 rfl (lv_at hl 6 rfl) ?_
            refine lv_bipush (v := nI 6) hx hb dL_deals_242 (by decide) ?_
            refine lv_ishr hx hb dL_deals_244 ?_
            refine lv_sipush (v := nI 200) hx hb dL_deals_245 (by decide) ?_
            refine vp_callSi (W.runS (As := [.int ((g) >>> (nI (6) &&& 31)), .int (nI (200))]) (rest := [.int (nI (1))]) ⟨hx, hb, hml, hown, hts⟩ (l_some l (((g) >>> (nI (6) &&& 31))) (N := 200) (by omega) (by omega)) (va_cwS 2 hts gL_deals_L_some rfl rfl rfl (by decide +kernel) (by decide)) (psN) rfl rfl hl.1 rfl (lv_room (Nat.le_of_ble_eq_true rfl)) dL_deals_248 ⟨show 0 + 3 + 0 ≤ 20 by omega, show 0 + 18 + 0 ≤ 120 by omega⟩) (fun r_24 hr_24 => ?_)
            obtain ⟨r_24j, br_24, rfl⟩ := hr_24
            refine zr_iadd hx hb dL_deals_251 ?_
            exact mg252 ((1) + (r_24j)) (by omega) _ (lv_sub hl [0, 1, 2, 3, 4, 5, 6, 7, 8, 9, 10, 11] rfl)
        · skip
          refine lv_sipush (v := nI 5001) hx hb dL_deals_207 (by decide) ?_
          refine lv_iload_n hx hb dL_deals_210 rfl (lv_at hl 6 rfl) ?_
          refine lv_iconst (v := nI 2) hx hb dL_deals_211 (by decide) ?_
          refine vp_callSi (W.runS (As := [.int (g), .int (nI (2))]) (rest := [.int (nI (5001))]) ⟨hx, hb, hml, hown, hts⟩ (l_some l ((g)) (N := 2) (by omega) (by omega)) (va_cwS 2 hts gL_deals_L_some rfl rfl rfl (by decide +kernel) (by decide)) (psN) rfl rfl hl.1 rfl (lv_room (Nat.le_of_ble_eq_true rfl)) dL_deals_212 ⟨show 0 + 3 + 0 ≤ 20 by omega, show 0 + 18 + 0 ≤ 120 by omega⟩) (fun r_25 hr_25 => ?_)
          obtain ⟨r_25j, br_25, rfl⟩ := hr_25
          refine zr_imul hx hb dL_deals_215 ?_
          refine lv_goto (tgt := 252) hx hb dL_deals_216 (by decide) ?_
          exact mg252 ((5001) * (r_25j)) (by omega) _ (lv_sub hl [0, 1, 2, 3, 4, 5, 6, 7, 8, 9, 10, 11] rfl)
      intro un9 hun ls hl
      refine lv_istore (lv' := [(11, .int (nI (un9))), (10, .int (nI (0))), (9, .int (bB (false))), (8, .int (nI (to9))), (7, .int (-1)), (0, .ref (ad 0)), (1, .int (g)), (2, .ref (ad 27)), (3, .ref (ad 28)), (4, .ref (ad 29)), (5, .ref (ad 30)), (6, .ref (ad 31))]) hx hb dL_deals_252 hl (by decide) rfl (fun ls hl => ?_)
      suffices mg279 : ∀ (fi9 : Bool), ∀ ls : Array Slot, lv_has ls 14 [(11, .int (nI (un9))), (10, .int (nI (0))), (9, .int (bB (false))), (8, .int (nI (to9))), (7, .int (-1)), (0, .ref (ad 0)), (1, .int (g)), (2, .ref (ad 27)), (3, .ref (ad 28)), (4, .ref (ad 29)), (5, .ref (ad 30)), (6, .ref (ad 31))] → W p l e (rmX 4 20) s m args below meth c H locs (0 + 3) (0 + 18) Q (F0 m 279 ls [.int (bB (fi9))]) by
        refine lv_iload hx hb dL_deals_254 (lv_at hl 4 rfl) ?_
        refine lv_iload hx hb dL_deals_256 (lv_at hl 3 rfl) ?_
        refine lv_icmp_eq (tgt := 278) hx hb dL_deals_258 (by decide) (fun c_26 => ?_) (fun c_26 => ?_)
        · skip
          refine lv_iconst (v := nI 0) hx hb dL_deals_278 (by decide) ?_
          refine zt_i (y := bB (false)) rfl ?_
          exact mg279 (false) _ (lv_sub hl [0, 1, 2, 3, 4, 5, 6, 7, 8, 9, 10, 11] rfl)
        · skip
          refine lv_iload hx hb dL_deals_261 (lv_at hl 0 rfl) ?_
          refine zb_0le (tgt := 278) hx hb (by omega) dL_deals_263 (by decide) (fun c_27 => ?_) (fun c_27 => ?_)
          · skip
            refine lv_iconst (v := nI 0) hx hb dL_deals_278 (by decide) ?_
            refine zt_i (y := bB (false)) rfl ?_
            exact mg279 (false) _ (lv_sub hl [0, 1, 2, 3, 4, 5, 6, 7, 8, 9, 10, 11] rfl)
          · skip
            refine lv_iload hx hb dL_deals_266 (lv_at hl 0 rfl) ?_
            refine lv_sipush (v := nI 5001) hx hb dL_deals_268 (by decide) ?_
            refine zb_ge (tgt := 278) hx hb (by omega) (by omega) dL_deals_271 (by decide) (fun c_28 => ?_) (fun c_28 => ?_)
            · skip
              refine lv_iconst (v := nI 0) hx hb dL_deals_278 (by decide) ?_
              refine zt_i (y := bB (false)) rfl ?_
              exact mg279 (false) _ (lv_sub hl [0, 1, 2, 3, 4, 5, 6, 7, 8, 9, 10, 11] rfl)
            · skip
              refine lv_iconst (v := nI 1) hx hb dL_deals_274 (by decide) ?_
              refine lv_goto (tgt := 279) hx hb dL_deals_275 (by decide) ?_
              refine zt_i (y := bB (true)) rfl ?_
              exact mg279 (true) _ (lv_sub hl [0, 1, 2, 3, 4, 5, 6, 7, 8, 9, 10, 11] rfl)
      intro fi9 ls hl
      refine lv_istore (lv' := [(12, .int (bB (fi9))), (11, .int (nI (un9))), (10, .int (nI (0))), (9, .int (bB (false))), (8, .int (nI (to9))), (7, .int (-1)), (0, .ref (ad 0)), (1, .int (g)), (2, .ref (ad 27)), (3, .ref (ad 28)), (4, .ref (ad 29)), (5, .ref (ad 30)), (6, .ref (ad 31))]) hx hb dL_deals_279 hl (by decide) rfl (fun ls hl => ?_)
      refine lv_iload hx hb dL_deals_281 (lv_at hl 3 rfl) ?_
      refine zb_Beq (tgt := 311) hx hb dL_deals_283 (by decide) (fun _ => ?_) (fun c_29 => False.elim (by revert c_29; decide))
      refine lv_iconst (v := (-1)) hx hb dL_deals_311 (by decide) ?_
      refine lv_istore (lv' := [(13, .int (-1)), (12, .int (bB (fi9))), (11, .int (nI (un9))), (10, .int (nI (0))), (9, .int (bB (false))), (8, .int (nI (to9))), (7, .int (-1)), (0, .ref (ad 0)), (1, .int (g)), (2, .ref (ad 27)), (3, .ref (ad 28)), (4, .ref (ad 29)), (5, .ref (ad 30)), (6, .ref (ad 31))]) hx hb dL_deals_312 hl (by decide) rfl (fun ls hl => ?_)
      refine lv_iload hx hb dL_deals_314 (lv_at hl 0 rfl) ?_
      refine lv_if_lt (tgt := 343) hx hb dL_deals_316 (by decide) (fun _ => ?_) (fun c_30 => False.elim (by revert c_30; decide))
      refine lv_aload_n hx hb dL_deals_343 rfl (lv_at hl 7 rfl) ?_
      refine lv_iload hx hb dL_deals_344 (lv_at hl 6 rfl) ?_
      refine lv_iload hx hb dL_deals_346 (lv_at hl 5 rfl) ?_
      refine lv_iload hx hb dL_deals_348 (lv_at hl 2 rfl) ?_
      refine zz_i (vx_runSX (As := [.ref (ad 0), .int (-1), .int (nI (to9)), .int (nI (un9))]) (rest := []) ⟨hx, hb, hml, hown, hts⟩ (q_traded l hfl hI.inv (by decide) hnd hAd (Nat.le_trans hz0 hS.1) hT  ((-1)) (nI (to9)) (nI (un9))) (vx_cwSW 4 hts gL_deals_L_traded rfl rfl rfl (by decide +kernel) (by decide)) (psV hK hP hX (fun a h1 h2 => hS.2.1 a h1 h2)) rfl rfl hl.1 rfl (lv_room (Nat.le_of_ble_eq_true rfl)) dL_deals_350 ⟨show 0 + 3 + 5 ≤ 20 by omega, show 0 + 18 + 30 ≤ 120 by omega⟩) hS (fun q _ h => h) (fun q h => h) (fun r9 u_31 t9 H locs ht9 hv9 hp9 hB9 hz1 hk1 hS => ?_)
      obtain ⟨e_31, hT⟩ := hp9
      have hP := hB9.2
      rw [ht9] at hP
      clear hB9 ht9 hv9 hz1 hk1
      have hcd_31 : cd3 (ixB ((-1)) (K 0 0) && ixB (nI (to9)) (K 0 0)) (decide (((-1)) ≠ (nI (to9))) && rgB (nI (un9)) (nI 1) (nI 5000)) (cn K (clN ((-1))) (clN (nI (to9))) (clN (nI (un9)))) = 1 := cd3_1 ix2_m
      have eM_31 : moC (cd3 (ixB ((-1)) (K 0 0) && ixB (nI (to9)) (K 0 0)) (decide (((-1)) ≠ (nI (to9))) && rgB (nI (un9)) (nI 1) (nI 5000)) (cn K (clN ((-1))) (clN (nI (to9))) (clN (nI (un9))))) (nx_trade K (clN ((-1))) (clN (nI (to9))) (clN (nI (un9)))) K = K := moC_n (by rw [hcd_31]; decide)
      rw [eM_31] at hP hT
      have e_31 := e_31.trans (rsc_1 hcd_31)
      subst e_31
      refine lv_iload hx hb dL_deals_353 (lv_at hl 4 rfl) ?_
      refine zb_Bne (tgt := 363) hx hb dL_deals_355 (by decide) (fun c_32 => False.elim (by revert c_32; decide)) (fun _ => ?_)
      refine lv_bipush (v := (-101)) hx hb dL_deals_358 (by decide) ?_
      refine lv_goto (tgt := 385) hx hb dL_deals_360 (by decide) ?_
      refine lv_icmp_ne (tgt := 392) hx hb dL_deals_385 (by decide) (fun c_33 => False.elim (by revert c_33; decide)) (fun _ => ?_)
      refine lv_iconst (v := nI 1) hx hb dL_deals_388 (by decide) ?_
      refine lv_goto (tgt := 393) hx hb dL_deals_389 (by decide) ?_
      exact hret (b := true) (u := (K, u_31.1, u_31.2)) (show 0 + 3 + 5 ≤ 20 by omega) (show 0 + 18 + 30 ≤ 120 by omega) ⟨rfl, hI, hT⟩ rfl hS (fun t ht hA => ⟨va_K.moved hA hK, by rw [ht]; exact hP⟩) dL_deals_393
    · skip
      exact (har.mp rfl).elim
  · skip
    refine lv_istore (lv' := [(7, .int (nI (fr9))), (0, .ref (ad 0)), (1, .int (g)), (2, .ref (ad 27)), (3, .ref (ad 28)), (4, .ref (ad 29)), (5, .ref (ad 30)), (6, .ref (ad 31))]) hx hb dL_deals_27 hl (by decide) rfl (fun ls hl => ?_)
    suffices mg40 : ∀ (to9 : Nat), (to9 ≤ K 0 0) → ∀ ls : Array Slot, lv_has ls 14 [(7, .int (nI (fr9))), (0, .ref (ad 0)), (1, .int (g)), (2, .ref (ad 27)), (3, .ref (ad 28)), (4, .ref (ad 29)), (5, .ref (ad 30)), (6, .ref (ad 31))] → W p l e (rmX 4 20) s m args below meth c s.heap [] (0) (0) Q (F0 m 40 ls [.int (nI (to9))]) by
      refine lv_iload_n hx hb dL_deals_29 rfl (lv_at hl 2 rfl) ?_
      refine lv_iconst (v := nI 4) hx hb dL_deals_30 (by decide) ?_
      refine lv_ishr hx hb dL_deals_31 ?_
      refine lv_aload_n hx hb dL_deals_32 rfl (lv_at hl 3 rfl) ?_
      refine lv_iconst (v := nI 0) hx hb dL_deals_33 (by decide) ?_
      refine zi_ld hx hb hK hP 27 (by decide) 0 rfl rfl (by decide) (i := 0) (by omega) (v := nI (K 0 0)) rfl dL_deals_34 ?_
      refine lv_iconst (v := nI 1) hx hb dL_deals_35 (by decide) ?_
      refine zr_iadd hx hb dL_deals_36 ?_
      refine vp_callSi (W.runS (As := [.int ((g) >>> (nI (4) &&& 31)), .int (nI ((K 0 0) + (1)))]) (rest := []) ⟨hx, hb, hml, hown, hts⟩ (l_some l (((g) >>> (nI (4) &&& 31))) (N := (K 0 0) + (1)) (by omega) (by omega)) (va_cwS 2 hts gL_deals_L_some rfl rfl rfl (by decide +kernel) (by decide)) (psN) rfl rfl hl.1 rfl (lv_room (Nat.le_of_ble_eq_true rfl)) dL_deals_37 (by decide)) (fun r_35 hr_35 => ?_)
      obtain ⟨r_35j, br_35, rfl⟩ := hr_35
      exact mg40 (r_35j) (by omega) _ (lv_sub hl [0, 1, 2, 3, 4, 5, 6, 7] rfl)
    intro to9 hto ls hl
    refine lv_istore (lv' := [(8, .int (nI (to9))), (7, .int (nI (fr9))), (0, .ref (ad 0)), (1, .int (g)), (2, .ref (ad 27)), (3, .ref (ad 28)), (4, .ref (ad 29)), (5, .ref (ad 30)), (6, .ref (ad 31))]) hx hb dL_deals_40 hl (by decide) rfl (fun ls hl => ?_)
    suffices mg68 : ∀ (ar9 : Bool), (ar9 = true ↔ (fr9 < K 0 0 ∧ to9 < K 0 0)) → ∀ ls : Array Slot, lv_has ls 14 [(8, .int (nI (to9))), (7, .int (nI (fr9))), (0, .ref (ad 0)), (1, .int (g)), (2, .ref (ad 27)), (3, .ref (ad 28)), (4, .ref (ad 29)), (5, .ref (ad 30)), (6, .ref (ad 31))] → W p l e (rmX 4 20) s m args below meth c s.heap [] (0) (0) Q (F0 m 68 ls [.int (bB (ar9))]) by
      refine lv_iload hx hb dL_deals_42 (lv_at hl 1 rfl) ?_
      refine zb_0lt (tgt := 67) hx hb (by omega) dL_deals_44 (by decide) ?_
      refine lv_iload hx hb dL_deals_47 (lv_at hl 1 rfl) ?_
      refine lv_aload_n hx hb dL_deals_49 rfl (lv_at hl 4 rfl) ?_
      refine lv_iconst (v := nI 0) hx hb dL_deals_50 (by decide) ?_
      refine zi_ld hx hb hK hP 27 (by decide) 0 rfl rfl (by decide) (i := 0) (by omega) (v := nI (K 0 0)) rfl dL_deals_51 ?_
      refine zb_ge (tgt := 67) hx hb (by omega) (by omega) dL_deals_52 (by decide) (fun c_37 => ?_) (fun c_37 => ?_)
      · skip
        refine lv_iconst (v := nI 0) hx hb dL_deals_67 (by decide) ?_
        refine zt_i (y := bB (false)) rfl ?_
        exact mg68 (false) (iff_of_false (by decide) (by omega)) _ (lv_sub hl [0, 1, 2, 3, 4, 5, 6, 7, 8] rfl)
      · skip
        refine lv_iload hx hb dL_deals_55 (lv_at hl 0 rfl) ?_
        refine lv_aload_n hx hb dL_deals_57 rfl (lv_at hl 4 rfl) ?_
        refine lv_iconst (v := nI 0) hx hb dL_deals_58 (by decide) ?_
        refine zi_ld hx hb hK hP 27 (by decide) 0 rfl rfl (by decide) (i := 0) (by omega) (v := nI (K 0 0)) rfl dL_deals_59 ?_
        refine zb_ge (tgt := 67) hx hb (by omega) (by omega) dL_deals_60 (by decide) (fun c_38 => ?_) (fun c_38 => ?_)
        · skip
          refine lv_iconst (v := nI 0) hx hb dL_deals_67 (by decide) ?_
          refine zt_i (y := bB (false)) rfl ?_
          exact mg68 (false) (iff_of_false (by decide) (by omega)) _ (lv_sub hl [0, 1, 2, 3, 4, 5, 6, 7, 8] rfl)
        · skip
          refine lv_iconst (v := nI 1) hx hb dL_deals_63 (by decide) ?_
          refine lv_goto (tgt := 68) hx hb dL_deals_64 (by decide) ?_
          refine zt_i (y := bB (true)) rfl ?_
          exact mg68 (true) (iff_of_true rfl (by omega)) _ (lv_sub hl [0, 1, 2, 3, 4, 5, 6, 7, 8] rfl)
    intro ar9 har ls hl
    refine lv_istore (lv' := [(9, .int (bB (ar9))), (8, .int (nI (to9))), (7, .int (nI (fr9))), (0, .ref (ad 0)), (1, .int (g)), (2, .ref (ad 27)), (3, .ref (ad 28)), (4, .ref (ad 29)), (5, .ref (ad 30)), (6, .ref (ad 31))]) hx hb dL_deals_68 hl (by decide) rfl (fun ls hl => ?_)
    cases ar9
    · skip
      have hap : ¬ (fr9 < K 0 0 ∧ to9 < K 0 0) := fun z => absurd (har.mpr z) (by decide)
      refine lv_iconst (v := nI 0) hx hb dL_deals_70 (by decide) ?_
      refine lv_istore (lv' := [(10, .int (nI (0))), (9, .int (bB (false))), (8, .int (nI (to9))), (7, .int (nI (fr9))), (0, .ref (ad 0)), (1, .int (g)), (2, .ref (ad 27)), (3, .ref (ad 28)), (4, .ref (ad 29)), (5, .ref (ad 30)), (6, .ref (ad 31))]) hx hb dL_deals_71 hl (by decide) rfl (fun ls hl => ?_)
      refine lv_iconst (v := nI 1) hx hb dL_deals_73 (by decide) ?_
      refine lv_istore (lv' := [(11, .int (nI (1))), (10, .int (nI (0))), (9, .int (bB (false))), (8, .int (nI (to9))), (7, .int (nI (fr9))), (0, .ref (ad 0)), (1, .int (g)), (2, .ref (ad 27)), (3, .ref (ad 28)), (4, .ref (ad 29)), (5, .ref (ad 30)), (6, .ref (ad 31))]) hx hb dL_deals_74 hl (by decide) rfl (fun ls hl => ?_)
      refine lv_iload hx hb dL_deals_76 (lv_at hl 0 rfl) ?_
      refine lv_sipush (v := nI 700) hx hb dL_deals_78 (by decide) ?_
      refine lv_icmp_ge (tgt := 131) hx hb dL_deals_81 (by decide) (fun c_39 => False.elim (by revert c_39; decide)) (fun _ => ?_)
      refine lv_iload hx hb dL_deals_84 (lv_at hl 2 rfl) ?_
      refine zb_Beq (tgt := 131) hx hb dL_deals_86 (by decide) (fun _ => ?_) (fun c_40 => False.elim (by revert c_40; decide))
      refine lv_iload hx hb dL_deals_131 (lv_at hl 2 rfl) ?_
      refine zb_Beq (tgt := 158) hx hb dL_deals_133 (by decide) (fun _ => ?_) (fun c_41 => False.elim (by revert c_41; decide))
      refine lv_aload_n hx hb dL_deals_158 rfl (lv_at hl 5 rfl) ?_
      refine lv_iload hx hb dL_deals_159 (lv_at hl 4 rfl) ?_
      refine lv_iload hx hb dL_deals_161 (lv_at hl 3 rfl) ?_
      refine zz_i (vx_runSX (As := [.ref (ad 0), .int (nI (fr9)), .int (nI (to9))]) (rest := []) ⟨hx, hb, hml, hown, hts⟩ (q_most l hfl hI.inv (by decide) hnd hAd (Nat.le_trans hz0 hS.1) hT  (nI (fr9)) (nI (to9))) (vx_cwSW 3 hts gL_deals_L_most rfl rfl rfl (by decide +kernel) (by decide)) (psV hK hP hX (fun a h1 h2 => hS.2.1 a h1 h2)) rfl rfl hl.1 rfl (lv_room (Nat.le_of_ble_eq_true rfl)) dL_deals_163 ⟨show 0 + 3 ≤ 20 by omega, show 0 + 18 ≤ 120 by omega⟩) hS (fun q _ h => h) (fun q h => h) (fun r9 u_42 t9 H locs ht9 hv9 hp9 hB9 hz1 hk1 hS => ?_)
      obtain ⟨e_42, hT⟩ := hp9
      have hP := hB9.2
      rw [ht9] at hP
      clear hB9 ht9 hv9 hz1 hk1
      have hcd_42 : cd2 (ixB (nI (fr9)) (K 0 0) && ixB (nI (to9)) (K 0 0)) (decide ((nI (fr9)) ≠ (nI (to9)))) = 1 := cd2_1 (ix2_f (by omega) (by omega) (by omega) (by omega) (by omega))
      have e_42 := e_42.trans (rsc_1 hcd_42)
      subst e_42
      refine lv_iload hx hb dL_deals_166 (lv_at hl 2 rfl) ?_
      refine zb_Bne (tgt := 176) hx hb dL_deals_168 (by decide) (fun c_43 => False.elim (by revert c_43; decide)) (fun _ => ?_)
      refine lv_bipush (v := (-101)) hx hb dL_deals_171 (by decide) ?_
      refine lv_goto (tgt := 190) hx hb dL_deals_173 (by decide) ?_
      refine lv_icmp_eq (tgt := 195) hx hb dL_deals_190 (by decide) (fun _ => ?_) (fun c_44 => False.elim (by revert c_44; decide))
      suffices mg252 : ∀ (un9 : Nat), (un9 ≤ 5001) → ∀ ls : Array Slot, lv_has ls 14 [(11, .int (nI (1))), (10, .int (nI (0))), (9, .int (bB (false))), (8, .int (nI (to9))), (7, .int (nI (fr9))), (0, .ref (ad 0)), (1, .int (g)), (2, .ref (ad 27)), (3, .ref (ad 28)), (4, .ref (ad 29)), (5, .ref (ad 30)), (6, .ref (ad 31))] → W p l e (rmX 4 20) s m args below meth c H locs (0 + 3) (0 + 18) Q (F0 m 252 ls [.int (nI (un9))]) by
        refine lv_iload_n hx hb dL_deals_195 rfl (lv_at hl 6 rfl) ?_
        refine lv_bipush (v := nI 7) hx hb dL_deals_196 (by decide) ?_
        refine lv_ishr hx hb dL_deals_198 ?_
        refine lv_bipush (v := nI 30) hx hb dL_deals_199 (by decide) ?_
        refine vp_callSi (W.runS (As := [.int ((g) >>> (nI (7) &&& 31)), .int (nI (30))]) (rest := []) ⟨hx, hb, hml, hown, hts⟩ (l_some l (((g) >>> (nI (7) &&& 31))) (N := 30) (by omega) (by omega)) (va_cwS 2 hts gL_deals_L_some rfl rfl rfl (by decide +kernel) (by decide)) (psN) rfl rfl hl.1 rfl (lv_room (Nat.le_of_ble_eq_true rfl)) dL_deals_201 ⟨show 0 + 3 + 0 ≤ 20 by omega, show 0 + 18 + 0 ≤ 120 by omega⟩) (fun r_46 hr_46 => ?_)
        obtain ⟨r_46j, br_46, rfl⟩ := hr_46
        refine zb_0ne (tgt := 219) hx hb (by omega) dL_deals_204 (by decide) (fun c_47 => ?_) (fun c_47 => ?_)
        · skip
          refine lv_iload_n hx hb dL_deals_219 rfl (lv_at hl 6 rfl) ?_
          refine lv_bipush (v := nI 7) hx hb dL_deals_220 (by decide) ?_
          refine lv_ishr hx hb dL_deals_222 ?_
          refine lv_iconst (v := nI 2) hx hb dL_deals_223 (by decide) ?_
          refine vp_callSi (W.runS (As := [.int ((g) >>> (nI (7) &&& 31)), .int (nI (2))]) (rest := []) ⟨hx, hb, hml, hown, hts⟩ (l_some l (((g) >>> (nI (7) &&& 31))) (N := 2) (by omega) (by omega)) (va_cwS 2 hts gL_deals_L_some rfl rfl rfl (by decide +kernel) (by decide)) (psN) rfl rfl hl.1 rfl (lv_room (Nat.le_of_ble_eq_true rfl)) dL_deals_224 ⟨show 0 + 3 + 0 ≤ 20 by omega, show 0 + 18 + 0 ≤ 120 by omega⟩) (fun r_49 hr_49 => ?_)
          obtain ⟨r_49j, br_49, rfl⟩ := hr_49
          refine zb_0ne (tgt := 240) hx hb (by omega) dL_deals_227 (by decide) (fun c_50 => ?_) (fun c_50 => ?_)
          · skip
            refine lv_iconst (v := nI 1) hx hb dL_deals_240 (by decide) ?_
            refine lv_iload_n hx hb dL_deals_241 rfl (lv_at hl 6 rfl) ?_
            refine lv_bipush (v := nI 6) hx hb dL_deals_242 (by decide) ?_
            refine lv_ishr hx hb dL_deals_244 ?_
            refine lv_sipush (v := nI 200) hx hb dL_deals_245 (by decide) ?_
            refine vp_callSi (W.runS (As := [.int ((g) >>> (nI (6) &&& 31)), .int (nI (200))]) (rest := [.int (nI (1))]) ⟨hx, hb, hml, hown, hts⟩ (l_some l (((g) >>> (nI (6) &&& 31))) (N := 200) (by omega) (by omega)) (va_cwS 2 hts gL_deals_L_some rfl rfl rfl (by decide +kernel) (by decide)) (psN) rfl rfl hl.1 rfl (lv_room (Nat.le_of_ble_eq_true rfl)) dL_deals_248 ⟨show 0 + 3 + 0 ≤ 20 by omega, show 0 + 18 + 0 ≤ 120 by omega⟩) (fun r_52 hr_52 => ?_)
            obtain ⟨r_52j, br_52, rfl⟩ := hr_52
            refine zr_iadd hx hb dL_deals_251 ?_
            exact mg252 ((1) + (r_52j)) (by omega) _ (lv_sub hl [0, 1, 2, 3, 4, 5, 6, 7, 8, 9, 10, 11] rfl)
          · skip
            refine lv_iload hx hb dL_deals_230 (lv_at hl 1 rfl) ?_
            refine lv_if_le (tgt := 240) hx hb dL_deals_232 (by decide) (fun _ => ?_) (fun c_53 => False.elim (by revert c_53; decide))
            refine lv_iconst (v := nI 1) hx hb dL_deals_240 (by decide) ?_
            refine lv_iload_n hx hb dL_deals_241 rfl (lv_at hl 6 rfl) ?_
            refine lv_bipush (v := nI 6) hx hb dL_deals_242 (by decide) ?_
            refine lv_ishr hx hb dL_deals_244 ?_
            refine lv_sipush (v := nI 200) hx hb dL_deals_245 (by decide) ?_
            refine vp_callSi (W.runS (As := [.int ((g) >>> (nI (6) &&& 31)), .int (nI (200))]) (rest := [.int (nI (1))]) ⟨hx, hb, hml, hown, hts⟩ (l_some l (((g) >>> (nI (6) &&& 31))) (N := 200) (by omega) (by omega)) (va_cwS 2 hts gL_deals_L_some rfl rfl rfl (by decide +kernel) (by decide)) (psN) rfl rfl hl.1 rfl (lv_room (Nat.le_of_ble_eq_true rfl)) dL_deals_248 ⟨show 0 + 3 + 0 ≤ 20 by omega, show 0 + 18 + 0 ≤ 120 by omega⟩) (fun r_55 hr_55 => ?_)
            obtain ⟨r_55j, br_55, rfl⟩ := hr_55
            refine zr_iadd hx hb dL_deals_251 ?_
            exact mg252 ((1) + (r_55j)) (by omega) _ (lv_sub hl [0, 1, 2, 3, 4, 5, 6, 7, 8, 9, 10, 11] rfl)
        · skip
          refine lv_sipush (v := nI 5001) hx hb dL_deals_207 (by decide) ?_
          refine lv_iload_n hx hb dL_deals_210 rfl (lv_at hl 6 rfl) ?_
          refine lv_iconst (v := nI 2) hx hb dL_deals_211 (by decide) ?_
          refine vp_callSi (W.runS (As := [.int (g), .int (nI (2))]) (rest := [.int (nI (5001))]) ⟨hx, hb, hml, hown, hts⟩ (l_some l ((g)) (N := 2) (by omega) (by omega)) (va_cwS 2 hts gL_deals_L_some rfl rfl rfl (by decide +kernel) (by decide)) (psN) rfl rfl hl.1 rfl (lv_room (Nat.le_of_ble_eq_true rfl)) dL_deals_212 ⟨show 0 + 3 + 0 ≤ 20 by omega, show 0 + 18 + 0 ≤ 120 by omega⟩) (fun r_56 hr_56 => ?_)
          obtain ⟨r_56j, br_56, rfl⟩ := hr_56
          refine zr_imul hx hb dL_deals_215 ?_
          refine lv_goto (tgt := 252) hx hb dL_deals_216 (by decide) ?_
          exact mg252 ((5001) * (r_56j)) (by omega) _ (lv_sub hl [0, 1, 2, 3, 4, 5, 6, 7, 8, 9, 10, 11] rfl)
      intro un9 hun ls hl
      refine lv_istore (lv' := [(11, .int (nI (un9))), (10, .int (nI (0))), (9, .int (bB (false))), (8, .int (nI (to9))), (7, .int (nI (fr9))), (0, .ref (ad 0)), (1, .int (g)), (2, .ref (ad 27)), (3, .ref (ad 28)), (4, .ref (ad 29)), (5, .ref (ad 30)), (6, .ref (ad 31))]) hx hb dL_deals_252 hl (by decide) rfl (fun ls hl => ?_)
      suffices mg279 : ∀ (fi9 : Bool), (fi9 = true ↔ (fr9 ≠ to9 ∧ 0 < un9 ∧ un9 < 5001)) → ∀ ls : Array Slot, lv_has ls 14 [(11, .int (nI (un9))), (10, .int (nI (0))), (9, .int (bB (false))), (8, .int (nI (to9))), (7, .int (nI (fr9))), (0, .ref (ad 0)), (1, .int (g)), (2, .ref (ad 27)), (3, .ref (ad 28)), (4, .ref (ad 29)), (5, .ref (ad 30)), (6, .ref (ad 31))] → W p l e (rmX 4 20) s m args below meth c H locs (0 + 3) (0 + 18) Q (F0 m 279 ls [.int (bB (fi9))]) by
        refine lv_iload hx hb dL_deals_254 (lv_at hl 4 rfl) ?_
        refine lv_iload hx hb dL_deals_256 (lv_at hl 3 rfl) ?_
        refine zb_eq (tgt := 278) hx hb (by omega) (by omega) dL_deals_258 (by decide) (fun c_57 => ?_) (fun c_57 => ?_)
        · skip
          refine lv_iconst (v := nI 0) hx hb dL_deals_278 (by decide) ?_
          refine zt_i (y := bB (false)) rfl ?_
          exact mg279 (false) (iff_of_false (by decide) (by omega)) _ (lv_sub hl [0, 1, 2, 3, 4, 5, 6, 7, 8, 9, 10, 11] rfl)
        · skip
          refine lv_iload hx hb dL_deals_261 (lv_at hl 0 rfl) ?_
          refine zb_0le (tgt := 278) hx hb (by omega) dL_deals_263 (by decide) (fun c_58 => ?_) (fun c_58 => ?_)
          · skip
            refine lv_iconst (v := nI 0) hx hb dL_deals_278 (by decide) ?_
            refine zt_i (y := bB (false)) rfl ?_
            exact mg279 (false) (iff_of_false (by decide) (by omega)) _ (lv_sub hl [0, 1, 2, 3, 4, 5, 6, 7, 8, 9, 10, 11] rfl)
          · skip
            refine lv_iload hx hb dL_deals_266 (lv_at hl 0 rfl) ?_
            refine lv_sipush (v := nI 5001) hx hb dL_deals_268 (by decide) ?_
            refine zb_ge (tgt := 278) hx hb (by omega) (by omega) dL_deals_271 (by decide) (fun c_59 => ?_) (fun c_59 => ?_)
            · skip
              refine lv_iconst (v := nI 0) hx hb dL_deals_278 (by decide) ?_
              refine zt_i (y := bB (false)) rfl ?_
              exact mg279 (false) (iff_of_false (by decide) (by omega)) _ (lv_sub hl [0, 1, 2, 3, 4, 5, 6, 7, 8, 9, 10, 11] rfl)
            · skip
              refine lv_iconst (v := nI 1) hx hb dL_deals_274 (by decide) ?_
              refine lv_goto (tgt := 279) hx hb dL_deals_275 (by decide) ?_
              refine zt_i (y := bB (true)) rfl ?_
              exact mg279 (true) (iff_of_true rfl (by omega)) _ (lv_sub hl [0, 1, 2, 3, 4, 5, 6, 7, 8, 9, 10, 11] rfl)
      intro fi9 hfi ls hl
      refine lv_istore (lv' := [(12, .int (bB (fi9))), (11, .int (nI (un9))), (10, .int (nI (0))), (9, .int (bB (false))), (8, .int (nI (to9))), (7, .int (nI (fr9))), (0, .ref (ad 0)), (1, .int (g)), (2, .ref (ad 27)), (3, .ref (ad 28)), (4, .ref (ad 29)), (5, .ref (ad 30)), (6, .ref (ad 31))]) hx hb dL_deals_279 hl (by decide) rfl (fun ls hl => ?_)
      refine lv_iload hx hb dL_deals_281 (lv_at hl 3 rfl) ?_
      refine zb_Beq (tgt := 311) hx hb dL_deals_283 (by decide) (fun _ => ?_) (fun c_60 => False.elim (by revert c_60; decide))
      refine lv_iconst (v := (-1)) hx hb dL_deals_311 (by decide) ?_
      refine lv_istore (lv' := [(13, .int (-1)), (12, .int (bB (fi9))), (11, .int (nI (un9))), (10, .int (nI (0))), (9, .int (bB (false))), (8, .int (nI (to9))), (7, .int (nI (fr9))), (0, .ref (ad 0)), (1, .int (g)), (2, .ref (ad 27)), (3, .ref (ad 28)), (4, .ref (ad 29)), (5, .ref (ad 30)), (6, .ref (ad 31))]) hx hb dL_deals_312 hl (by decide) rfl (fun ls hl => ?_)
      refine lv_iload hx hb dL_deals_314 (lv_at hl 0 rfl) ?_
      refine lv_if_lt (tgt := 343) hx hb dL_deals_316 (by decide) (fun _ => ?_) (fun c_61 => False.elim (by revert c_61; decide))
      refine lv_aload_n hx hb dL_deals_343 rfl (lv_at hl 7 rfl) ?_
      refine lv_iload hx hb dL_deals_344 (lv_at hl 6 rfl) ?_
      refine lv_iload hx hb dL_deals_346 (lv_at hl 5 rfl) ?_
      refine lv_iload hx hb dL_deals_348 (lv_at hl 2 rfl) ?_
      refine zz_i (vx_runSX (As := [.ref (ad 0), .int (nI (fr9)), .int (nI (to9)), .int (nI (un9))]) (rest := []) ⟨hx, hb, hml, hown, hts⟩ (q_traded l hfl hI.inv (by decide) hnd hAd (Nat.le_trans hz0 hS.1) hT  (nI (fr9)) (nI (to9)) (nI (un9))) (vx_cwSW 4 hts gL_deals_L_traded rfl rfl rfl (by decide +kernel) (by decide)) (psV hK hP hX (fun a h1 h2 => hS.2.1 a h1 h2)) rfl rfl hl.1 rfl (lv_room (Nat.le_of_ble_eq_true rfl)) dL_deals_350 ⟨show 0 + 3 + 5 ≤ 20 by omega, show 0 + 18 + 30 ≤ 120 by omega⟩) hS (fun q _ h => h) (fun q h => h) (fun r9 u_62 t9 H locs ht9 hv9 hp9 hB9 hz1 hk1 hS => ?_)
      obtain ⟨e_62, hT⟩ := hp9
      have hP := hB9.2
      rw [ht9] at hP
      clear hB9 ht9 hv9 hz1 hk1
      have hcd_62 : cd3 (ixB (nI (fr9)) (K 0 0) && ixB (nI (to9)) (K 0 0)) (decide ((nI (fr9)) ≠ (nI (to9))) && rgB (nI (un9)) (nI 1) (nI 5000)) (cn K (clN (nI (fr9))) (clN (nI (to9))) (clN (nI (un9)))) = 1 := cd3_1 (ix2_f (by omega) (by omega) (by omega) (by omega) (by omega))
      have eM_62 : moC (cd3 (ixB (nI (fr9)) (K 0 0) && ixB (nI (to9)) (K 0 0)) (decide ((nI (fr9)) ≠ (nI (to9))) && rgB (nI (un9)) (nI 1) (nI 5000)) (cn K (clN (nI (fr9))) (clN (nI (to9))) (clN (nI (un9))))) (nx_trade K (clN (nI (fr9))) (clN (nI (to9))) (clN (nI (un9)))) K = K := moC_n (by rw [hcd_62]; decide)
      rw [eM_62] at hP hT
      have e_62 := e_62.trans (rsc_1 hcd_62)
      subst e_62
      refine lv_iload hx hb dL_deals_353 (lv_at hl 4 rfl) ?_
      refine zb_Bne (tgt := 363) hx hb dL_deals_355 (by decide) (fun c_63 => False.elim (by revert c_63; decide)) (fun _ => ?_)
      refine lv_bipush (v := (-101)) hx hb dL_deals_358 (by decide) ?_
      refine lv_goto (tgt := 385) hx hb dL_deals_360 (by decide) ?_
      refine lv_icmp_ne (tgt := 392) hx hb dL_deals_385 (by decide) (fun c_64 => False.elim (by revert c_64; decide)) (fun _ => ?_)
      refine lv_iconst (v := nI 1) hx hb dL_deals_388 (by decide) ?_
      refine lv_goto (tgt := 393) hx hb dL_deals_389 (by decide) ?_
      exact hret (b := true) (u := (K, u_62.1, u_62.2)) (show 0 + 3 + 5 ≤ 20 by omega) (show 0 + 18 + 30 ≤ 120 by omega) ⟨rfl, hI, hT⟩ rfl hS (fun t ht hA => ⟨va_K.moved hA hK, by rw [ht]; exact hP⟩) dL_deals_393
    · skip
      have hap := har.mp rfl
      by_cases hne : fr9 = to9
      · skip
        refine lv_iconst (v := nI 0) hx hb dL_deals_70 (by decide) ?_
        refine lv_istore (lv' := [(10, .int (nI (0))), (9, .int (bB (true))), (8, .int (nI (to9))), (7, .int (nI (fr9))), (0, .ref (ad 0)), (1, .int (g)), (2, .ref (ad 27)), (3, .ref (ad 28)), (4, .ref (ad 29)), (5, .ref (ad 30)), (6, .ref (ad 31))]) hx hb dL_deals_71 hl (by decide) rfl (fun ls hl => ?_)
        refine lv_iconst (v := nI 1) hx hb dL_deals_73 (by decide) ?_
        refine lv_istore (lv' := [(11, .int (nI (1))), (10, .int (nI (0))), (9, .int (bB (true))), (8, .int (nI (to9))), (7, .int (nI (fr9))), (0, .ref (ad 0)), (1, .int (g)), (2, .ref (ad 27)), (3, .ref (ad 28)), (4, .ref (ad 29)), (5, .ref (ad 30)), (6, .ref (ad 31))]) hx hb dL_deals_74 hl (by decide) rfl (fun ls hl => ?_)
        refine lv_iload hx hb dL_deals_76 (lv_at hl 0 rfl) ?_
        refine lv_sipush (v := nI 700) hx hb dL_deals_78 (by decide) ?_
        refine lv_icmp_ge (tgt := 131) hx hb dL_deals_81 (by decide) (fun c_65 => False.elim (by revert c_65; decide)) (fun _ => ?_)
        refine lv_iload hx hb dL_deals_84 (lv_at hl 2 rfl) ?_
        refine zb_Beq (tgt := 131) hx hb dL_deals_86 (by decide) (fun c_66 => False.elim (by revert c_66; decide)) (fun _ => ?_)
        refine lv_iload hx hb dL_deals_89 (lv_at hl 4 rfl) ?_
        refine lv_iload hx hb dL_deals_91 (lv_at hl 3 rfl) ?_
        refine zb_eq (tgt := 131) hx hb (by omega) (by omega) dL_deals_93 (by decide) (fun c_67 => ?_) (fun c_67 => ?_)
        · skip
          refine lv_iload hx hb dL_deals_131 (lv_at hl 2 rfl) ?_
          refine zb_Beq (tgt := 158) hx hb dL_deals_133 (by decide) (fun c_68 => False.elim (by revert c_68; decide)) (fun _ => ?_)
          refine lv_iload hx hb dL_deals_136 (lv_at hl 4 rfl) ?_
          refine lv_iload hx hb dL_deals_138 (lv_at hl 3 rfl) ?_
          refine zb_eq (tgt := 158) hx hb (by omega) (by omega) dL_deals_140 (by decide) (fun c_69 => ?_) (fun c_69 => ?_)
          · skip
            refine lv_aload_n hx hb dL_deals_158 rfl (lv_at hl 5 rfl) ?_
            refine lv_iload hx hb dL_deals_159 (lv_at hl 4 rfl) ?_
            refine lv_iload hx hb dL_deals_161 (lv_at hl 3 rfl) ?_
            refine zz_i (vx_runSX (As := [.ref (ad 0), .int (nI (fr9)), .int (nI (to9))]) (rest := []) ⟨hx, hb, hml, hown, hts⟩ (q_most l hfl hI.inv (by decide) hnd hAd (Nat.le_trans hz0 hS.1) hT  (nI (fr9)) (nI (to9))) (vx_cwSW 3 hts gL_deals_L_most rfl rfl rfl (by decide +kernel) (by decide)) (psV hK hP hX (fun a h1 h2 => hS.2.1 a h1 h2)) rfl rfl hl.1 rfl (lv_room (Nat.le_of_ble_eq_true rfl)) dL_deals_163 ⟨show 0 + 3 ≤ 20 by omega, show 0 + 18 ≤ 120 by omega⟩) hS (fun q _ h => h) (fun q h => h) (fun r9 u_70 t9 H locs ht9 hv9 hp9 hB9 hz1 hk1 hS => ?_)
            obtain ⟨e_70, hT⟩ := hp9
            have hP := hB9.2
            rw [ht9] at hP
            clear hB9 ht9 hv9 hz1 hk1
            have hcd_70 : cd2 (ixB (nI (fr9)) (K 0 0) && ixB (nI (to9)) (K 0 0)) (decide ((nI (fr9)) ≠ (nI (to9)))) = 2 := cd2_2 (ix2_t hap.1 hap.2 (by omega) (by omega)) (decide_eq_false (fun z => z (congrArg nI hne)))
            have e_70 := e_70.trans (rsc_2 hcd_70)
            subst e_70
            refine lv_iload hx hb dL_deals_166 (lv_at hl 2 rfl) ?_
            refine zb_Bne (tgt := 176) hx hb dL_deals_168 (by decide) (fun _ => ?_) (fun c_71 => False.elim (by revert c_71; decide))
            refine lv_iload hx hb dL_deals_176 (lv_at hl 4 rfl) ?_
            refine lv_iload hx hb dL_deals_178 (lv_at hl 3 rfl) ?_
            refine zb_ne (tgt := 188) hx hb (by omega) (by omega) dL_deals_180 (by decide) (fun c_72 => ?_) (fun c_72 => ?_)
            · skip
              exact absurd hne c_72
            · skip
              refine lv_bipush (v := (-102)) hx hb dL_deals_183 (by decide) ?_
              refine lv_goto (tgt := 190) hx hb dL_deals_185 (by decide) ?_
              refine lv_icmp_eq (tgt := 195) hx hb dL_deals_190 (by decide) (fun _ => ?_) (fun c_73 => False.elim (by revert c_73; decide))
              suffices mg252 : ∀ (un9 : Nat), (un9 ≤ 5001) → ∀ ls : Array Slot, lv_has ls 14 [(11, .int (nI (1))), (10, .int (nI (0))), (9, .int (bB (true))), (8, .int (nI (to9))), (7, .int (nI (fr9))), (0, .ref (ad 0)), (1, .int (g)), (2, .ref (ad 27)), (3, .ref (ad 28)), (4, .ref (ad 29)), (5, .ref (ad 30)), (6, .ref (ad 31))] → W p l e (rmX 4 20) s m args below meth c H locs (0 + 3) (0 + 18) Q (F0 m 252 ls [.int (nI (un9))]) by
                refine lv_iload_n hx hb dL_deals_195 rfl (lv_at hl 6 rfl) ?_
                refine lv_bipush (v := nI 7) hx hb dL_deals_196 (by decide) ?_
                refine lv_ishr hx hb dL_deals_198 ?_
                refine lv_bipush (v := nI 30) hx hb dL_deals_199 (by decide) ?_
                refine vp_callSi (W.runS (As := [.int ((g) >>> (nI (7) &&& 31)), .int (nI (30))]) (rest := []) ⟨hx, hb, hml, hown, hts⟩ (l_some l (((g) >>> (nI (7) &&& 31))) (N := 30) (by omega) (by omega)) (va_cwS 2 hts gL_deals_L_some rfl rfl rfl (by decide +kernel) (by decide)) (psN) rfl rfl hl.1 rfl (lv_room (Nat.le_of_ble_eq_true rfl)) dL_deals_201 ⟨show 0 + 3 + 0 ≤ 20 by omega, show 0 + 18 + 0 ≤ 120 by omega⟩) (fun r_75 hr_75 => ?_)
                obtain ⟨r_75j, br_75, rfl⟩ := hr_75
                refine zb_0ne (tgt := 219) hx hb (by omega) dL_deals_204 (by decide) (fun c_76 => ?_) (fun c_76 => ?_)
                · skip
                  refine lv_iload_n hx hb dL_deals_219 rfl (lv_at hl 6 rfl) ?_
                  refine lv_bipush (v := nI 7) hx hb dL_deals_220 (by decide) ?_
                  refine lv_ishr hx hb dL_deals_222 ?_
                  refine lv_iconst (v := nI 2) hx hb dL_deals_223 (by decide) ?_
                  refine vp_callSi (W.runS (As := [.int ((g) >>> (nI (7) &&& 31)), .int (nI (2))]) (rest := []) ⟨hx, hb, hml, hown, hts⟩ (l_some l (((g) >>> (nI (7) &&& 31))) (N := 2) (by omega) (by omega)) (va_cwS 2 hts gL_deals_L_some rfl rfl rfl (by decide +kernel) (by decide)) (psN) rfl rfl hl.1 rfl (lv_room (Nat.le_of_ble_eq_true rfl)) dL_deals_224 ⟨show 0 + 3 + 0 ≤ 20 by omega, show 0 + 18 + 0 ≤ 120 by omega⟩) (fun r_78 hr_78 => ?_)
                  obtain ⟨r_78j, br_78, rfl⟩ := hr_78
                  refine zb_0ne (tgt := 240) hx hb (by omega) dL_deals_227 (by decide) (fun c_79 => ?_) (fun c_79 => ?_)
                  · skip
                    refine lv_iconst (v := nI 1) hx hb dL_deals_240 (by decide) ?_
                    refine lv_iload_n hx hb dL_deals_241 rfl (lv_at hl 6 rfl) ?_
                    refine lv_bipush (v := nI 6) hx hb dL_deals_242 (by decide) ?_
                    refine lv_ishr hx hb dL_deals_244 ?_
                    refine lv_sipush (v := nI 200) hx hb dL_deals_245 (by decide) ?_
                    refine vp_callSi (W.runS (As := [.int ((g) >>> (nI (6) &&& 31)), .int (nI (200))]) (rest := [.int (nI (1))]) ⟨hx, hb, hml, hown, hts⟩ (l_some l (((g) >>> (nI (6) &&& 31))) (N := 200) (by omega) (by omega)) (va_cwS 2 hts gL_deals_L_some rfl rfl rfl (by decide +kernel) (by decide)) (psN) rfl rfl hl.1 rfl (lv_room (Nat.le_of_ble_eq_true rfl)) dL_deals_248 ⟨show 0 + 3 + 0 ≤ 20 by omega, show 0 + 18 + 0 ≤ 120 by omega⟩) (fun r_81 hr_81 => ?_)
                    obtain ⟨r_81j, br_81, rfl⟩ := hr_81
                    refine zr_iadd hx hb dL_deals_251 ?_
                    exact mg252 ((1) + (r_81j)) (by omega) _ (lv_sub hl [0, 1, 2, 3, 4, 5, 6, 7, 8, 9, 10, 11] rfl)
                  · skip
                    refine lv_iload hx hb dL_deals_230 (lv_at hl 1 rfl) ?_
                    refine lv_if_le (tgt := 240) hx hb dL_deals_232 (by decide) (fun _ => ?_) (fun c_82 => False.elim (by revert c_82; decide))
                    refine lv_iconst (v := nI 1) hx hb dL_deals_240 (by decide) ?_
                    refine lv_iload_n hx hb dL_deals_241 rfl (lv_at hl 6 rfl) ?_
                    refine lv_bipush (v := nI 6) hx hb dL_deals_242 (by decide) ?_
                    refine lv_ishr hx hb dL_deals_244 ?_
                    refine lv_sipush (v := nI 200) hx hb dL_deals_245 (by decide) ?_
                    refine vp_callSi (W.runS (As := [.int ((g) >>> (nI (6) &&& 31)), .int (nI (200))]) (rest := [.int (nI (1))]) ⟨hx, hb, hml, hown, hts⟩ (l_some l (((g) >>> (nI (6) &&& 31))) (N := 200) (by omega) (by omega)) (va_cwS 2 hts gL_deals_L_some rfl rfl rfl (by decide +kernel) (by decide)) (psN) rfl rfl hl.1 rfl (lv_room (Nat.le_of_ble_eq_true rfl)) dL_deals_248 ⟨show 0 + 3 + 0 ≤ 20 by omega, show 0 + 18 + 0 ≤ 120 by omega⟩) (fun r_84 hr_84 => ?_)
                    obtain ⟨r_84j, br_84, rfl⟩ := hr_84
                    refine zr_iadd hx hb dL_deals_251 ?_
                    exact mg252 ((1) + (r_84j)) (by omega) _ (lv_sub hl [0, 1, 2, 3, 4, 5, 6, 7, 8, 9, 10, 11] rfl)
                · skip
                  refine lv_sipush (v := nI 5001) hx hb dL_deals_207 (by decide) ?_
                  refine lv_iload_n hx hb dL_deals_210 rfl (lv_at hl 6 rfl) ?_
                  refine lv_iconst (v := nI 2) hx hb dL_deals_211 (by decide) ?_
                  refine vp_callSi (W.runS (As := [.int (g), .int (nI (2))]) (rest := [.int (nI (5001))]) ⟨hx, hb, hml, hown, hts⟩ (l_some l ((g)) (N := 2) (by omega) (by omega)) (va_cwS 2 hts gL_deals_L_some rfl rfl rfl (by decide +kernel) (by decide)) (psN) rfl rfl hl.1 rfl (lv_room (Nat.le_of_ble_eq_true rfl)) dL_deals_212 ⟨show 0 + 3 + 0 ≤ 20 by omega, show 0 + 18 + 0 ≤ 120 by omega⟩) (fun r_85 hr_85 => ?_)
                  obtain ⟨r_85j, br_85, rfl⟩ := hr_85
                  refine zr_imul hx hb dL_deals_215 ?_
                  refine lv_goto (tgt := 252) hx hb dL_deals_216 (by decide) ?_
                  exact mg252 ((5001) * (r_85j)) (by omega) _ (lv_sub hl [0, 1, 2, 3, 4, 5, 6, 7, 8, 9, 10, 11] rfl)
              intro un9 hun ls hl
              refine lv_istore (lv' := [(11, .int (nI (un9))), (10, .int (nI (0))), (9, .int (bB (true))), (8, .int (nI (to9))), (7, .int (nI (fr9))), (0, .ref (ad 0)), (1, .int (g)), (2, .ref (ad 27)), (3, .ref (ad 28)), (4, .ref (ad 29)), (5, .ref (ad 30)), (6, .ref (ad 31))]) hx hb dL_deals_252 hl (by decide) rfl (fun ls hl => ?_)
              suffices mg279 : ∀ (fi9 : Bool), (fi9 = true ↔ (fr9 ≠ to9 ∧ 0 < un9 ∧ un9 < 5001)) → ∀ ls : Array Slot, lv_has ls 14 [(11, .int (nI (un9))), (10, .int (nI (0))), (9, .int (bB (true))), (8, .int (nI (to9))), (7, .int (nI (fr9))), (0, .ref (ad 0)), (1, .int (g)), (2, .ref (ad 27)), (3, .ref (ad 28)), (4, .ref (ad 29)), (5, .ref (ad 30)), (6, .ref (ad 31))] → W p l e (rmX 4 20) s m args below meth c H locs (0 + 3) (0 + 18) Q (F0 m 279 ls [.int (bB (fi9))]) by
                refine lv_iload hx hb dL_deals_254 (lv_at hl 4 rfl) ?_
                refine lv_iload hx hb dL_deals_256 (lv_at hl 3 rfl) ?_
                refine zb_eq (tgt := 278) hx hb (by omega) (by omega) dL_deals_258 (by decide) (fun c_86 => ?_) (fun c_86 => ?_)
                · skip
                  refine lv_iconst (v := nI 0) hx hb dL_deals_278 (by decide) ?_
                  refine zt_i (y := bB (false)) rfl ?_
                  exact mg279 (false) (iff_of_false (by decide) (by omega)) _ (lv_sub hl [0, 1, 2, 3, 4, 5, 6, 7, 8, 9, 10, 11] rfl)
                · skip
                  exact absurd hne c_86
              intro fi9 hfi ls hl
              refine lv_istore (lv' := [(12, .int (bB (fi9))), (11, .int (nI (un9))), (10, .int (nI (0))), (9, .int (bB (true))), (8, .int (nI (to9))), (7, .int (nI (fr9))), (0, .ref (ad 0)), (1, .int (g)), (2, .ref (ad 27)), (3, .ref (ad 28)), (4, .ref (ad 29)), (5, .ref (ad 30)), (6, .ref (ad 31))]) hx hb dL_deals_279 hl (by decide) rfl (fun ls hl => ?_)
              cases fi9
              · skip
                have hfp : ¬ (fr9 ≠ to9 ∧ 0 < un9 ∧ un9 < 5001) := fun z => absurd (hfi.mpr z) (by decide)
                refine lv_iload hx hb dL_deals_281 (lv_at hl 3 rfl) ?_
                refine zb_Beq (tgt := 311) hx hb dL_deals_283 (by decide) (fun c_87 => False.elim (by revert c_87; decide)) (fun _ => ?_)
                refine lv_iload hx hb dL_deals_286 (lv_at hl 0 rfl) ?_
                refine zb_Beq (tgt := 311) hx hb dL_deals_288 (by decide) (fun _ => ?_) (fun c_88 => False.elim (by revert c_88; decide))
                refine lv_iconst (v := (-1)) hx hb dL_deals_311 (by decide) ?_
                refine lv_istore (lv' := [(13, .int (-1)), (12, .int (bB (false))), (11, .int (nI (un9))), (10, .int (nI (0))), (9, .int (bB (true))), (8, .int (nI (to9))), (7, .int (nI (fr9))), (0, .ref (ad 0)), (1, .int (g)), (2, .ref (ad 27)), (3, .ref (ad 28)), (4, .ref (ad 29)), (5, .ref (ad 30)), (6, .ref (ad 31))]) hx hb dL_deals_312 hl (by decide) rfl (fun ls hl => ?_)
                refine lv_iload hx hb dL_deals_314 (lv_at hl 0 rfl) ?_
                refine lv_if_lt (tgt := 343) hx hb dL_deals_316 (by decide) (fun _ => ?_) (fun c_89 => False.elim (by revert c_89; decide))
                refine lv_aload_n hx hb dL_deals_343 rfl (lv_at hl 7 rfl) ?_
                refine lv_iload hx hb dL_deals_344 (lv_at hl 6 rfl) ?_
                refine lv_iload hx hb dL_deals_346 (lv_at hl 5 rfl) ?_
                refine lv_iload hx hb dL_deals_348 (lv_at hl 2 rfl) ?_
                refine zz_i (vx_runSX (As := [.ref (ad 0), .int (nI (fr9)), .int (nI (to9)), .int (nI (un9))]) (rest := []) ⟨hx, hb, hml, hown, hts⟩ (q_traded l hfl hI.inv (by decide) hnd hAd (Nat.le_trans hz0 hS.1) hT  (nI (fr9)) (nI (to9)) (nI (un9))) (vx_cwSW 4 hts gL_deals_L_traded rfl rfl rfl (by decide +kernel) (by decide)) (psV hK hP hX (fun a h1 h2 => hS.2.1 a h1 h2)) rfl rfl hl.1 rfl (lv_room (Nat.le_of_ble_eq_true rfl)) dL_deals_350 ⟨show 0 + 3 + 5 ≤ 20 by omega, show 0 + 18 + 30 ≤ 120 by omega⟩) hS (fun q _ h => h) (fun q h => h) (fun r9 u_90 t9 H locs ht9 hv9 hp9 hB9 hz1 hk1 hS => ?_)
                obtain ⟨e_90, hT⟩ := hp9
                have hP := hB9.2
                rw [ht9] at hP
                clear hB9 ht9 hv9 hz1 hk1
                have hcd_90 : cd3 (ixB (nI (fr9)) (K 0 0) && ixB (nI (to9)) (K 0 0)) (decide ((nI (fr9)) ≠ (nI (to9))) && rgB (nI (un9)) (nI 1) (nI 5000)) (cn K (clN (nI (fr9))) (clN (nI (to9))) (clN (nI (un9)))) = 2 := cd3_2 (ix2_t hap.1 hap.2 (by omega) (by omega)) (by rw [decide_eq_false (fun z => z (congrArg nI hne)), Bool.false_and])
                have eM_90 : moC (cd3 (ixB (nI (fr9)) (K 0 0) && ixB (nI (to9)) (K 0 0)) (decide ((nI (fr9)) ≠ (nI (to9))) && rgB (nI (un9)) (nI 1) (nI 5000)) (cn K (clN (nI (fr9))) (clN (nI (to9))) (clN (nI (un9))))) (nx_trade K (clN (nI (fr9))) (clN (nI (to9))) (clN (nI (un9)))) K = K := moC_n (by rw [hcd_90]; decide)
                rw [eM_90] at hP hT
                have e_90 := e_90.trans (rsc_2 hcd_90)
                subst e_90
                refine lv_iload hx hb dL_deals_353 (lv_at hl 4 rfl) ?_
                refine zb_Bne (tgt := 363) hx hb dL_deals_355 (by decide) (fun _ => ?_) (fun c_91 => False.elim (by revert c_91; decide))
                refine lv_iload hx hb dL_deals_363 (lv_at hl 1 rfl) ?_
                refine zb_Bne (tgt := 373) hx hb dL_deals_365 (by decide) (fun c_92 => False.elim (by revert c_92; decide)) (fun _ => ?_)
                refine lv_bipush (v := (-102)) hx hb dL_deals_368 (by decide) ?_
                refine lv_goto (tgt := 385) hx hb dL_deals_370 (by decide) ?_
                refine lv_icmp_ne (tgt := 392) hx hb dL_deals_385 (by decide) (fun c_93 => False.elim (by revert c_93; decide)) (fun _ => ?_)
                refine lv_iconst (v := nI 1) hx hb dL_deals_388 (by decide) ?_
                refine lv_goto (tgt := 393) hx hb dL_deals_389 (by decide) ?_
                exact hret (b := true) (u := (K, u_90.1, u_90.2)) (show 0 + 3 + 5 ≤ 20 by omega) (show 0 + 18 + 30 ≤ 120 by omega) ⟨rfl, hI, hT⟩ rfl hS (fun t ht hA => ⟨va_K.moved hA hK, by rw [ht]; exact hP⟩) dL_deals_393
              · skip
                exact absurd hne (hfi.mp rfl).1
          · skip
            exact absurd hne c_69
        · skip
          exact absurd hne c_67
      · skip
        refine lv_iconst (v := nI 0) hx hb dL_deals_70 (by decide) ?_
        refine lv_istore (lv' := [(10, .int (nI (0))), (9, .int (bB (true))), (8, .int (nI (to9))), (7, .int (nI (fr9))), (0, .ref (ad 0)), (1, .int (g)), (2, .ref (ad 27)), (3, .ref (ad 28)), (4, .ref (ad 29)), (5, .ref (ad 30)), (6, .ref (ad 31))]) hx hb dL_deals_71 hl (by decide) rfl (fun ls hl => ?_)
        refine lv_iconst (v := nI 1) hx hb dL_deals_73 (by decide) ?_
        refine lv_istore (lv' := [(11, .int (nI (1))), (10, .int (nI (0))), (9, .int (bB (true))), (8, .int (nI (to9))), (7, .int (nI (fr9))), (0, .ref (ad 0)), (1, .int (g)), (2, .ref (ad 27)), (3, .ref (ad 28)), (4, .ref (ad 29)), (5, .ref (ad 30)), (6, .ref (ad 31))]) hx hb dL_deals_74 hl (by decide) rfl (fun ls hl => ?_)
        have lp76 : ∀ (n9 uu : Nat), uu ≤ 699 → 699 - uu < n9 → ∀ (H : Heap) (locs : List Loc), va_P D vwCl (wz 37 ad (wxE ad cI cJ cQ (K) (ts) (pu) (K) (X))) H → va_S (zA z0) s.heap H locs → ∀ ls : Array Slot, lv_has ls 14 [(0, .ref (ad 0)), (1, .int (g)), (2, .ref (ad 27)), (3, .ref (ad 28)), (4, .ref (ad 29)), (5, .ref (ad 30)), (6, .ref (ad 31)), (7, .int (nI (fr9))), (8, .int (nI (to9))), (9, .int (bB (true))), (10, .int (nI (mtr K fr9 to9 (uu)))), (11, .int (nI ((uu) + 1)))] → W p l e (rmX 4 20) s m args below meth c H locs (0) (0) Q (F0 m 76 ls []) := by
          intro n9
          induction n9 with
          | zero => intro uu q1 q2; omega
          | succ n9 ih76 =>
            intro uu q1_76 q2_76 H locs hP hS ls hl
            refine lv_iload hx hb dL_deals_76 (lv_at hl 11 rfl) ?_
            refine lv_sipush (v := nI 700) hx hb dL_deals_78 (by decide) ?_
            refine zb_ge (tgt := 131) hx hb (by omega) (by omega) dL_deals_81 (by decide) (fun c_94 => ?_) (fun c_94 => ?_)
            · skip
              have q_95 : uu = 699 := by omega
              subst q_95
              have hm69 := mtr_le K fr9 to9 699
              refine lv_iload hx hb dL_deals_131 (lv_at hl 9 rfl) ?_
              refine zb_Beq (tgt := 158) hx hb dL_deals_133 (by decide) (fun c_96 => False.elim (by revert c_96; decide)) (fun _ => ?_)
              refine lv_iload hx hb dL_deals_136 (lv_at hl 7 rfl) ?_
              refine lv_iload hx hb dL_deals_138 (lv_at hl 8 rfl) ?_
              refine zb_eq (tgt := 158) hx hb (by omega) (by omega) dL_deals_140 (by decide) (fun c_97 => ?_) (fun c_97 => ?_)
              · skip
                exact absurd c_97 hne
              · skip
                refine lv_aload_n hx hb dL_deals_143 rfl (lv_at hl 3 rfl) ?_
                refine lv_bipush (v := nI 10) hx hb dL_deals_144 (by decide) ?_
                refine lv_iload hx hb dL_deals_146 (lv_at hl 7 rfl) ?_
                refine zr_iadd hx hb dL_deals_148 ?_
                have f_98 := hI.inv.li (fr9)
                refine zi_ld hx hb hK hP 28 (by decide) 0 rfl rfl (by decide) (i := 10 + (fr9)) (by omega) (v := nI (K 3 (fr9))) (fw_3 (by omega)) dL_deals_149 ?_
                refine lv_sipush (v := nI 700) hx hb dL_deals_150 (by decide) ?_
                refine zb_lt (tgt := 158) hx hb (by omega) (by omega) dL_deals_153 (by decide) (fun c_99 => ?_) (fun c_99 => ?_)
                · skip
                  refine lv_aload_n hx hb dL_deals_158 rfl (lv_at hl 0 rfl) ?_
                  refine lv_iload hx hb dL_deals_159 (lv_at hl 7 rfl) ?_
                  refine lv_iload hx hb dL_deals_161 (lv_at hl 8 rfl) ?_
                  have fm5 := mtr_le K fr9 to9 5000
                  have fml := mtr_le K fr9 to9 699
                  have fmc : mtr K fr9 to9 5000 = mtr K fr9 to9 699 := mtr_cut (by omega) 5000 (by omega)
                  refine zz_i (vx_runSX (As := [.ref (ad 0), .int (nI (fr9)), .int (nI (to9))]) (rest := []) ⟨hx, hb, hml, hown, hts⟩ (q_most l hfl hI.inv (by decide) hnd hAd (Nat.le_trans hz0 hS.1) hT  (nI (fr9)) (nI (to9))) (vx_cwSW 3 hts gL_deals_L_most rfl rfl rfl (by decide +kernel) (by decide)) (psV hK hP hX (fun a h1 h2 => hS.2.1 a h1 h2)) rfl rfl hl.1 rfl (lv_room (Nat.le_of_ble_eq_true rfl)) dL_deals_163 ⟨show 0 + 3 ≤ 20 by omega, show 0 + 18 ≤ 120 by omega⟩) hS (fun q _ h => h) (fun q h => h) (fun r9 u_100 t9 H locs ht9 hv9 hp9 hB9 hz1 hk1 hS => ?_)
                  obtain ⟨e_100, hT⟩ := hp9
                  have hP := hB9.2
                  rw [ht9] at hP
                  clear hB9 ht9 hv9 hz1 hk1
                  have hcd_100 : cd2 (ixB (nI (fr9)) (K 0 0) && ixB (nI (to9)) (K 0 0)) (decide ((nI (fr9)) ≠ (nI (to9)))) = 0 := cd2_0 (ix2_t hap.1 hap.2 (by omega) (by omega)) (decide_eq_true (nI_ne (by omega) (by omega) hne))
                  have e_100 := e_100.trans ((rsc_0 hcd_100).trans (show nI (mtr K (clN (nI (fr9))) (clN (nI (to9))) 5000) = nI (mtr K ((fr9)) ((to9)) 5000) by first | rfl | simp only [clN_nI (show fr9 < 2 ^ 31 by omega), clN_nI (show to9 < 2 ^ 31 by omega)]))
                  subst e_100
                  refine lv_iload hx hb dL_deals_166 (lv_at hl 9 rfl) ?_
                  refine zb_Bne (tgt := 176) hx hb dL_deals_168 (by decide) (fun _ => ?_) (fun c_101 => False.elim (by revert c_101; decide))
                  refine lv_iload hx hb dL_deals_176 (lv_at hl 7 rfl) ?_
                  refine lv_iload hx hb dL_deals_178 (lv_at hl 8 rfl) ?_
                  refine zb_ne (tgt := 188) hx hb (by omega) (by omega) dL_deals_180 (by decide) (fun c_102 => ?_) (fun c_102 => ?_)
                  · skip
                    refine lv_iload hx hb dL_deals_188 (lv_at hl 10 rfl) ?_
                    refine zb_eq (tgt := 195) hx hb (by omega) (by omega) dL_deals_190 (by decide) (fun c_103 => ?_) (fun c_103 => ?_)
                    · skip
                      suffices mg252 : ∀ (un9 : Nat), (un9 ≤ 5001) → ∀ ls : Array Slot, lv_has ls 14 [(0, .ref (ad 0)), (1, .int (g)), (2, .ref (ad 27)), (3, .ref (ad 28)), (4, .ref (ad 29)), (5, .ref (ad 30)), (6, .ref (ad 31)), (7, .int (nI (fr9))), (8, .int (nI (to9))), (9, .int (bB (true))), (10, .int (nI (mtr K fr9 to9 (699)))), (11, .int (nI ((699) + 1)))] → W p l e (rmX 4 20) s m args below meth c H locs (0 + 3) (0 + 18) Q (F0 m 252 ls [.int (nI (un9))]) by
                        refine lv_iload_n hx hb dL_deals_195 rfl (lv_at hl 1 rfl) ?_
                        refine lv_bipush (v := nI 7) hx hb dL_deals_196 (by decide) ?_
                        refine lv_ishr hx hb dL_deals_198 ?_
                        refine lv_bipush (v := nI 30) hx hb dL_deals_199 (by decide) ?_
                        refine vp_callSi (W.runS (As := [.int ((g) >>> (nI (7) &&& 31)), .int (nI (30))]) (rest := []) ⟨hx, hb, hml, hown, hts⟩ (l_some l (((g) >>> (nI (7) &&& 31))) (N := 30) (by omega) (by omega)) (va_cwS 2 hts gL_deals_L_some rfl rfl rfl (by decide +kernel) (by decide)) (psN) rfl rfl hl.1 rfl (lv_room (Nat.le_of_ble_eq_true rfl)) dL_deals_201 ⟨show 0 + 3 + 0 ≤ 20 by omega, show 0 + 18 + 0 ≤ 120 by omega⟩) (fun r_105 hr_105 => ?_)
                        obtain ⟨r_105j, br_105, rfl⟩ := hr_105
                        refine zb_0ne (tgt := 219) hx hb (by omega) dL_deals_204 (by decide) (fun c_106 => ?_) (fun c_106 => ?_)
                        · skip
                          refine lv_iload_n hx hb dL_deals_219 rfl (lv_at hl 1 rfl) ?_
                          refine lv_bipush (v := nI 7) hx hb dL_deals_220 (by decide) ?_
                          refine lv_ishr hx hb dL_deals_222 ?_
                          refine lv_iconst (v := nI 2) hx hb dL_deals_223 (by decide) ?_
                          refine vp_callSi (W.runS (As := [.int ((g) >>> (nI (7) &&& 31)), .int (nI (2))]) (rest := []) ⟨hx, hb, hml, hown, hts⟩ (l_some l (((g) >>> (nI (7) &&& 31))) (N := 2) (by omega) (by omega)) (va_cwS 2 hts gL_deals_L_some rfl rfl rfl (by decide +kernel) (by decide)) (psN) rfl rfl hl.1 rfl (lv_room (Nat.le_of_ble_eq_true rfl)) dL_deals_224 ⟨show 0 + 3 + 0 ≤ 20 by omega, show 0 + 18 + 0 ≤ 120 by omega⟩) (fun r_108 hr_108 => ?_)
                          obtain ⟨r_108j, br_108, rfl⟩ := hr_108
                          refine zb_0ne (tgt := 240) hx hb (by omega) dL_deals_227 (by decide) (fun c_109 => ?_) (fun c_109 => ?_)
                          · skip
                            refine lv_iconst (v := nI 1) hx hb dL_deals_240 (by decide) ?_
                            refine lv_iload_n hx hb dL_deals_241 rfl (lv_at hl 1 rfl) ?_
                            refine lv_bipush (v := nI 6) hx hb dL_deals_242 (by decide) ?_
                            refine lv_ishr hx hb dL_deals_244 ?_
                            refine lv_sipush (v := nI 200) hx hb dL_deals_245 (by decide) ?_
                            refine vp_callSi (W.runS (As := [.int ((g) >>> (nI (6) &&& 31)), .int (nI (200))]) (rest := [.int (nI (1))]) ⟨hx, hb, hml, hown, hts⟩ (l_some l (((g) >>> (nI (6) &&& 31))) (N := 200) (by omega) (by omega)) (va_cwS 2 hts gL_deals_L_some rfl rfl rfl (by decide +kernel) (by decide)) (psN) rfl rfl hl.1 rfl (lv_room (Nat.le_of_ble_eq_true rfl)) dL_deals_248 ⟨show 0 + 3 + 0 ≤ 20 by omega, show 0 + 18 + 0 ≤ 120 by omega⟩) (fun r_111 hr_111 => ?_)
                            obtain ⟨r_111j, br_111, rfl⟩ := hr_111
                            refine zr_iadd hx hb dL_deals_251 ?_
                            exact mg252 ((1) + (r_111j)) (by omega) _ (lv_sub hl [0, 1, 2, 3, 4, 5, 6, 7, 8, 9, 10, 11] rfl)
                          · skip
                            refine lv_iload hx hb dL_deals_230 (lv_at hl 10 rfl) ?_
                            refine zb_0le (tgt := 240) hx hb (by omega) dL_deals_232 (by decide) (fun c_112 => ?_) (fun c_112 => ?_)
                            · skip
                              refine lv_iconst (v := nI 1) hx hb dL_deals_240 (by decide) ?_
                              refine lv_iload_n hx hb dL_deals_241 rfl (lv_at hl 1 rfl) ?_
                              refine lv_bipush (v := nI 6) hx hb dL_deals_242 (by decide) ?_
                              refine lv_ishr hx hb dL_deals_244 ?_
                              refine lv_sipush (v := nI 200) hx hb dL_deals_245 (by decide) ?_
                              refine vp_callSi (W.runS (As := [.int ((g) >>> (nI (6) &&& 31)), .int (nI (200))]) (rest := [.int (nI (1))]) ⟨hx, hb, hml, hown, hts⟩ (l_some l (((g) >>> (nI (6) &&& 31))) (N := 200) (by omega) (by omega)) (va_cwS 2 hts gL_deals_L_some rfl rfl rfl (by decide +kernel) (by decide)) (psN) rfl rfl hl.1 rfl (lv_room (Nat.le_of_ble_eq_true rfl)) dL_deals_248 ⟨show 0 + 3 + 0 ≤ 20 by omega, show 0 + 18 + 0 ≤ 120 by omega⟩) (fun r_114 hr_114 => ?_)
                              obtain ⟨r_114j, br_114, rfl⟩ := hr_114
                              refine zr_iadd hx hb dL_deals_251 ?_
                              exact mg252 ((1) + (r_114j)) (by omega) _ (lv_sub hl [0, 1, 2, 3, 4, 5, 6, 7, 8, 9, 10, 11] rfl)
                            · skip
                              refine lv_iload hx hb dL_deals_235 (lv_at hl 10 rfl) ?_
                              refine lv_goto (tgt := 252) hx hb dL_deals_237 (by decide) ?_
                              exact mg252 (mtr K fr9 to9 (699)) (by omega) _ (lv_sub hl [0, 1, 2, 3, 4, 5, 6, 7, 8, 9, 10, 11] rfl)
                        · skip
                          refine lv_sipush (v := nI 5001) hx hb dL_deals_207 (by decide) ?_
                          refine lv_iload_n hx hb dL_deals_210 rfl (lv_at hl 1 rfl) ?_
                          refine lv_iconst (v := nI 2) hx hb dL_deals_211 (by decide) ?_
                          refine vp_callSi (W.runS (As := [.int (g), .int (nI (2))]) (rest := [.int (nI (5001))]) ⟨hx, hb, hml, hown, hts⟩ (l_some l ((g)) (N := 2) (by omega) (by omega)) (va_cwS 2 hts gL_deals_L_some rfl rfl rfl (by decide +kernel) (by decide)) (psN) rfl rfl hl.1 rfl (lv_room (Nat.le_of_ble_eq_true rfl)) dL_deals_212 ⟨show 0 + 3 + 0 ≤ 20 by omega, show 0 + 18 + 0 ≤ 120 by omega⟩) (fun r_115 hr_115 => ?_)
                          obtain ⟨r_115j, br_115, rfl⟩ := hr_115
                          refine zr_imul hx hb dL_deals_215 ?_
                          refine lv_goto (tgt := 252) hx hb dL_deals_216 (by decide) ?_
                          exact mg252 ((5001) * (r_115j)) (by omega) _ (lv_sub hl [0, 1, 2, 3, 4, 5, 6, 7, 8, 9, 10, 11] rfl)
                      intro un9 hun ls hl
                      refine lv_istore (lv' := [(11, .int (nI (un9))), (0, .ref (ad 0)), (1, .int (g)), (2, .ref (ad 27)), (3, .ref (ad 28)), (4, .ref (ad 29)), (5, .ref (ad 30)), (6, .ref (ad 31)), (7, .int (nI (fr9))), (8, .int (nI (to9))), (9, .int (bB (true))), (10, .int (nI (mtr K fr9 to9 (699))))]) hx hb dL_deals_252 hl (by decide) rfl (fun ls hl => ?_)
                      suffices mg279 : ∀ (fi9 : Bool), (fi9 = true ↔ (fr9 ≠ to9 ∧ 0 < un9 ∧ un9 < 5001)) → ∀ ls : Array Slot, lv_has ls 14 [(11, .int (nI (un9))), (0, .ref (ad 0)), (1, .int (g)), (2, .ref (ad 27)), (3, .ref (ad 28)), (4, .ref (ad 29)), (5, .ref (ad 30)), (6, .ref (ad 31)), (7, .int (nI (fr9))), (8, .int (nI (to9))), (9, .int (bB (true))), (10, .int (nI (mtr K fr9 to9 (699))))] → W p l e (rmX 4 20) s m args below meth c H locs (0 + 3) (0 + 18) Q (F0 m 279 ls [.int (bB (fi9))]) by
                        refine lv_iload hx hb dL_deals_254 (lv_at hl 8 rfl) ?_
                        refine lv_iload hx hb dL_deals_256 (lv_at hl 9 rfl) ?_
                        refine zb_eq (tgt := 278) hx hb (by omega) (by omega) dL_deals_258 (by decide) (fun c_116 => ?_) (fun c_116 => ?_)
                        · skip
                          exact absurd c_116 hne
                        · skip
                          refine lv_iload hx hb dL_deals_261 (lv_at hl 0 rfl) ?_
                          refine zb_0le (tgt := 278) hx hb (by omega) dL_deals_263 (by decide) (fun c_117 => ?_) (fun c_117 => ?_)
                          · skip
                            refine lv_iconst (v := nI 0) hx hb dL_deals_278 (by decide) ?_
                            refine zt_i (y := bB (false)) rfl ?_
                            exact mg279 (false) (iff_of_false (by decide) (by omega)) _ (lv_sub hl [0, 1, 2, 3, 4, 5, 6, 7, 8, 9, 10, 11] rfl)
                          · skip
                            refine lv_iload hx hb dL_deals_266 (lv_at hl 0 rfl) ?_
                            refine lv_sipush (v := nI 5001) hx hb dL_deals_268 (by decide) ?_
                            refine zb_ge (tgt := 278) hx hb (by omega) (by omega) dL_deals_271 (by decide) (fun c_118 => ?_) (fun c_118 => ?_)
                            · skip
                              refine lv_iconst (v := nI 0) hx hb dL_deals_278 (by decide) ?_
                              refine zt_i (y := bB (false)) rfl ?_
                              exact mg279 (false) (iff_of_false (by decide) (by omega)) _ (lv_sub hl [0, 1, 2, 3, 4, 5, 6, 7, 8, 9, 10, 11] rfl)
                            · skip
                              refine lv_iconst (v := nI 1) hx hb dL_deals_274 (by decide) ?_
                              refine lv_goto (tgt := 279) hx hb dL_deals_275 (by decide) ?_
                              refine zt_i (y := bB (true)) rfl ?_
                              exact mg279 (true) (iff_of_true rfl (by omega)) _ (lv_sub hl [0, 1, 2, 3, 4, 5, 6, 7, 8, 9, 10, 11] rfl)
                      intro fi9 hfi ls hl
                      refine lv_istore (lv' := [(12, .int (bB (fi9))), (11, .int (nI (un9))), (0, .ref (ad 0)), (1, .int (g)), (2, .ref (ad 27)), (3, .ref (ad 28)), (4, .ref (ad 29)), (5, .ref (ad 30)), (6, .ref (ad 31)), (7, .int (nI (fr9))), (8, .int (nI (to9))), (9, .int (bB (true))), (10, .int (nI (mtr K fr9 to9 (699))))]) hx hb dL_deals_279 hl (by decide) rfl (fun ls hl => ?_)
                      cases fi9
                      · skip
                        have hfp : ¬ (fr9 ≠ to9 ∧ 0 < un9 ∧ un9 < 5001) := fun z => absurd (hfi.mpr z) (by decide)
                        refine lv_iload hx hb dL_deals_281 (lv_at hl 11 rfl) ?_
                        refine zb_Beq (tgt := 311) hx hb dL_deals_283 (by decide) (fun c_119 => False.elim (by revert c_119; decide)) (fun _ => ?_)
                        refine lv_iload hx hb dL_deals_286 (lv_at hl 0 rfl) ?_
                        refine zb_Beq (tgt := 311) hx hb dL_deals_288 (by decide) (fun _ => ?_) (fun c_120 => False.elim (by revert c_120; decide))
                        refine lv_iconst (v := (-1)) hx hb dL_deals_311 (by decide) ?_
                        refine lv_istore (lv' := [(13, .int (-1)), (12, .int (bB (false))), (11, .int (nI (un9))), (0, .ref (ad 0)), (1, .int (g)), (2, .ref (ad 27)), (3, .ref (ad 28)), (4, .ref (ad 29)), (5, .ref (ad 30)), (6, .ref (ad 31)), (7, .int (nI (fr9))), (8, .int (nI (to9))), (9, .int (bB (true))), (10, .int (nI (mtr K fr9 to9 (699))))]) hx hb dL_deals_312 hl (by decide) rfl (fun ls hl => ?_)
                        refine lv_iload hx hb dL_deals_314 (lv_at hl 0 rfl) ?_
                        refine lv_if_lt (tgt := 343) hx hb dL_deals_316 (by decide) (fun _ => ?_) (fun c_121 => False.elim (by revert c_121; decide))
                        refine lv_aload_n hx hb dL_deals_343 rfl (lv_at hl 3 rfl) ?_
                        refine lv_iload hx hb dL_deals_344 (lv_at hl 10 rfl) ?_
                        refine lv_iload hx hb dL_deals_346 (lv_at hl 11 rfl) ?_
                        refine lv_iload hx hb dL_deals_348 (lv_at hl 2 rfl) ?_
                        refine zz_i (vx_runSX (As := [.ref (ad 0), .int (nI (fr9)), .int (nI (to9)), .int (nI (un9))]) (rest := []) ⟨hx, hb, hml, hown, hts⟩ (q_traded l hfl hI.inv (by decide) hnd hAd (Nat.le_trans hz0 hS.1) hT  (nI (fr9)) (nI (to9)) (nI (un9))) (vx_cwSW 4 hts gL_deals_L_traded rfl rfl rfl (by decide +kernel) (by decide)) (psV hK hP hX (fun a h1 h2 => hS.2.1 a h1 h2)) rfl rfl hl.1 rfl (lv_room (Nat.le_of_ble_eq_true rfl)) dL_deals_350 ⟨show 0 + 3 + 5 ≤ 20 by omega, show 0 + 18 + 30 ≤ 120 by omega⟩) hS (fun q _ h => h) (fun q h => h) (fun r9 u_122 t9 H locs ht9 hv9 hp9 hB9 hz1 hk1 hS => ?_)
                        obtain ⟨e_122, hT⟩ := hp9
                        have hP := hB9.2
                        rw [ht9] at hP
                        clear hB9 ht9 hv9 hz1 hk1
                        have hcd_122 : cd3 (ixB (nI (fr9)) (K 0 0) && ixB (nI (to9)) (K 0 0)) (decide ((nI (fr9)) ≠ (nI (to9))) && rgB (nI (un9)) (nI 1) (nI 5000)) (cn K (clN (nI (fr9))) (clN (nI (to9))) (clN (nI (un9)))) = 2 := cd3_2 (ix2_t hap.1 hap.2 (by omega) (by omega)) (by rw [rg_f (a := un9) (by omega) (by omega) (by decide) (by decide), Bool.and_false])
                        have eM_122 : moC (cd3 (ixB (nI (fr9)) (K 0 0) && ixB (nI (to9)) (K 0 0)) (decide ((nI (fr9)) ≠ (nI (to9))) && rgB (nI (un9)) (nI 1) (nI 5000)) (cn K (clN (nI (fr9))) (clN (nI (to9))) (clN (nI (un9))))) (nx_trade K (clN (nI (fr9))) (clN (nI (to9))) (clN (nI (un9)))) K = K := moC_n (by rw [hcd_122]; decide)
                        rw [eM_122] at hP hT
                        have e_122 := e_122.trans (rsc_2 hcd_122)
                        subst e_122
                        refine lv_iload hx hb dL_deals_353 (lv_at hl 12 rfl) ?_
                        refine zb_Bne (tgt := 363) hx hb dL_deals_355 (by decide) (fun _ => ?_) (fun c_123 => False.elim (by revert c_123; decide))
                        refine lv_iload hx hb dL_deals_363 (lv_at hl 1 rfl) ?_
                        refine zb_Bne (tgt := 373) hx hb dL_deals_365 (by decide) (fun c_124 => False.elim (by revert c_124; decide)) (fun _ => ?_)
                        refine lv_bipush (v := (-102)) hx hb dL_deals_368 (by decide) ?_
                        refine lv_goto (tgt := 385) hx hb dL_deals_370 (by decide) ?_
                        refine lv_icmp_ne (tgt := 392) hx hb dL_deals_385 (by decide) (fun c_125 => False.elim (by revert c_125; decide)) (fun _ => ?_)
                        refine lv_iconst (v := nI 1) hx hb dL_deals_388 (by decide) ?_
                        refine lv_goto (tgt := 393) hx hb dL_deals_389 (by decide) ?_
                        exact hret (b := true) (u := (K, u_122.1, u_122.2)) (show 0 + 3 + 5 ≤ 20 by omega) (show 0 + 18 + 30 ≤ 120 by omega) ⟨rfl, hI, hT⟩ rfl hS (fun t ht hA => ⟨va_K.moved hA hK, by rw [ht]; exact hP⟩) dL_deals_393
                      · skip
                        have hfp := hfi.mp rfl
                        refine lv_iload hx hb dL_deals_281 (lv_at hl 11 rfl) ?_
                        refine zb_Beq (tgt := 311) hx hb dL_deals_283 (by decide) (fun c_126 => False.elim (by revert c_126; decide)) (fun _ => ?_)
                        refine lv_iload hx hb dL_deals_286 (lv_at hl 0 rfl) ?_
                        refine zb_Beq (tgt := 311) hx hb dL_deals_288 (by decide) (fun c_127 => False.elim (by revert c_127; decide)) (fun _ => ?_)
                        refine lv_aload_n hx hb dL_deals_291 rfl (lv_at hl 4 rfl) ?_
                        refine lv_aload_n hx hb dL_deals_292 rfl (lv_at hl 5 rfl) ?_
                        refine lv_aload hx hb dL_deals_293 (lv_at hl 6 rfl) ?_
                        refine lv_aload hx hb dL_deals_295 (lv_at hl 7 rfl) ?_
                        refine lv_aload hx hb dL_deals_297 (lv_at hl 8 rfl) ?_
                        refine lv_iload hx hb dL_deals_299 (lv_at hl 9 rfl) ?_
                        refine lv_iload hx hb dL_deals_301 (lv_at hl 10 rfl) ?_
                        refine lv_iload hx hb dL_deals_303 (lv_at hl 1 rfl) ?_
                        refine va_calli (va_runS (As := [.ref (ad 27), .ref (ad 28), .ref (ad 29), .ref (ad 30), .ref (ad 31), .int (nI (fr9)), .int (nI (to9)), .int (nI (un9))]) (rest := []) ⟨hx, hb, hml, hown, hts⟩ (l_trades l hI hnd hAd (Nat.le_trans hz0 hS.1) (wf := fr9) (wt := to9) (u := un9) hap.1 hap.2 hne (by omega)) (va_cwS 8 hts gL_deals_L_trades rfl rfl rfl (by decide +kernel) (by decide)) (psAS hK hP) rfl rfl hl.1 rfl (lv_room (Nat.le_of_ble_eq_true rfl)) dL_deals_305 ⟨show 0 + 3 + 0 ≤ 20 by omega, show 0 + 18 + 0 ≤ 120 by omega⟩) hS (fun q _ h => h) (fun q h => h) (fun r9 u9 t9 H locs ht9 hv9 hp9 hB9 hz1 hk1 hS => ?_)
                        have hP := hB9.2
                        rw [ht9] at hP
                        by_cases hcn : cn K fr9 to9 (un9) = true
                        · skip
                          rw [if_pos hcn] at hp9
                          subst hp9
                          have fgt := (gt_le hI.inv fr9 to9 (u := un9) (by omega)).2
                          refine lv_goto (tgt := 312) hx hb dL_deals_308 (by decide) ?_
                          refine lv_istore (lv' := [(13, .int (nI (gt K fr9 to9 (un9)))), (12, .int (bB (true))), (11, .int (nI (un9))), (0, .ref (ad 0)), (1, .int (g)), (2, .ref (ad 27)), (3, .ref (ad 28)), (4, .ref (ad 29)), (5, .ref (ad 30)), (6, .ref (ad 31)), (7, .int (nI (fr9))), (8, .int (nI (to9))), (9, .int (bB (true))), (10, .int (nI (mtr K fr9 to9 (699))))]) hx hb dL_deals_312 hl (by decide) rfl (fun ls hl => ?_)
                          refine lv_iload hx hb dL_deals_314 (lv_at hl 0 rfl) ?_
                          refine zb_0lt (tgt := 343) hx hb (by omega) dL_deals_316 (by decide) ?_
                          have hcs := cn_s hcn
                          refine lv_aload_n hx hb dL_deals_319 rfl (lv_at hl 6 rfl) ?_
                          refine lv_bipush (v := nI 10) hx hb dL_deals_320 (by decide) ?_
                          refine lv_iload hx hb dL_deals_322 (lv_at hl 10 rfl) ?_
                          refine zr_iadd hx hb dL_deals_324 ?_
                          refine lv_dup2_11 hx hb dL_deals_325 rfl rfl ?_
                          have f_129 := hI.inv.li (fr9)
                          refine zi_ld hx hb hK hP 28 (by decide) 0 rfl rfl (by decide) (i := 10 + (fr9)) (by omega) (v := nI (K 3 (fr9))) (fw_3 (by omega)) dL_deals_326 ?_
                          refine lv_iload hx hb dL_deals_327 (lv_at hl 2 rfl) ?_
                          refine zr_isub hx hb (by omega) dL_deals_329 ?_
                          refine zi_st hx hb hK hP hnd hAd hS 28 (by decide) 0 rfl rfl (by decide) (i := 10 + (fr9)) (by omega) (wxE ad cI cJ cQ (K) (u_100.1) (u_100.2) (mup K (3) (fr9) ((K 3 (fr9)) - (un9))) (X)) (wlS_w3 (by omega)) dL_deals_330 (fun H locs hP hS => ?_)
                          refine lv_aload_n hx hb dL_deals_331 rfl (lv_at hl 6 rfl) ?_
                          refine lv_bipush (v := nI 10) hx hb dL_deals_332 (by decide) ?_
                          refine lv_iload hx hb dL_deals_334 (lv_at hl 11 rfl) ?_
                          refine zr_iadd hx hb dL_deals_336 ?_
                          refine lv_dup2_11 hx hb dL_deals_337 rfl rfl ?_
                          have f_130 := hI.inv.li (to9)
                          refine zi_ld hx hb hK hP 28 (by decide) 0 rfl rfl (by decide) (i := 10 + (to9)) (by omega) (v := nI ((mup K (3) (fr9) ((K 3 (fr9)) - (un9))) 3 (to9))) (fw_3 (by omega)) dL_deals_338 ?_
                          refine zt_i (y := nI (K 3 (to9))) (congrArg nI (mup_i (fun z => hne z.symm))) ?_
                          refine lv_iload hx hb dL_deals_339 (lv_at hl 0 rfl) ?_
                          refine zr_iadd hx hb dL_deals_341 ?_
                          refine zi_st hx hb hK hP hnd hAd hS 28 (by decide) 0 rfl rfl (by decide) (i := 10 + (to9)) (by omega) (wxE ad cI cJ cQ (K) (u_100.1) (u_100.2) (mup (mup K (3) (fr9) ((K 3 (fr9)) - (un9))) (3) (to9) ((K 3 (to9)) + (gt K fr9 to9 (un9)))) (X)) (wlS_w3 (by omega)) dL_deals_342 (fun H locs hP hS => ?_)
                          refine lv_aload_n hx hb dL_deals_343 rfl (lv_at hl 3 rfl) ?_
                          refine lv_iload hx hb dL_deals_344 (lv_at hl 10 rfl) ?_
                          refine lv_iload hx hb dL_deals_346 (lv_at hl 11 rfl) ?_
                          refine lv_iload hx hb dL_deals_348 (lv_at hl 2 rfl) ?_
                          refine zz_i (vx_runSX (As := [.ref (ad 0), .int (nI (fr9)), .int (nI (to9)), .int (nI (un9))]) (rest := []) ⟨hx, hb, hml, hown, hts⟩ (q_traded l hfl hI.inv (by decide) hnd hAd (Nat.le_trans hz0 hS.1) hT  (nI (fr9)) (nI (to9)) (nI (un9))) (vx_cwSW 4 hts gL_deals_L_traded rfl rfl rfl (by decide +kernel) (by decide)) (psV hK hP hX (fun a h1 h2 => hS.2.1 a h1 h2)) rfl rfl hl.1 rfl (lv_room (Nat.le_of_ble_eq_true rfl)) dL_deals_350 ⟨show 0 + 3 + 5 ≤ 20 by omega, show 0 + 18 + 30 ≤ 120 by omega⟩) hS (fun q _ h => h) (fun q h => h) (fun r9 u_131 t9 H locs ht9 hv9 hp9 hB9 hz1 hk1 hS => ?_)
                          obtain ⟨e_131, hT⟩ := hp9
                          have hP := hB9.2
                          rw [ht9] at hP
                          clear hB9 ht9 hv9 hz1 hk1
                          have hcd_131 : cd3 (ixB (nI (fr9)) (K 0 0) && ixB (nI (to9)) (K 0 0)) (decide ((nI (fr9)) ≠ (nI (to9))) && rgB (nI (un9)) (nI 1) (nI 5000)) (cn K (clN (nI (fr9))) (clN (nI (to9))) (clN (nI (un9)))) = 0 := cd3_0 (ix2_t hap.1 hap.2 (by omega) (by omega)) (by rw [decide_eq_true (nI_ne (by omega) (by omega) hne), rg_t (by omega) (by omega) (by decide)]; rfl) (by simp only [clN_nI (show fr9 < 2 ^ 31 by omega), clN_nI (show to9 < 2 ^ 31 by omega), clN_nI (show un9 < 2 ^ 31 by omega)]; exact hcn)
                          have eM_131 : moC (cd3 (ixB (nI (fr9)) (K 0 0) && ixB (nI (to9)) (K 0 0)) (decide ((nI (fr9)) ≠ (nI (to9))) && rgB (nI (un9)) (nI 1) (nI 5000)) (cn K (clN (nI (fr9))) (clN (nI (to9))) (clN (nI (un9))))) (nx_trade K (clN (nI (fr9))) (clN (nI (to9))) (clN (nI (un9)))) K = nx_trade K ((fr9)) ((to9)) ((un9)) := (moC_z hcd_131).trans (by first | rfl | simp only [clN_nI (show fr9 < 2 ^ 31 by omega), clN_nI (show to9 < 2 ^ 31 by omega), clN_nI (show un9 < 2 ^ 31 by omega)])
                          rw [eM_131] at hP hT
                          have e_131 := e_131.trans ((rsc_0 hcd_131).trans (show nI (gt K (clN (nI (fr9))) (clN (nI (to9))) (clN (nI (un9)))) = nI (gt K ((fr9)) ((to9)) ((un9))) by first | rfl | simp only [clN_nI (show fr9 < 2 ^ 31 by omega), clN_nI (show to9 < 2 ^ 31 by omega), clN_nI (show un9 < 2 ^ 31 by omega)]))
                          subst e_131
                          refine lv_iload hx hb dL_deals_353 (lv_at hl 12 rfl) ?_
                          refine zb_Bne (tgt := 363) hx hb dL_deals_355 (by decide) (fun _ => ?_) (fun c_132 => False.elim (by revert c_132; decide))
                          refine lv_iload hx hb dL_deals_363 (lv_at hl 1 rfl) ?_
                          refine zb_Bne (tgt := 373) hx hb dL_deals_365 (by decide) (fun _ => ?_) (fun c_133 => False.elim (by revert c_133; decide))
                          refine lv_iload hx hb dL_deals_373 (lv_at hl 0 rfl) ?_
                          refine zb_0lt (tgt := 383) hx hb (by omega) dL_deals_375 (by decide) ?_
                          refine lv_iload hx hb dL_deals_378 (lv_at hl 0 rfl) ?_
                          refine lv_goto (tgt := 385) hx hb dL_deals_380 (by decide) ?_
                          refine zb_ne (tgt := 392) hx hb (by omega) (by omega) dL_deals_385 (by decide) (fun c_135 => ?_) (fun c_135 => ?_)
                          · skip
                            exact False.elim (by omega)
                          · skip
                            refine lv_iconst (v := nI 1) hx hb dL_deals_388 (by decide) ?_
                            refine lv_goto (tgt := 393) hx hb dL_deals_389 (by decide) ?_
                            exact hret (b := true) (u := (nx_trade K ((fr9)) ((to9)) ((un9)), u_131.1, u_131.2)) (show 0 + 3 + 5 ≤ 20 by omega) (show 0 + 18 + 30 ≤ 120 by omega) ⟨rfl, (inl_trade hI hcn), hT⟩ rfl hS (fun t ht hA => ⟨va_K.moved hA hK, by rw [ht]; exact hP⟩) dL_deals_393
                        · skip
                          rw [if_neg hcn] at hp9
                          subst hp9
                          refine lv_goto (tgt := 312) hx hb dL_deals_308 (by decide) ?_
                          refine lv_istore (lv' := [(13, .int (-1)), (12, .int (bB (true))), (11, .int (nI (un9))), (0, .ref (ad 0)), (1, .int (g)), (2, .ref (ad 27)), (3, .ref (ad 28)), (4, .ref (ad 29)), (5, .ref (ad 30)), (6, .ref (ad 31)), (7, .int (nI (fr9))), (8, .int (nI (to9))), (9, .int (bB (true))), (10, .int (nI (mtr K fr9 to9 (699))))]) hx hb dL_deals_312 hl (by decide) rfl (fun ls hl => ?_)
                          refine lv_iload hx hb dL_deals_314 (lv_at hl 0 rfl) ?_
                          refine lv_if_lt (tgt := 343) hx hb dL_deals_316 (by decide) (fun _ => ?_) (fun c_136 => False.elim (by revert c_136; decide))
                          refine lv_aload_n hx hb dL_deals_343 rfl (lv_at hl 3 rfl) ?_
                          refine lv_iload hx hb dL_deals_344 (lv_at hl 10 rfl) ?_
                          refine lv_iload hx hb dL_deals_346 (lv_at hl 11 rfl) ?_
                          refine lv_iload hx hb dL_deals_348 (lv_at hl 2 rfl) ?_
                          refine zz_i (vx_runSX (As := [.ref (ad 0), .int (nI (fr9)), .int (nI (to9)), .int (nI (un9))]) (rest := []) ⟨hx, hb, hml, hown, hts⟩ (q_traded l hfl hI.inv (by decide) hnd hAd (Nat.le_trans hz0 hS.1) hT  (nI (fr9)) (nI (to9)) (nI (un9))) (vx_cwSW 4 hts gL_deals_L_traded rfl rfl rfl (by decide +kernel) (by decide)) (psV hK hP hX (fun a h1 h2 => hS.2.1 a h1 h2)) rfl rfl hl.1 rfl (lv_room (Nat.le_of_ble_eq_true rfl)) dL_deals_350 ⟨show 0 + 3 + 5 ≤ 20 by omega, show 0 + 18 + 30 ≤ 120 by omega⟩) hS (fun q _ h => h) (fun q h => h) (fun r9 u_137 t9 H locs ht9 hv9 hp9 hB9 hz1 hk1 hS => ?_)
                          obtain ⟨e_137, hT⟩ := hp9
                          have hP := hB9.2
                          rw [ht9] at hP
                          clear hB9 ht9 hv9 hz1 hk1
                          have hcd_137 : cd3 (ixB (nI (fr9)) (K 0 0) && ixB (nI (to9)) (K 0 0)) (decide ((nI (fr9)) ≠ (nI (to9))) && rgB (nI (un9)) (nI 1) (nI 5000)) (cn K (clN (nI (fr9))) (clN (nI (to9))) (clN (nI (un9)))) = 3 := cd3_3 (ix2_t hap.1 hap.2 (by omega) (by omega)) (by rw [decide_eq_true (nI_ne (by omega) (by omega) hne), rg_t (by omega) (by omega) (by decide)]; rfl) (by simp only [clN_nI (show fr9 < 2 ^ 31 by omega), clN_nI (show to9 < 2 ^ 31 by omega), clN_nI (show un9 < 2 ^ 31 by omega)]; exact Bool.eq_false_iff.mpr hcn)
                          have eM_137 : moC (cd3 (ixB (nI (fr9)) (K 0 0) && ixB (nI (to9)) (K 0 0)) (decide ((nI (fr9)) ≠ (nI (to9))) && rgB (nI (un9)) (nI 1) (nI 5000)) (cn K (clN (nI (fr9))) (clN (nI (to9))) (clN (nI (un9))))) (nx_trade K (clN (nI (fr9))) (clN (nI (to9))) (clN (nI (un9)))) K = K := moC_n (by rw [hcd_137]; decide)
                          rw [eM_137] at hP hT
                          have e_137 := e_137.trans (rsc_3 hcd_137)
                          subst e_137
                          refine lv_iload hx hb dL_deals_353 (lv_at hl 12 rfl) ?_
                          refine zb_Bne (tgt := 363) hx hb dL_deals_355 (by decide) (fun _ => ?_) (fun c_138 => False.elim (by revert c_138; decide))
                          refine lv_iload hx hb dL_deals_363 (lv_at hl 1 rfl) ?_
                          refine zb_Bne (tgt := 373) hx hb dL_deals_365 (by decide) (fun _ => ?_) (fun c_139 => False.elim (by revert c_139; decide))
                          refine lv_iload hx hb dL_deals_373 (lv_at hl 0 rfl) ?_
                          refine lv_if_lt (tgt := 383) hx hb dL_deals_375 (by decide) (fun _ => ?_) (fun c_140 => False.elim (by revert c_140; decide))
                          refine lv_bipush (v := (-103)) hx hb dL_deals_383 (by decide) ?_
                          refine lv_icmp_ne (tgt := 392) hx hb dL_deals_385 (by decide) (fun c_141 => False.elim (by revert c_141; decide)) (fun _ => ?_)
                          refine lv_iconst (v := nI 1) hx hb dL_deals_388 (by decide) ?_
                          refine lv_goto (tgt := 393) hx hb dL_deals_389 (by decide) ?_
                          exact hret (b := true) (u := (K, u_137.1, u_137.2)) (show 0 + 3 + 5 ≤ 20 by omega) (show 0 + 18 + 30 ≤ 120 by omega) ⟨rfl, hI, hT⟩ rfl hS (fun t ht hA => ⟨va_K.moved hA hK, by rw [ht]; exact hP⟩) dL_deals_393
                    · skip
                      exact False.elim (by omega)
                  · skip
                    exact absurd c_102 hne
                · skip
                  refine lv_iconst (v := nI 1) hx hb dL_deals_156 (by decide) ?_
                  exact hret (b := true) (u := (K, ts, pu)) (show 0 ≤ 20 by omega) (show 0 ≤ 120 by omega) ⟨rfl, hI, hT⟩ rfl hS (fun t ht hA => ⟨va_K.moved hA hK, by rw [ht]; exact hP⟩) dL_deals_157
            · skip
              refine lv_iload hx hb dL_deals_84 (lv_at hl 9 rfl) ?_
              refine zb_Beq (tgt := 131) hx hb dL_deals_86 (by decide) (fun c_142 => False.elim (by revert c_142; decide)) (fun _ => ?_)
              refine lv_iload hx hb dL_deals_89 (lv_at hl 7 rfl) ?_
              refine lv_iload hx hb dL_deals_91 (lv_at hl 8 rfl) ?_
              refine zb_eq (tgt := 131) hx hb (by omega) (by omega) dL_deals_93 (by decide) (fun c_143 => ?_) (fun c_143 => ?_)
              · skip
                exact absurd c_143 hne
              · skip
                refine lv_aload_n hx hb dL_deals_96 rfl (lv_at hl 2 rfl) ?_
                refine lv_aload_n hx hb dL_deals_97 rfl (lv_at hl 3 rfl) ?_
                refine lv_aload hx hb dL_deals_98 (lv_at hl 4 rfl) ?_
                refine lv_aload hx hb dL_deals_100 (lv_at hl 5 rfl) ?_
                refine lv_aload hx hb dL_deals_102 (lv_at hl 6 rfl) ?_
                refine lv_iload hx hb dL_deals_104 (lv_at hl 7 rfl) ?_
                refine lv_iload hx hb dL_deals_106 (lv_at hl 8 rfl) ?_
                refine lv_iload hx hb dL_deals_108 (lv_at hl 11 rfl) ?_
                refine va_calli (va_runS (As := [.ref (ad 27), .ref (ad 28), .ref (ad 29), .ref (ad 30), .ref (ad 31), .int (nI (fr9)), .int (nI (to9)), .int (nI ((uu) + 1))]) (rest := []) ⟨hx, hb, hml, hown, hts⟩ (l_trades l hI hnd hAd (Nat.le_trans hz0 hS.1) (wf := fr9) (wt := to9) (u := (uu) + 1) hap.1 hap.2 hne (by omega)) (va_cwS 8 hts gL_deals_L_trades rfl rfl rfl (by decide +kernel) (by decide)) (psAS hK hP) rfl rfl hl.1 rfl (lv_room (Nat.le_of_ble_eq_true rfl)) dL_deals_110 (by decide)) hS (fun q _ h => h) (fun q h => h) (fun r9 u9 t9 H locs ht9 hv9 hp9 hB9 hz1 hk1 hS => ?_)
                have hP := hB9.2
                rw [ht9] at hP
                by_cases hcn : cn K fr9 to9 ((uu) + 1) = true
                · skip
                  rw [if_pos hcn] at hp9
                  subst hp9
                  have fgt := (gt_le hI.inv fr9 to9 (u := (uu) + 1) (by omega)).2
                  refine zb_0lt (tgt := 121) hx hb (by omega) dL_deals_113 (by decide) ?_
                  refine lv_iload hx hb dL_deals_116 (lv_at hl 11 rfl) ?_
                  refine lv_goto (tgt := 123) hx hb dL_deals_118 (by decide) ?_
                  refine zt_i (y := nI (mtr K fr9 to9 (uu + 1))) (congrArg nI (if_pos hcn).symm) ?_
                  refine lv_istore (lv' := [(10, .int (nI (mtr K fr9 to9 (uu + 1)))), (0, .ref (ad 0)), (1, .int (g)), (2, .ref (ad 27)), (3, .ref (ad 28)), (4, .ref (ad 29)), (5, .ref (ad 30)), (6, .ref (ad 31)), (7, .int (nI (fr9))), (8, .int (nI (to9))), (9, .int (bB (true))), (11, .int (nI ((uu) + 1)))]) hx hb dL_deals_123 hl (by decide) rfl (fun ls hl => ?_)
                  refine lv_iinc (v := nI ((uu) + 1 + 1)) (lv' := [(11, .int (nI ((uu) + 1 + 1))), (10, .int (nI (mtr K fr9 to9 (uu + 1)))), (0, .ref (ad 0)), (1, .int (g)), (2, .ref (ad 27)), (3, .ref (ad 28)), (4, .ref (ad 29)), (5, .ref (ad 30)), (6, .ref (ad 31)), (7, .int (nI (fr9))), (8, .int (nI (to9))), (9, .int (bB (true)))]) hx hb dL_deals_125 hl (k := 11) rfl (zn_inc ((uu) + 1)) (by decide) rfl (fun ls hl => ?_)
                  refine lv_goto (tgt := 76) hx hb dL_deals_128 (by decide) ?_
                  exact ih76 (uu + 1) (by omega) (by omega) _ _ hP hS _ (lv_sub hl [2, 3, 4, 5, 6, 7, 8, 9, 10, 11, 1, 0] rfl)
                · skip
                  rw [if_neg hcn] at hp9
                  subst hp9
                  refine lv_if_lt (tgt := 121) hx hb dL_deals_113 (by decide) (fun _ => ?_) (fun c_145 => False.elim (by revert c_145; decide))
                  refine lv_iload hx hb dL_deals_121 (lv_at hl 10 rfl) ?_
                  refine zt_i (y := nI (mtr K fr9 to9 (uu + 1))) (congrArg nI (if_neg hcn).symm) ?_
                  refine lv_istore (lv' := [(10, .int (nI (mtr K fr9 to9 (uu + 1)))), (0, .ref (ad 0)), (1, .int (g)), (2, .ref (ad 27)), (3, .ref (ad 28)), (4, .ref (ad 29)), (5, .ref (ad 30)), (6, .ref (ad 31)), (7, .int (nI (fr9))), (8, .int (nI (to9))), (9, .int (bB (true))), (11, .int (nI ((uu) + 1)))]) hx hb dL_deals_123 hl (by decide) rfl (fun ls hl => ?_)
                  refine lv_iinc (v := nI ((uu) + 1 + 1)) (lv' := [(11, .int (nI ((uu) + 1 + 1))), (10, .int (nI (mtr K fr9 to9 (uu + 1)))), (0, .ref (ad 0)), (1, .int (g)), (2, .ref (ad 27)), (3, .ref (ad 28)), (4, .ref (ad 29)), (5, .ref (ad 30)), (6, .ref (ad 31)), (7, .int (nI (fr9))), (8, .int (nI (to9))), (9, .int (bB (true)))]) hx hb dL_deals_125 hl (k := 11) rfl (zn_inc ((uu) + 1)) (by decide) rfl (fun ls hl => ?_)
                  refine lv_goto (tgt := 76) hx hb dL_deals_128 (by decide) ?_
                  exact ih76 (uu + 1) (by omega) (by omega) _ _ hP hS _ (lv_sub hl [2, 3, 4, 5, 6, 7, 8, 9, 10, 11, 1, 0] rfl)
        exact lp76 (699 - (0) + 1) (0) (by omega) (by omega) _ _ hP hS _ (lv_sub hl [5, 6, 7, 8, 9, 10, 11, 4, 3, 2, 1, 0] rfl)
