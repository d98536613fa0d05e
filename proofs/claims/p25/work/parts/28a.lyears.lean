set_option maxHeartbeats 4000000 in
set_option maxRecDepth 100000 in
/-- the years are looked at -/
theorem l_years (l : Launch) (hfl : l.stackTraces = false) {D : va_G} {ad0 : Nat → Nat} {cI cJ cQ : ClassId} {K : Mdl} {ts : Nat → Nat} {pu : Nat → Int64} {X : Nat → va_E} {sa : Nat → Nat} {sz z0 : Nat} (hI : Inl K) (hnd0 : ndz 37 ad0) (hAd0 : ∀ i, i < 37 → zA z0 (ad0 i)) (hz0 : z0 ≤ sz) (hT : hTs K ts)   : Met l yL_years wsL_years (rmX 4 200) (va_Pc [.ref (ad0 0), .ref (ad0 27), .ref (ad0 28), .ref (ad0 32), .ref (ad0 33), .ref (ad0 34), .ref (ad0 35), .ref (ad0 36)] (KV D 37 ad0 cI cJ cQ (wxE ad0 cI cJ cQ K ts pu K X) sa (zA z0) sz)) (va_Qi (fun r_ (u_ : (Nat → Nat) × (Nat → Int64)) => ∃ b : Bool, r_ = bB b ∧ (b = true ∧ hTs K u_.1)) (fun (u_ : (Nat → Nat) × (Nat → Int64)) t_ => KA D 37 ad0 cI cJ cQ (wxE ad0 cI cJ cQ K u_.1 u_.2 K X) t_) (zA z0)) 200 1200 (zA z0) := by
  refine mkW_Qz (S := (Nat → Nat) × (Nat → Int64)) (post := fun b (u_ : (Nat → Nat) × (Nat → Int64)) => b = true ∧ hTs K u_.1) (BQ := fun (u_ : (Nat → Nat) × (Nat → Int64)) t_ => KA D 37 ad0 cI cJ cQ (wxE ad0 cI cJ cQ K u_.1 u_.2 K X) t_) (cc := cL_years) (maxL := 17) (by decide) rfl (Nat.le_of_ble_eq_true rfl) ?_
  intro p e s m args below meth c Q C0 B0 hret ls hl
  obtain ⟨hx, hb, hr, hml, hown, hts, hlocks⟩ := C0
  have hown : s.vm.findClass RL = some m.cls := hown
  obtain ⟨hsz, hX, hK, hP⟩ := B0
  subst hsz
  have b_nw := hI.nw
  have b_nv := hI.nv
  have hS : va_S (zA z0) s.heap s.heap [] := va_S.rf
  have hl : lv_has ls 17 [(0, .ref (ad0 0)), (1, .ref (ad0 27)), (2, .ref (ad0 28)), (3, .ref (ad0 32)), (4, .ref (ad0 33)), (5, .ref (ad0 34)), (6, .ref (ad0 35)), (7, .ref (ad0 36))] := hl
  refine lv_bipush (v := nI 36) hx hb dL_years_0 (by decide) ?_
  refine zn_I hx hb (hts (.arrayClass .int) (by decide +kernel)) hK hP hnd0 hAd0 hS hz0 (by decide) (show 0 + 1 ≤ 200 by omega) (show 0 + 36 ≤ 1200 by omega) dL_years_2 (fun ad1 H he1 hnd1 hAd1 hP hS => ?_)
  refine lv_astore (lv' := [(8, .ref (ad1 37)), (0, .ref (ad0 0)), (1, .ref (ad0 27)), (2, .ref (ad0 28)), (3, .ref (ad0 32)), (4, .ref (ad0 33)), (5, .ref (ad0 34)), (6, .ref (ad0 35)), (7, .ref (ad0 36))]) hx hb dL_years_4 hl (by decide) rfl (fun ls hl => ?_)
  refine lv_bipush (v := nI 36) hx hb dL_years_6 (by decide) ?_
  refine zn_I hx hb (hts (.arrayClass .int) (by decide +kernel)) hK hP hnd1 hAd1 hS hz0 (by decide) (show 0 + 1 + 1 ≤ 200 by omega) (show 0 + 36 + 36 ≤ 1200 by omega) dL_years_8 (fun ad H he2 hnd hAd hP hS => ?_)
  refine lv_astore (lv' := [(9, .ref (ad 38)), (8, .ref (ad1 37)), (0, .ref (ad0 0)), (1, .ref (ad0 27)), (2, .ref (ad0 28)), (3, .ref (ad0 32)), (4, .ref (ad0 33)), (5, .ref (ad0 34)), (6, .ref (ad0 35)), (7, .ref (ad0 36))]) hx hb dL_years_10 hl (by decide) rfl (fun ls hl => ?_)
  have he : ∀ k, k < 37 → ad k = ad0 k := fun k hk => (he2 k (by omega)).trans (he1 k hk)
  have hP := wx_mk he hP
  have hl := lv_cast (l2 := [(9, .ref (ad 38)), (8, .ref (ad 37)), (0, .ref (ad 0)), (1, .ref (ad 27)), (2, .ref (ad 28)), (3, .ref (ad 32)), (4, .ref (ad 33)), (5, .ref (ad 34)), (6, .ref (ad 35)), (7, .ref (ad 36))]) hl (by rw [he 0 (by omega), he 27 (by omega), he 28 (by omega), he 32 (by omega), he 33 (by omega), he 34 (by omega), he 35 (by omega), he 36 (by omega), he2 37 (by omega)])
  clear hnd1 hAd1 he1 he2
  generalize ([] : List Loc) = locs at hS ⊢
  refine lv_iconst (v := nI 0) hx hb dL_years_12 (by decide) ?_
  refine lv_istore (lv' := [(10, .int (nI (0))), (9, .ref (ad 38)), (8, .ref (ad 37)), (0, .ref (ad 0)), (1, .ref (ad 27)), (2, .ref (ad 28)), (3, .ref (ad 32)), (4, .ref (ad 33)), (5, .ref (ad 34)), (6, .ref (ad 35)), (7, .ref (ad 36))]) hx hb dL_years_13 hl (by decide) rfl (fun ls hl => ?_)
  have lp15 : ∀ (n9 w : Nat), w ≤ K 0 0 → K 0 0 - w < n9 → ∀ (tn : Nat → Int32), (∀ t, t < 36 → tn t = nI (ssum (fun w => ssum (fun m => tkc K w m t) 36) (w))) → ∀ (H : Heap) (locs : List Loc), va_P D vwCl (wz 39 ad (wxE ad cI cJ cQ (K) (ts) (pu) (K) (X2 (.inl (cI, 36, .inl (tn))) (.inl (cI, 36, .inl (fun _ => nI 0)))))) H → va_S (zA z0) s.heap H locs → ∀ ls : Array Slot, lv_has ls 17 [(0, .ref (ad 0)), (1, .ref (ad 27)), (2, .ref (ad 28)), (3, .ref (ad 32)), (4, .ref (ad 33)), (5, .ref (ad 34)), (6, .ref (ad 35)), (7, .ref (ad 36)), (8, .ref (ad 37)), (9, .ref (ad 38)), (10, .int (nI (w)))] → W p l e (rmX 4 200) s m args below meth c H locs (0 + 1 + 1) (0 + 36 + 36) Q (F0 m 15 ls []) := by
    intro n9
    induction n9 with
    | zero => intro w q1 q2; omega
    | succ n9 ih15 =>
      intro w q1_15 q2_15 tn htn H locs hP hS ls hl
      refine lv_iload hx hb dL_years_15 (lv_at hl 10 rfl) ?_
      refine lv_aload_n hx hb dL_years_17 rfl (lv_at hl 1 rfl) ?_
      refine lv_iconst (v := nI 0) hx hb dL_years_18 (by decide) ?_
      refine zi_ld hx hb hK hP 27 (by decide) 0 rfl rfl (by decide) (i := 0) (by omega) (v := nI (K 0 0)) rfl dL_years_19 ?_
      refine zb_ge (tgt := 83) hx hb (by omega) (by omega) dL_years_20 (by decide) (fun c_1 => ?_) (fun c_1 => ?_)
      · skip
        have q_2 : w = K 0 0 := by omega
        subst q_2
        refine lv_iconst (v := (-1)) hx hb dL_years_83 (by decide) ?_
        refine lv_istore (lv' := [(10, .int (-1)), (0, .ref (ad 0)), (1, .ref (ad 27)), (2, .ref (ad 28)), (3, .ref (ad 32)), (4, .ref (ad 33)), (5, .ref (ad 34)), (6, .ref (ad 35)), (7, .ref (ad 36)), (8, .ref (ad 37)), (9, .ref (ad 38))]) hx hb dL_years_84 hl (by decide) rfl (fun ls hl => ?_)
        refine lv_iload hx hb dL_years_86 (lv_at hl 0 rfl) ?_
        refine lv_iconst (v := nI 4) hx hb dL_years_88 (by decide) ?_
        refine lv_icmp_ge (tgt := 430) hx hb dL_years_89 (by decide) (fun c_3 => False.elim (by revert c_3; decide)) (fun _ => ?_)
        refine lv_iload hx hb dL_years_92 (lv_at hl 0 rfl) ?_
        refine lv_if_lt (tgt := 107) hx hb dL_years_94 (by decide) (fun _ => ?_) (fun c_4 => False.elim (by revert c_4; decide))
        refine lv_iconst (v := nI 0) hx hb dL_years_107 (by decide) ?_
        refine zt_i (y := bB false) rfl ?_
        refine lv_istore (lv' := [(11, .int (bB (false))), (10, .int (-1)), (0, .ref (ad 0)), (1, .ref (ad 27)), (2, .ref (ad 28)), (3, .ref (ad 32)), (4, .ref (ad 33)), (5, .ref (ad 34)), (6, .ref (ad 35)), (7, .ref (ad 36)), (8, .ref (ad 37)), (9, .ref (ad 38))]) hx hb dL_years_108 hl (by decide) rfl (fun ls hl => ?_)
        refine lv_iconst (v := nI 0) hx hb dL_years_110 (by decide) ?_
        refine lv_istore (lv' := [(12, .int (nI (0))), (11, .int (bB (false))), (10, .int (-1)), (0, .ref (ad 0)), (1, .ref (ad 27)), (2, .ref (ad 28)), (3, .ref (ad 32)), (4, .ref (ad 33)), (5, .ref (ad 34)), (6, .ref (ad 35)), (7, .ref (ad 36)), (8, .ref (ad 37)), (9, .ref (ad 38))]) hx hb dL_years_111 hl (by decide) rfl (fun ls hl => ?_)
        refine lv_iconst (v := nI 0) hx hb dL_years_113 (by decide) ?_
        refine lv_istore (lv' := [(13, .int (nI (0))), (12, .int (nI (0))), (11, .int (bB (false))), (10, .int (-1)), (0, .ref (ad 0)), (1, .ref (ad 27)), (2, .ref (ad 28)), (3, .ref (ad 32)), (4, .ref (ad 33)), (5, .ref (ad 34)), (6, .ref (ad 35)), (7, .ref (ad 36)), (8, .ref (ad 37)), (9, .ref (ad 38))]) hx hb dL_years_114 hl (by decide) rfl (fun ls hl => ?_)
        have lp116 : ∀ (n9 v : Nat), v ≤ K 0 0 + 1 → K 0 0 + 1 - v < n9 → ∀ (ts1 : Nat → Nat) (pu1 : Nat → Int64) (ln : Nat → Int32), (hTs K ts1) → ∀ (H : Heap) (locs : List Loc), va_P D vwCl (wz 39 ad (wxE ad cI cJ cQ (K) (ts1) (pu1) (K) (X2 (.inl (cI, 36, .inl (tn))) (.inl (cI, 36, .inl (ln)))))) H → va_S (zA z0) s.heap H locs → ∀ ls : Array Slot, lv_has ls 17 [(0, .ref (ad 0)), (1, .ref (ad 27)), (2, .ref (ad 28)), (3, .ref (ad 32)), (4, .ref (ad 33)), (5, .ref (ad 34)), (6, .ref (ad 35)), (7, .ref (ad 36)), (8, .ref (ad 37)), (9, .ref (ad 38)), (10, .int (-1)), (11, .int (bB (false))), (12, .int (nI (0))), (13, .int (nI (v)))] → W p l e (rmX 4 200) s m args below meth c H locs (0 + 1 + 1 + 5 * (v)) (0 + 36 + 36 + 30 * (v)) Q (F0 m 116 ls []) := by
          intro n9
          induction n9 with
          | zero => intro v q1 q2; omega
          | succ n9 ih116 =>
            intro v q1_116 q2_116 ts1 pu1 ln hT H locs hP hS ls hl
            refine lv_iload hx hb dL_years_116 (lv_at hl 13 rfl) ?_
            refine lv_aload_n hx hb dL_years_118 rfl (lv_at hl 1 rfl) ?_
            refine lv_iconst (v := nI 0) hx hb dL_years_119 (by decide) ?_
            refine zi_ld hx hb hK hP 27 (by decide) 0 rfl rfl (by decide) (i := 0) (by omega) (v := nI (K 0 0)) rfl dL_years_120 ?_
            refine zb_gt (tgt := 371) hx hb (by omega) (by omega) dL_years_121 (by decide) (fun c_5 => ?_) (fun c_5 => ?_)
            · skip
              have q_6 : v = K 0 0 + 1 := by omega
              subst q_6
              refine lv_aload_n hx hb dL_years_371 rfl (lv_at hl 0 rfl) ?_
              refine lv_iconst (v := nI 4) hx hb dL_years_372 (by decide) ?_
              refine lv_iload hx hb dL_years_373 (lv_at hl 10 rfl) ?_
              refine lv_iconst (v := nI 0) hx hb dL_years_375 (by decide) ?_
              refine zz_i (vx_runSX (As := [.ref (ad 0), .int (nI (4)), .int (-1), .int (nI (0))]) (rest := []) ⟨hx, hb, hml, hown, hts⟩ (q_of4 l hfl hI.inv (by decide) hnd hAd (Nat.le_trans hz0 hS.1) hT  ((-1)) (nI (0))) (vx_cwSW 4 hts gL_years_L_of rfl rfl rfl (by decide +kernel) (by decide)) (psV hK hP hX (fun a h1 h2 => hS.2.1 a h1 h2)) rfl rfl hl.1 rfl (lv_room (Nat.le_of_ble_eq_true rfl)) dL_years_376 ⟨show 0 + 1 + 1 + 5 * (K 0 0 + 1) + 1 ≤ 200 by omega, show 0 + 36 + 36 + 30 * (K 0 0 + 1) + 6 ≤ 1200 by omega⟩) hS (fun q _ h => h) (fun q h => h) (fun r9 u_7 t9 H locs ht9 hv9 hp9 hB9 hz1 hk1 hS => ?_)
              obtain ⟨e_7, hT⟩ := hp9
              have hP := hB9.2
              rw [ht9] at hP
              clear hB9 ht9 hv9 hz1 hk1
              have hcd_7 : cd1 (ixB ((-1)) 3) = 1 := cd1_1 ixB_m
              have e_7 := e_7.trans (rsc_1 hcd_7)
              subst e_7
              refine lv_iload hx hb dL_years_379 (lv_at hl 11 rfl) ?_
              refine zb_Beq (tgt := 389) hx hb dL_years_381 (by decide) (fun _ => ?_) (fun c_8 => False.elim (by revert c_8; decide))
              refine lv_bipush (v := (-101)) hx hb dL_years_389 (by decide) ?_
              refine lv_icmp_ne (tgt := 422) hx hb dL_years_391 (by decide) (fun c_9 => False.elim (by revert c_9; decide)) (fun _ => ?_)
              refine lv_aload_n hx hb dL_years_394 rfl (lv_at hl 0 rfl) ?_
              refine lv_iconst (v := nI 5) hx hb dL_years_395 (by decide) ?_
              refine lv_iload hx hb dL_years_396 (lv_at hl 10 rfl) ?_
              refine lv_iconst (v := nI 0) hx hb dL_years_398 (by decide) ?_
              refine zz_i (vx_runSX (As := [.ref (ad 0), .int (nI (5)), .int (-1), .int (nI (0))]) (rest := []) ⟨hx, hb, hml, hown, hts⟩ (q_of5 l hfl hI.inv (by decide) hnd hAd (Nat.le_trans hz0 hS.1) hT  ((-1)) (nI (0))) (vx_cwSW 4 hts gL_years_L_of rfl rfl rfl (by decide +kernel) (by decide)) (psV hK hP hX (fun a h1 h2 => hS.2.1 a h1 h2)) rfl rfl hl.1 rfl (lv_room (Nat.le_of_ble_eq_true rfl)) dL_years_399 ⟨show 0 + 1 + 1 + 5 * (K 0 0 + 1) + 1 + 1 ≤ 200 by omega, show 0 + 36 + 36 + 30 * (K 0 0 + 1) + 6 + 6 ≤ 1200 by omega⟩) hS (fun q _ h => h) (fun q h => h) (fun r9 u_10 t9 H locs ht9 hv9 hp9 hB9 hz1 hk1 hS => ?_)
              obtain ⟨e_10, hT⟩ := hp9
              have hP := hB9.2
              rw [ht9] at hP
              clear hB9 ht9 hv9 hz1 hk1
              have hcd_10 : cd1 (ixB ((-1)) 3) = 1 := cd1_1 ixB_m
              have e_10 := e_10.trans (rsc_1 hcd_10)
              subst e_10
              refine lv_iload hx hb dL_years_402 (lv_at hl 11 rfl) ?_
              refine zb_Beq (tgt := 417) hx hb dL_years_404 (by decide) (fun _ => ?_) (fun c_11 => False.elim (by revert c_11; decide))
              refine lv_bipush (v := (-101)) hx hb dL_years_417 (by decide) ?_
              refine lv_icmp_eq (tgt := 424) hx hb dL_years_419 (by decide) (fun _ => ?_) (fun c_12 => False.elim (by revert c_12; decide))
              refine lv_iinc (v := nI (0)) (lv' := [(10, .int (nI (0))), (0, .ref (ad 0)), (1, .ref (ad 27)), (2, .ref (ad 28)), (3, .ref (ad 32)), (4, .ref (ad 33)), (5, .ref (ad 34)), (6, .ref (ad 35)), (7, .ref (ad 36)), (8, .ref (ad 37)), (9, .ref (ad 38)), (11, .int (bB (false))), (12, .int (nI (0))), (13, .int (nI (K 0 0 + 1)))]) hx hb dL_years_424 hl (k := 10) rfl (by decide) (by decide) rfl (fun ls hl => ?_)
              refine lv_goto (tgt := 86) hx hb dL_years_427 (by decide) ?_
              have lp86 : ∀ (n9 y : Nat), y ≤ 4 → 4 - y < n9 → ∀ (ts2 : Nat → Nat) (pu2 : Nat → Int64) (ln2 : Nat → Int32), (hTs K ts2) → ∀ (H : Heap) (locs : List Loc), va_P D vwCl (wz 39 ad (wxE ad cI cJ cQ (K) (ts2) (pu2) (K) (X2 (.inl (cI, 36, .inl (tn))) (.inl (cI, 36, .inl (ln2)))))) H → va_S (zA z0) s.heap H locs → ∀ ls : Array Slot, lv_has ls 17 [(0, .ref (ad 0)), (1, .ref (ad 27)), (2, .ref (ad 28)), (3, .ref (ad 32)), (4, .ref (ad 33)), (5, .ref (ad 34)), (6, .ref (ad 35)), (7, .ref (ad 36)), (8, .ref (ad 37)), (9, .ref (ad 38)), (10, .int (nI (y)))] → W p l e (rmX 4 200) s m args below meth c H locs (34 + 32 * (y)) (264 + 192 * (y)) Q (F0 m 86 ls []) := by
                intro n9
                induction n9 with
                | zero => intro y q1 q2; omega
                | succ n9 ih86 =>
                  intro y q1_86 q2_86 ts2 pu2 ln2 hT H locs hP hS ls hl
                  refine lv_iload hx hb dL_years_86 (lv_at hl 10 rfl) ?_
                  refine lv_iconst (v := nI 4) hx hb dL_years_88 (by decide) ?_
                  refine zb_ge (tgt := 430) hx hb (by omega) (by omega) dL_years_89 (by decide) (fun c_13 => ?_) (fun c_13 => ?_)
                  · skip
                    have q_14 : y = 4 := by omega
                    subst q_14
                    refine lv_aload_n hx hb dL_years_430 rfl (lv_at hl 0 rfl) ?_
                    refine vp_callSi (W.runV (As := []) (rest := []) ⟨hx, hb, hml, hown, hts⟩ (c0_wells l hI.inv) (cwV 0 hts gL_years_X0_wells rfl rfl rfl (by decide +kernel) (by decide)) (pv0 hK (wxP_c (by decide) hP)) rfl rfl hl.1 rfl (lv_room (Nat.le_of_ble_eq_true rfl)) dL_years_431 ⟨show 34 + 32 * (4) + 0 ≤ 200 by omega, show 264 + 192 * (4) + 0 ≤ 1200 by omega⟩) (fun r_15 hr_15 => ?_)
                    subst hr_15
                    refine lv_aload_n hx hb dL_years_434 rfl (lv_at hl 1 rfl) ?_
                    refine lv_iconst (v := nI 0) hx hb dL_years_435 (by decide) ?_
                    refine zi_ld hx hb hK hP 27 (by decide) 0 rfl rfl (by decide) (i := 0) (by omega) (v := nI (K 0 0)) rfl dL_years_436 ?_
                    refine zb_ne (tgt := 454) hx hb (by omega) (by omega) dL_years_437 (by decide) (fun c_16 => ?_) (fun c_16 => ?_)
                    · skip
                      exact False.elim (by omega)
                    · skip
                      refine lv_aload_n hx hb dL_years_440 rfl (lv_at hl 0 rfl) ?_
                      refine vp_callSi (W.runV (As := []) (rest := []) ⟨hx, hb, hml, hown, hts⟩ (c0_watches l hI.inv) (cwV 0 hts gL_years_X0_watches rfl rfl rfl (by decide +kernel) (by decide)) (pv0 hK (wxP_c (by decide) hP)) rfl rfl hl.1 rfl (lv_room (Nat.le_of_ble_eq_true rfl)) dL_years_441 ⟨show 34 + 32 * (4) + 0 ≤ 200 by omega, show 264 + 192 * (4) + 0 ≤ 1200 by omega⟩) (fun r_17 hr_17 => ?_)
                      subst hr_17
                      refine lv_aload_n hx hb dL_years_444 rfl (lv_at hl 1 rfl) ?_
                      refine lv_iconst (v := nI 1) hx hb dL_years_445 (by decide) ?_
                      refine zi_ld hx hb hK hP 27 (by decide) 0 rfl rfl (by decide) (i := 1) (by omega) (v := nI (K 5 0)) rfl dL_years_446 ?_
                      refine zb_ne (tgt := 454) hx hb (by omega) (by omega) dL_years_447 (by decide) (fun c_18 => ?_) (fun c_18 => ?_)
                      · skip
                        exact False.elim (by omega)
                      · skip
                        refine lv_iconst (v := nI 1) hx hb dL_years_450 (by decide) ?_
                        refine lv_goto (tgt := 455) hx hb dL_years_451 (by decide) ?_
                        exact hret (b := true) (u := (ts2, pu2)) (show 34 + 32 * (4) ≤ 200 by omega) (show 264 + 192 * (4) ≤ 1200 by omega) ⟨rfl, hT⟩ rfl hS (fun t ht hA => ⟨va_K.moved hA hK, by rw [ht]; exact wx_drop he hP⟩) dL_years_455
                  · skip
                    suffices mg108 : ∀ (is9 : Bool), (is9 = true ↔ (y < 3)) → ∀ ls : Array Slot, lv_has ls 17 [(0, .ref (ad 0)), (1, .ref (ad 27)), (2, .ref (ad 28)), (3, .ref (ad 32)), (4, .ref (ad 33)), (5, .ref (ad 34)), (6, .ref (ad 35)), (7, .ref (ad 36)), (8, .ref (ad 37)), (9, .ref (ad 38)), (10, .int (nI (y)))] → W p l e (rmX 4 200) s m args below meth c H locs (34 + 32 * (y)) (264 + 192 * (y)) Q (F0 m 108 ls [.int (bB (is9))]) by
                      refine lv_iload hx hb dL_years_92 (lv_at hl 10 rfl) ?_
                      refine zb_0lt (tgt := 107) hx hb (by omega) dL_years_94 (by decide) ?_
                      refine lv_iload hx hb dL_years_97 (lv_at hl 10 rfl) ?_
                      refine lv_iconst (v := nI 3) hx hb dL_years_99 (by decide) ?_
                      refine zb_ge (tgt := 107) hx hb (by omega) (by omega) dL_years_100 (by decide) (fun c_20 => ?_) (fun c_20 => ?_)
                      · skip
                        refine lv_iconst (v := nI 0) hx hb dL_years_107 (by decide) ?_
                        refine zt_i (y := bB (false)) rfl ?_
                        exact mg108 (false) (iff_of_false (by decide) (by omega)) _ (lv_sub hl [0, 1, 2, 3, 4, 5, 6, 7, 8, 9, 10] rfl)
                      · skip
                        refine lv_iconst (v := nI 1) hx hb dL_years_103 (by decide) ?_
                        refine lv_goto (tgt := 108) hx hb dL_years_104 (by decide) ?_
                        refine zt_i (y := bB (true)) rfl ?_
                        exact mg108 (true) (iff_of_true rfl (by omega)) _ (lv_sub hl [0, 1, 2, 3, 4, 5, 6, 7, 8, 9, 10] rfl)
                    intro is9 his ls hl
                    refine lv_istore (lv' := [(11, .int (bB (is9))), (0, .ref (ad 0)), (1, .ref (ad 27)), (2, .ref (ad 28)), (3, .ref (ad 32)), (4, .ref (ad 33)), (5, .ref (ad 34)), (6, .ref (ad 35)), (7, .ref (ad 36)), (8, .ref (ad 37)), (9, .ref (ad 38)), (10, .int (nI (y)))]) hx hb dL_years_108 hl (by decide) rfl (fun ls hl => ?_)
                    cases is9
                    · skip
                      have hip : ¬ (y < 3) := fun z => absurd (his.mpr z) (by decide)
                      refine lv_iconst (v := nI 0) hx hb dL_years_110 (by decide) ?_
                      refine lv_istore (lv' := [(12, .int (nI (0))), (11, .int (bB (false))), (0, .ref (ad 0)), (1, .ref (ad 27)), (2, .ref (ad 28)), (3, .ref (ad 32)), (4, .ref (ad 33)), (5, .ref (ad 34)), (6, .ref (ad 35)), (7, .ref (ad 36)), (8, .ref (ad 37)), (9, .ref (ad 38)), (10, .int (nI (y)))]) hx hb dL_years_111 hl (by decide) rfl (fun ls hl => ?_)
                      refine lv_iconst (v := nI 0) hx hb dL_years_113 (by decide) ?_
                      refine lv_istore (lv' := [(13, .int (nI (0))), (12, .int (nI (0))), (11, .int (bB (false))), (0, .ref (ad 0)), (1, .ref (ad 27)), (2, .ref (ad 28)), (3, .ref (ad 32)), (4, .ref (ad 33)), (5, .ref (ad 34)), (6, .ref (ad 35)), (7, .ref (ad 36)), (8, .ref (ad 37)), (9, .ref (ad 38)), (10, .int (nI (y)))]) hx hb dL_years_114 hl (by decide) rfl (fun ls hl => ?_)
                      have lp116 : ∀ (n9 v : Nat), v ≤ K 0 0 + 1 → K 0 0 + 1 - v < n9 → ∀ (ts1 : Nat → Nat) (pu1 : Nat → Int64) (ln : Nat → Int32), (hTs K ts1) → ∀ (H : Heap) (locs : List Loc), va_P D vwCl (wz 39 ad (wxE ad cI cJ cQ (K) (ts1) (pu1) (K) (X2 (.inl (cI, 36, .inl (tn))) (.inl (cI, 36, .inl (ln)))))) H → va_S (zA z0) s.heap H locs → ∀ ls : Array Slot, lv_has ls 17 [(0, .ref (ad 0)), (1, .ref (ad 27)), (2, .ref (ad 28)), (3, .ref (ad 32)), (4, .ref (ad 33)), (5, .ref (ad 34)), (6, .ref (ad 35)), (7, .ref (ad 36)), (8, .ref (ad 37)), (9, .ref (ad 38)), (10, .int (nI (y))), (11, .int (bB (false))), (12, .int (nI (0))), (13, .int (nI (v)))] → W p l e (rmX 4 200) s m args below meth c H locs (34 + 32 * (y) + 5 * (v)) (264 + 192 * (y) + 30 * (v)) Q (F0 m 116 ls []) := by
                        intro n9
                        induction n9 with
                        | zero => intro v q1 q2; omega
                        | succ n9 ih116 =>
                          intro v q1_116 q2_116 ts1 pu1 ln hT H locs hP hS ls hl
                          refine lv_iload hx hb dL_years_116 (lv_at hl 13 rfl) ?_
                          refine lv_aload_n hx hb dL_years_118 rfl (lv_at hl 1 rfl) ?_
                          refine lv_iconst (v := nI 0) hx hb dL_years_119 (by decide) ?_
                          refine zi_ld hx hb hK hP 27 (by decide) 0 rfl rfl (by decide) (i := 0) (by omega) (v := nI (K 0 0)) rfl dL_years_120 ?_
                          refine zb_gt (tgt := 371) hx hb (by omega) (by omega) dL_years_121 (by decide) (fun c_21 => ?_) (fun c_21 => ?_)
                          · skip
                            have q_22 : v = K 0 0 + 1 := by omega
                            subst q_22
                            refine lv_aload_n hx hb dL_years_371 rfl (lv_at hl 0 rfl) ?_
                            refine lv_iconst (v := nI 4) hx hb dL_years_372 (by decide) ?_
                            refine lv_iload hx hb dL_years_373 (lv_at hl 10 rfl) ?_
                            refine lv_iconst (v := nI 0) hx hb dL_years_375 (by decide) ?_
                            refine zz_i (vx_runSX (As := [.ref (ad 0), .int (nI (4)), .int (nI (y)), .int (nI (0))]) (rest := []) ⟨hx, hb, hml, hown, hts⟩ (q_of4 l hfl hI.inv (by decide) hnd hAd (Nat.le_trans hz0 hS.1) hT  (nI (y)) (nI (0))) (vx_cwSW 4 hts gL_years_L_of rfl rfl rfl (by decide +kernel) (by decide)) (psV hK hP hX (fun a h1 h2 => hS.2.1 a h1 h2)) rfl rfl hl.1 rfl (lv_room (Nat.le_of_ble_eq_true rfl)) dL_years_376 ⟨show 34 + 32 * (y) + 5 * (K 0 0 + 1) + 1 ≤ 200 by omega, show 264 + 192 * (y) + 30 * (K 0 0 + 1) + 6 ≤ 1200 by omega⟩) hS (fun q _ h => h) (fun q h => h) (fun r9 u_23 t9 H locs ht9 hv9 hp9 hB9 hz1 hk1 hS => ?_)
                            obtain ⟨e_23, hT⟩ := hp9
                            have hP := hB9.2
                            rw [ht9] at hP
                            clear hB9 ht9 hv9 hz1 hk1
                            have hcd_23 : cd1 (ixB (nI (y)) 3) = 1 := cd1_1 (ix_f (by omega) (by omega))
                            have e_23 := e_23.trans (rsc_1 hcd_23)
                            subst e_23
                            refine lv_iload hx hb dL_years_379 (lv_at hl 11 rfl) ?_
                            refine zb_Beq (tgt := 389) hx hb dL_years_381 (by decide) (fun _ => ?_) (fun c_24 => False.elim (by revert c_24; decide))
                            refine lv_bipush (v := (-101)) hx hb dL_years_389 (by decide) ?_
                            refine lv_icmp_ne (tgt := 422) hx hb dL_years_391 (by decide) (fun c_25 => False.elim (by revert c_25; decide)) (fun _ => ?_)
                            refine lv_aload_n hx hb dL_years_394 rfl (lv_at hl 0 rfl) ?_
                            refine lv_iconst (v := nI 5) hx hb dL_years_395 (by decide) ?_
                            refine lv_iload hx hb dL_years_396 (lv_at hl 10 rfl) ?_
                            refine lv_iconst (v := nI 0) hx hb dL_years_398 (by decide) ?_
                            refine zz_i (vx_runSX (As := [.ref (ad 0), .int (nI (5)), .int (nI (y)), .int (nI (0))]) (rest := []) ⟨hx, hb, hml, hown, hts⟩ (q_of5 l hfl hI.inv (by decide) hnd hAd (Nat.le_trans hz0 hS.1) hT  (nI (y)) (nI (0))) (vx_cwSW 4 hts gL_years_L_of rfl rfl rfl (by decide +kernel) (by decide)) (psV hK hP hX (fun a h1 h2 => hS.2.1 a h1 h2)) rfl rfl hl.1 rfl (lv_room (Nat.le_of_ble_eq_true rfl)) dL_years_399 ⟨show 34 + 32 * (y) + 5 * (K 0 0 + 1) + 1 + 1 ≤ 200 by omega, show 264 + 192 * (y) + 30 * (K 0 0 + 1) + 6 + 6 ≤ 1200 by omega⟩) hS (fun q _ h => h) (fun q h => h) (fun r9 u_26 t9 H locs ht9 hv9 hp9 hB9 hz1 hk1 hS => ?_)
                            obtain ⟨e_26, hT⟩ := hp9
                            have hP := hB9.2
                            rw [ht9] at hP
                            clear hB9 ht9 hv9 hz1 hk1
                            have hcd_26 : cd1 (ixB (nI (y)) 3) = 1 := cd1_1 (ix_f (by omega) (by omega))
                            have e_26 := e_26.trans (rsc_1 hcd_26)
                            subst e_26
                            refine lv_iload hx hb dL_years_402 (lv_at hl 11 rfl) ?_
                            refine zb_Beq (tgt := 417) hx hb dL_years_404 (by decide) (fun _ => ?_) (fun c_27 => False.elim (by revert c_27; decide))
                            refine lv_bipush (v := (-101)) hx hb dL_years_417 (by decide) ?_
                            refine lv_icmp_eq (tgt := 424) hx hb dL_years_419 (by decide) (fun _ => ?_) (fun c_28 => False.elim (by revert c_28; decide))
                            refine lv_iinc (v := nI (y + 1)) (lv' := [(10, .int (nI (y + 1))), (0, .ref (ad 0)), (1, .ref (ad 27)), (2, .ref (ad 28)), (3, .ref (ad 32)), (4, .ref (ad 33)), (5, .ref (ad 34)), (6, .ref (ad 35)), (7, .ref (ad 36)), (8, .ref (ad 37)), (9, .ref (ad 38)), (11, .int (bB (false))), (12, .int (nI (0))), (13, .int (nI (K 0 0 + 1)))]) hx hb dL_years_424 hl (k := 10) rfl (zn_inc (y)) (by decide) rfl (fun ls hl => ?_)
                            refine lv_goto (tgt := 86) hx hb dL_years_427 (by decide) ?_
                            refine W.widen (show 34 + 32 * (y) + 5 * (K 0 0 + 1) + 1 + 1 ≤ 34 + 32 * (y + 1) by omega) (show 264 + 192 * (y) + 30 * (K 0 0 + 1) + 6 + 6 ≤ 264 + 192 * (y + 1) by omega) ?_
                            exact ih86 (y + 1) (by omega) (by omega) (u_26.1) (u_26.2) (ln) hT _ _ hP hS _ (lv_sub hl [1, 2, 3, 4, 5, 6, 7, 8, 9, 10, 0] rfl)
                          · skip
                            suffices mg168 : ∀ ls : Array Slot, lv_has ls 17 [(0, .ref (ad 0)), (1, .ref (ad 27)), (2, .ref (ad 28)), (3, .ref (ad 32)), (4, .ref (ad 33)), (5, .ref (ad 34)), (6, .ref (ad 35)), (7, .ref (ad 36)), (8, .ref (ad 37)), (9, .ref (ad 38)), (10, .int (nI (y))), (11, .int (bB (false))), (12, .int (nI (0))), (13, .int (nI (v)))] → W p l e (rmX 4 200) s m args below meth c H locs (34 + 32 * (y) + 5 * (v)) (264 + 192 * (y) + 30 * (v)) Q (F0 m 168 ls [.ref (ad (32 + (by5 (v))))]) by
                              refine lv_iload hx hb dL_years_124 (lv_at hl 13 rfl) ?_
                              refine zb_0ne (tgt := 133) hx hb (by omega) dL_years_126 (by decide) (fun c_29 => ?_) (fun c_29 => ?_)
                              · skip
                                refine lv_iload hx hb dL_years_133 (lv_at hl 13 rfl) ?_
                                refine lv_iconst (v := nI 1) hx hb dL_years_135 (by decide) ?_
                                refine zb_ne (tgt := 144) hx hb (by omega) (by omega) dL_years_136 (by decide) (fun c_30 => ?_) (fun c_30 => ?_)
                                · skip
                                  refine lv_iload hx hb dL_years_144 (lv_at hl 13 rfl) ?_
                                  refine lv_iconst (v := nI 2) hx hb dL_years_146 (by decide) ?_
                                  refine zb_ne (tgt := 155) hx hb (by omega) (by omega) dL_years_147 (by decide) (fun c_31 => ?_) (fun c_31 => ?_)
                                  · skip
                                    refine lv_iload hx hb dL_years_155 (lv_at hl 13 rfl) ?_
                                    refine lv_iconst (v := nI 3) hx hb dL_years_157 (by decide) ?_
                                    refine zb_ne (tgt := 166) hx hb (by omega) (by omega) dL_years_158 (by decide) (fun c_32 => ?_) (fun c_32 => ?_)
                                    · skip
                                      refine lv_aload hx hb dL_years_166 (lv_at hl 7 rfl) ?_
                                      refine zt_r (show ad 36 = ad (32 + (by5 (v))) from congrArg ad (by have hb5 := by5_s (v); omega)) ?_
                                      exact mg168 _ (lv_sub hl [0, 1, 2, 3, 4, 5, 6, 7, 8, 9, 10, 11, 12, 13] rfl)
                                    · skip
                                      refine lv_aload hx hb dL_years_161 (lv_at hl 6 rfl) ?_
                                      refine lv_goto (tgt := 168) hx hb dL_years_163 (by decide) ?_
                                      refine zt_r (show ad 35 = ad (32 + (by5 (v))) from congrArg ad (by have hb5 := by5_s (v); omega)) ?_
                                      exact mg168 _ (lv_sub hl [0, 1, 2, 3, 4, 5, 6, 7, 8, 9, 10, 11, 12, 13] rfl)
                                  · skip
                                    refine lv_aload hx hb dL_years_150 (lv_at hl 5 rfl) ?_
                                    refine lv_goto (tgt := 168) hx hb dL_years_152 (by decide) ?_
                                    refine zt_r (show ad 34 = ad (32 + (by5 (v))) from congrArg ad (by have hb5 := by5_s (v); omega)) ?_
                                    exact mg168 _ (lv_sub hl [0, 1, 2, 3, 4, 5, 6, 7, 8, 9, 10, 11, 12, 13] rfl)
                                · skip
                                  refine lv_aload hx hb dL_years_139 (lv_at hl 4 rfl) ?_
                                  refine lv_goto (tgt := 168) hx hb dL_years_141 (by decide) ?_
                                  refine zt_r (show ad 33 = ad (32 + (by5 (v))) from congrArg ad (by have hb5 := by5_s (v); omega)) ?_
                                  exact mg168 _ (lv_sub hl [0, 1, 2, 3, 4, 5, 6, 7, 8, 9, 10, 11, 12, 13] rfl)
                              · skip
                                refine lv_aload_n hx hb dL_years_129 rfl (lv_at hl 3 rfl) ?_
                                refine lv_goto (tgt := 168) hx hb dL_years_130 (by decide) ?_
                                refine zt_r (show ad 32 = ad (32 + (by5 (v))) from congrArg ad (by have hb5 := by5_s (v); omega)) ?_
                                exact mg168 _ (lv_sub hl [0, 1, 2, 3, 4, 5, 6, 7, 8, 9, 10, 11, 12, 13] rfl)
                            intro ls hl
                            refine lv_astore (lv' := [(14, .ref (ad (32 + (by5 (v))))), (0, .ref (ad 0)), (1, .ref (ad 27)), (2, .ref (ad 28)), (3, .ref (ad 32)), (4, .ref (ad 33)), (5, .ref (ad 34)), (6, .ref (ad 35)), (7, .ref (ad 36)), (8, .ref (ad 37)), (9, .ref (ad 38)), (10, .int (nI (y))), (11, .int (bB (false))), (12, .int (nI (0))), (13, .int (nI (v)))]) hx hb dL_years_168 hl (by decide) rfl (fun ls hl => ?_)
                            refine lv_iload hx hb dL_years_170 (lv_at hl 12 rfl) ?_
                            refine zb_Beq (tgt := 187) hx hb dL_years_172 (by decide) (fun _ => ?_) (fun c_33 => False.elim (by revert c_33; decide))
                            refine lv_iconst (v := nI 0) hx hb dL_years_187 (by decide) ?_
                            refine zt_i (y := bB false) rfl ?_
                            refine lv_istore (lv' := [(15, .int (bB (false))), (14, .ref (ad (32 + (by5 (v))))), (0, .ref (ad 0)), (1, .ref (ad 27)), (2, .ref (ad 28)), (3, .ref (ad 32)), (4, .ref (ad 33)), (5, .ref (ad 34)), (6, .ref (ad 35)), (7, .ref (ad 36)), (8, .ref (ad 37)), (9, .ref (ad 38)), (10, .int (nI (y))), (11, .int (bB (false))), (12, .int (nI (0))), (13, .int (nI (v)))]) hx hb dL_years_188 hl (by decide) rfl (fun ls hl => ?_)
                            refine lv_iconst (v := nI 0) hx hb dL_years_190 (by decide) ?_
                            refine lv_istore (lv' := [(16, .int (nI (0))), (15, .int (bB (false))), (14, .ref (ad (32 + (by5 (v))))), (0, .ref (ad 0)), (1, .ref (ad 27)), (2, .ref (ad 28)), (3, .ref (ad 32)), (4, .ref (ad 33)), (5, .ref (ad 34)), (6, .ref (ad 35)), (7, .ref (ad 36)), (8, .ref (ad 37)), (9, .ref (ad 38)), (10, .int (nI (y))), (11, .int (bB (false))), (12, .int (nI (0))), (13, .int (nI (v)))]) hx hb dL_years_191 hl (by decide) rfl (fun ls hl => ?_)
                            have lp193 : ∀ (n9 mm : Nat), mm ≤ 36 → 36 - mm < n9 → ∀ (ln : Nat → Int32), (∀ t, t < (mm) → ln t = nI 0) → ∀ (H : Heap) (locs : List Loc), va_P D vwCl (wz 39 ad (wxE ad cI cJ cQ (K) (ts1) (pu1) (K) (X2 (.inl (cI, 36, .inl (tn))) (.inl (cI, 36, .inl (ln)))))) H → va_S (zA z0) s.heap H locs → ∀ ls : Array Slot, lv_has ls 17 [(15, .int (bB (false))), (14, .ref (ad (32 + (by5 (v))))), (0, .ref (ad 0)), (1, .ref (ad 27)), (2, .ref (ad 28)), (3, .ref (ad 32)), (4, .ref (ad 33)), (5, .ref (ad 34)), (6, .ref (ad 35)), (7, .ref (ad 36)), (8, .ref (ad 37)), (9, .ref (ad 38)), (10, .int (nI (y))), (11, .int (bB (false))), (12, .int (nI (0))), (13, .int (nI (v))), (16, .int (nI (mm)))] → W p l e (rmX 4 200) s m args below meth c H locs (34 + 32 * (y) + 5 * (v)) (264 + 192 * (y) + 30 * (v)) Q (F0 m 193 ls []) := by
                              intro n9
                              induction n9 with
                              | zero => intro mm q1 q2; omega
                              | succ n9 ih193 =>
                                intro mm q1_193 q2_193 ln hln H locs hP hS ls hl
                                refine lv_iload hx hb dL_years_193 (lv_at hl 16 rfl) ?_
                                refine lv_bipush (v := nI 36) hx hb dL_years_195 (by decide) ?_
                                refine zb_ge (tgt := 212) hx hb (by omega) (by omega) dL_years_197 (by decide) (fun c_34 => ?_) (fun c_34 => ?_)
                                · skip
                                  have q_35 : mm = 36 := by omega
                                  subst q_35
                                  refine lv_iload hx hb dL_years_212 (lv_at hl 0 rfl) ?_
                                  refine zb_Beq (tgt := 273) hx hb dL_years_214 (by decide) (fun _ => ?_) (fun c_36 => False.elim (by revert c_36; decide))
                                  refine lv_aload_n hx hb dL_years_273 rfl (lv_at hl 2 rfl) ?_
                                  refine lv_iconst (v := nI 0) hx hb dL_years_274 (by decide) ?_
                                  refine lv_iload hx hb dL_years_275 (lv_at hl 15 rfl) ?_
                                  refine lv_iload hx hb dL_years_277 (lv_at hl 12 rfl) ?_
                                  refine zz_i (vx_runSX (As := [.ref (ad 0), .int (nI (0)), .int (nI (v)), .int (nI (y))]) (rest := []) ⟨hx, hb, hml, hown, hts⟩ (q_of0 l hfl hI.inv (by decide) hnd hAd (Nat.le_trans hz0 hS.1) hT  (nI (v)) (nI (y))) (vx_cwSW 4 hts gL_years_L_of rfl rfl rfl (by decide +kernel) (by decide)) (psV hK hP hX (fun a h1 h2 => hS.2.1 a h1 h2)) rfl rfl hl.1 rfl (lv_room (Nat.le_of_ble_eq_true rfl)) dL_years_279 ⟨show 34 + 32 * (y) + 5 * (v) + 2 ≤ 200 by omega, show 264 + 192 * (y) + 30 * (v) + 12 ≤ 1200 by omega⟩) hS (fun q _ h => h) (fun q h => h) (fun r9 u_37 t9 H locs ht9 hv9 hp9 hB9 hz1 hk1 hS => ?_)
                                  obtain ⟨e_37, hT⟩ := hp9
                                  have hP := hB9.2
                                  rw [ht9] at hP
                                  clear hB9 ht9 hv9 hz1 hk1
                                  have hcd_37 : cd1 (ixB (nI (v)) (K 0 0) && ixB (nI (y)) 3) = 1 := cd1_1 (ix2_f (by omega) (by omega) (by omega) (by omega) (by decide))
                                  have e_37 := e_37.trans (rsc_1 hcd_37)
                                  subst e_37
                                  refine lv_iload hx hb dL_years_282 (lv_at hl 0 rfl) ?_
                                  refine zb_Beq (tgt := 297) hx hb dL_years_284 (by decide) (fun _ => ?_) (fun c_38 => False.elim (by revert c_38; decide))
                                  refine lv_bipush (v := (-101)) hx hb dL_years_297 (by decide) ?_
                                  refine lv_icmp_ne (tgt := 363) hx hb dL_years_299 (by decide) (fun c_39 => False.elim (by revert c_39; decide)) (fun _ => ?_)
                                  refine lv_aload_n hx hb dL_years_302 rfl (lv_at hl 2 rfl) ?_
                                  refine lv_iconst (v := nI 3) hx hb dL_years_303 (by decide) ?_
                                  refine lv_iload hx hb dL_years_304 (lv_at hl 15 rfl) ?_
                                  refine lv_iload hx hb dL_years_306 (lv_at hl 12 rfl) ?_
                                  refine zz_i (vx_runSX (As := [.ref (ad 0), .int (nI (3)), .int (nI (v)), .int (nI (y))]) (rest := []) ⟨hx, hb, hml, hown, hts⟩ (q_of3 l hfl hI.inv (by decide) hnd hAd (Nat.le_trans hz0 hS.1) hT  (nI (v)) (nI (y))) (vx_cwSW 4 hts gL_years_L_of rfl rfl rfl (by decide +kernel) (by decide)) (psV hK hP hX (fun a h1 h2 => hS.2.1 a h1 h2)) rfl rfl hl.1 rfl (lv_room (Nat.le_of_ble_eq_true rfl)) dL_years_308 ⟨show 34 + 32 * (y) + 5 * (v) + 2 + 2 ≤ 200 by omega, show 264 + 192 * (y) + 30 * (v) + 12 + 12 ≤ 1200 by omega⟩) hS (fun q _ h => h) (fun q h => h) (fun r9 u_40 t9 H locs ht9 hv9 hp9 hB9 hz1 hk1 hS => ?_)
                                  obtain ⟨e_40, hT⟩ := hp9
                                  have hP := hB9.2
                                  rw [ht9] at hP
                                  clear hB9 ht9 hv9 hz1 hk1
                                  have hcd_40 : cd1 (ixB (nI (v)) (K 0 0) && ixB (nI (y)) 3) = 1 := cd1_1 (ix2_f (by omega) (by omega) (by omega) (by omega) (by decide))
                                  have e_40 := e_40.trans (rsc_1 hcd_40)
                                  subst e_40
                                  refine lv_iload hx hb dL_years_311 (lv_at hl 0 rfl) ?_
                                  refine zb_Beq (tgt := 326) hx hb dL_years_313 (by decide) (fun _ => ?_) (fun c_41 => False.elim (by revert c_41; decide))
                                  refine lv_bipush (v := (-101)) hx hb dL_years_326 (by decide) ?_
                                  refine lv_icmp_ne (tgt := 363) hx hb dL_years_328 (by decide) (fun c_42 => False.elim (by revert c_42; decide)) (fun _ => ?_)
                                  by_cases hvw : v < K 0 0
                                  · skip
                                    refine lv_aload_n hx hb dL_years_331 rfl (lv_at hl 2 rfl) ?_
                                    refine lv_bipush (v := nI 6) hx hb dL_years_332 (by decide) ?_
                                    refine lv_iload hx hb dL_years_334 (lv_at hl 15 rfl) ?_
                                    refine lv_iconst (v := nI 0) hx hb dL_years_336 (by decide) ?_
                                    have flv := hI.inv.li v
                                    refine zz_i (vx_runSX (As := [.ref (ad 0), .int (nI (6)), .int (nI (v)), .int (nI (0))]) (rest := []) ⟨hx, hb, hml, hown, hts⟩ (q_of6 l hfl hI.inv (by decide) hnd hAd (Nat.le_trans hz0 hS.1) hT  (nI (v)) (nI (0))) (vx_cwSW 4 hts gL_years_L_of rfl rfl rfl (by decide +kernel) (by decide)) (psV hK hP hX (fun a h1 h2 => hS.2.1 a h1 h2)) rfl rfl hl.1 rfl (lv_room (Nat.le_of_ble_eq_true rfl)) dL_years_337 ⟨show 34 + 32 * (y) + 5 * (v) + 2 + 2 + 1 ≤ 200 by omega, show 264 + 192 * (y) + 30 * (v) + 12 + 12 + 6 ≤ 1200 by omega⟩) hS (fun q _ h => h) (fun q h => h) (fun r9 u_43 t9 H locs ht9 hv9 hp9 hB9 hz1 hk1 hS => ?_)
                                    obtain ⟨e_43, hT⟩ := hp9
                                    have hP := hB9.2
                                    rw [ht9] at hP
                                    clear hB9 ht9 hv9 hz1 hk1
                                    have hcd_43 : cd1 (ixB (nI (v)) (K 0 0)) = 0 := cd1_0 (ix_t (by omega) (by omega))
                                    have e_43 := e_43.trans ((rsc_0 hcd_43).trans (show nI (K 3 (clN (nI (v)))) = nI (K 3 ((v))) by first | rfl | simp only [clN_nI (show v < 2 ^ 31 by omega), clN_nI (show 0 < 2 ^ 31 by omega)]))
                                    subst e_43
                                    refine lv_iload hx hb dL_years_340 (lv_at hl 15 rfl) ?_
                                    refine lv_aload_n hx hb dL_years_342 rfl (lv_at hl 3 rfl) ?_
                                    refine lv_iconst (v := nI 0) hx hb dL_years_343 (by decide) ?_
                                    refine zi_ld hx hb hK hP 27 (by decide) 0 rfl rfl (by decide) (i := 0) (by omega) (v := nI (K 0 0)) rfl dL_years_344 ?_
                                    refine zb_ge (tgt := 358) hx hb (by omega) (by omega) dL_years_345 (by decide) (fun c_44 => ?_) (fun c_44 => ?_)
                                    · skip
                                      exact False.elim (by omega)
                                    · skip
                                      refine lv_aload_n hx hb dL_years_348 rfl (lv_at hl 4 rfl) ?_
                                      refine lv_bipush (v := nI 10) hx hb dL_years_349 (by decide) ?_
                                      refine lv_iload hx hb dL_years_351 (lv_at hl 15 rfl) ?_
                                      refine zr_iadd hx hb dL_years_353 ?_
                                      have f_45 := hI.inv.li (v)
                                      refine zi_ld hx hb hK hP 28 (by decide) 0 rfl rfl (by decide) (i := 10 + (v)) (by omega) (v := nI (K 3 (v))) (fw_3 (by omega)) dL_years_354 ?_
                                      refine lv_goto (tgt := 360) hx hb dL_years_355 (by decide) ?_
                                      refine zb_eq (tgt := 365) hx hb (by omega) (by omega) dL_years_360 (by decide) (fun c_46 => ?_) (fun c_46 => ?_)
                                      · skip
                                        refine lv_iinc (v := nI (v + 1)) (lv' := [(13, .int (nI (v + 1))), (15, .int (bB (false))), (14, .ref (ad (32 + (by5 (v))))), (0, .ref (ad 0)), (1, .ref (ad 27)), (2, .ref (ad 28)), (3, .ref (ad 32)), (4, .ref (ad 33)), (5, .ref (ad 34)), (6, .ref (ad 35)), (7, .ref (ad 36)), (8, .ref (ad 37)), (9, .ref (ad 38)), (10, .int (nI (y))), (11, .int (bB (false))), (12, .int (nI (0))), (16, .int (nI (36)))]) hx hb dL_years_365 hl (k := 15) rfl (zn_inc (v)) (by decide) rfl (fun ls hl => ?_)
                                        refine lv_goto (tgt := 116) hx hb dL_years_368 (by decide) ?_
                                        refine W.widen (show 34 + 32 * (y) + 5 * (v) + 2 + 2 + 1 ≤ 34 + 32 * (y) + 5 * (v + 1) by omega) (show 264 + 192 * (y) + 30 * (v) + 12 + 12 + 6 ≤ 264 + 192 * (y) + 30 * (v + 1) by omega) ?_
                                        exact ih116 (v + 1) (by omega) (by omega) (u_43.1) (u_43.2) (ln) hT _ _ hP hS _ (lv_sub hl [3, 4, 5, 6, 7, 8, 9, 10, 11, 12, 13, 14, 15, 0] rfl)
                                      · skip
                                        exact False.elim (by omega)
                                  · skip
                                    refine lv_aload_n hx hb dL_years_331 rfl (lv_at hl 2 rfl) ?_
                                    refine lv_bipush (v := nI 6) hx hb dL_years_332 (by decide) ?_
                                    refine lv_iload hx hb dL_years_334 (lv_at hl 15 rfl) ?_
                                    refine lv_iconst (v := nI 0) hx hb dL_years_336 (by decide) ?_
                                    refine zz_i (vx_runSX (As := [.ref (ad 0), .int (nI (6)), .int (nI (v)), .int (nI (0))]) (rest := []) ⟨hx, hb, hml, hown, hts⟩ (q_of6 l hfl hI.inv (by decide) hnd hAd (Nat.le_trans hz0 hS.1) hT  (nI (v)) (nI (0))) (vx_cwSW 4 hts gL_years_L_of rfl rfl rfl (by decide +kernel) (by decide)) (psV hK hP hX (fun a h1 h2 => hS.2.1 a h1 h2)) rfl rfl hl.1 rfl (lv_room (Nat.le_of_ble_eq_true rfl)) dL_years_337 ⟨show 34 + 32 * (y) + 5 * (v) + 2 + 2 + 1 ≤ 200 by omega, show 264 + 192 * (y) + 30 * (v) + 12 + 12 + 6 ≤ 1200 by omega⟩) hS (fun q _ h => h) (fun q h => h) (fun r9 u_47 t9 H locs ht9 hv9 hp9 hB9 hz1 hk1 hS => ?_)
                                    obtain ⟨e_47, hT⟩ := hp9
                                    have hP := hB9.2
                                    rw [ht9] at hP
                                    clear hB9 ht9 hv9 hz1 hk1
                                    have hcd_47 : cd1 (ixB (nI (v)) (K 0 0)) = 1 := cd1_1 (ix_f (by omega) (by omega))
                                    have e_47 := e_47.trans (rsc_1 hcd_47)
                                    subst e_47
                                    refine lv_iload hx hb dL_years_340 (lv_at hl 15 rfl) ?_
                                    refine lv_aload_n hx hb dL_years_342 rfl (lv_at hl 3 rfl) ?_
                                    refine lv_iconst (v := nI 0) hx hb dL_years_343 (by decide) ?_
                                    refine zi_ld hx hb hK hP 27 (by decide) 0 rfl rfl (by decide) (i := 0) (by omega) (v := nI (K 0 0)) rfl dL_years_344 ?_
                                    refine zb_ge (tgt := 358) hx hb (by omega) (by omega) dL_years_345 (by decide) (fun c_48 => ?_) (fun c_48 => ?_)
                                    · skip
                                      refine lv_bipush (v := (-101)) hx hb dL_years_358 (by decide) ?_
                                      refine lv_icmp_eq (tgt := 365) hx hb dL_years_360 (by decide) (fun _ => ?_) (fun c_49 => False.elim (by revert c_49; decide))
                                      refine lv_iinc (v := nI (v + 1)) (lv' := [(13, .int (nI (v + 1))), (15, .int (bB (false))), (14, .ref (ad (32 + (by5 (v))))), (0, .ref (ad 0)), (1, .ref (ad 27)), (2, .ref (ad 28)), (3, .ref (ad 32)), (4, .ref (ad 33)), (5, .ref (ad 34)), (6, .ref (ad 35)), (7, .ref (ad 36)), (8, .ref (ad 37)), (9, .ref (ad 38)), (10, .int (nI (y))), (11, .int (bB (false))), (12, .int (nI (0))), (16, .int (nI (36)))]) hx hb dL_years_365 hl (k := 15) rfl (zn_inc (v)) (by decide) rfl (fun ls hl => ?_)
                                      refine lv_goto (tgt := 116) hx hb dL_years_368 (by decide) ?_
                                      refine W.widen (show 34 + 32 * (y) + 5 * (v) + 2 + 2 + 1 ≤ 34 + 32 * (y) + 5 * (v + 1) by omega) (show 264 + 192 * (y) + 30 * (v) + 12 + 12 + 6 ≤ 264 + 192 * (y) + 30 * (v + 1) by omega) ?_
                                      exact ih116 (v + 1) (by omega) (by omega) (u_47.1) (u_47.2) (ln) hT _ _ hP hS _ (lv_sub hl [3, 4, 5, 6, 7, 8, 9, 10, 11, 12, 13, 14, 15, 0] rfl)
                                    · skip
                                      exact False.elim (by omega)
                                · skip
                                  refine lv_aload hx hb dL_years_200 (lv_at hl 11 rfl) ?_
                                  refine lv_iload hx hb dL_years_202 (lv_at hl 16 rfl) ?_
                                  refine lv_iconst (v := nI 0) hx hb dL_years_204 (by decide) ?_
                                  refine zi_st hx hb hK hP hnd hAd hS 38 (by decide) 0 rfl rfl (by decide) (i := mm) (by omega) (wxE ad cI cJ cQ (K) (ts1) (pu1) (K) (X2 (.inl (cI, 36, .inl (tn))) (.inl (cI, 36, .inl (upd ln (mm) (nI (0))))))) (wxS_x1) dL_years_205 (fun H locs hP hS => ?_)
                                  refine lv_iinc (v := nI (mm + 1)) (lv' := [(16, .int (nI (mm + 1))), (15, .int (bB (false))), (14, .ref (ad (32 + (by5 (v))))), (0, .ref (ad 0)), (1, .ref (ad 27)), (2, .ref (ad 28)), (3, .ref (ad 32)), (4, .ref (ad 33)), (5, .ref (ad 34)), (6, .ref (ad 35)), (7, .ref (ad 36)), (8, .ref (ad 37)), (9, .ref (ad 38)), (10, .int (nI (y))), (11, .int (bB (false))), (12, .int (nI (0))), (13, .int (nI (v)))]) hx hb dL_years_206 hl (k := 16) rfl (zn_inc (mm)) (by decide) rfl (fun ls hl => ?_)
                                  refine lv_goto (tgt := 193) hx hb dL_years_209 (by decide) ?_
                                  exact ih193 (mm + 1) (by omega) (by omega) (_) (zer_i hln) _ _ hP hS _ (lv_sub hl [1, 2, 3, 4, 5, 6, 7, 8, 9, 10, 11, 12, 13, 14, 15, 16, 0] rfl)
                            exact lp193 (36 - (0) + 1) (0) (by omega) (by omega) (ln) (fun t ht => by omega) _ _ hP hS _ (lv_sub hl [1, 2, 3, 4, 5, 6, 7, 8, 9, 10, 11, 12, 13, 14, 15, 16, 0] rfl)
                      refine W.widen (show 34 + 32 * (y) ≤ 34 + 32 * (y) + 5 * (0) by omega) (show 264 + 192 * (y) ≤ 264 + 192 * (y) + 30 * (0) by omega) ?_
                      exact lp116 (K 0 0 + 1 - (0) + 1) (0) (by omega) (by omega) (ts2) (pu2) (ln2) hT _ _ hP hS _ (lv_sub hl [3, 4, 5, 6, 7, 8, 9, 10, 11, 12, 13, 2, 1, 0] rfl)
                    · skip
                      have hip := his.mp rfl
                      refine lv_iconst (v := nI 0) hx hb dL_years_110 (by decide) ?_
                      refine lv_istore (lv' := [(12, .int (nI (0))), (11, .int (bB (true))), (0, .ref (ad 0)), (1, .ref (ad 27)), (2, .ref (ad 28)), (3, .ref (ad 32)), (4, .ref (ad 33)), (5, .ref (ad 34)), (6, .ref (ad 35)), (7, .ref (ad 36)), (8, .ref (ad 37)), (9, .ref (ad 38)), (10, .int (nI (y)))]) hx hb dL_years_111 hl (by decide) rfl (fun ls hl => ?_)
                      refine lv_iconst (v := nI 0) hx hb dL_years_113 (by decide) ?_
                      refine lv_istore (lv' := [(13, .int (nI (0))), (12, .int (nI (0))), (11, .int (bB (true))), (0, .ref (ad 0)), (1, .ref (ad 27)), (2, .ref (ad 28)), (3, .ref (ad 32)), (4, .ref (ad 33)), (5, .ref (ad 34)), (6, .ref (ad 35)), (7, .ref (ad 36)), (8, .ref (ad 37)), (9, .ref (ad 38)), (10, .int (nI (y)))]) hx hb dL_years_114 hl (by decide) rfl (fun ls hl => ?_)
                      have lp116 : ∀ (n9 v : Nat), v ≤ K 0 0 + 1 → K 0 0 + 1 - v < n9 → ∀ (ts1 : Nat → Nat) (pu1 : Nat → Int64) (ln : Nat → Int32), (hTs K ts1) → ∀ (H : Heap) (locs : List Loc), va_P D vwCl (wz 39 ad (wxE ad cI cJ cQ (K) (ts1) (pu1) (K) (X2 (.inl (cI, 36, .inl (tn))) (.inl (cI, 36, .inl (ln)))))) H → va_S (zA z0) s.heap H locs → ∀ ls : Array Slot, lv_has ls 17 [(0, .ref (ad 0)), (1, .ref (ad 27)), (2, .ref (ad 28)), (3, .ref (ad 32)), (4, .ref (ad 33)), (5, .ref (ad 34)), (6, .ref (ad 35)), (7, .ref (ad 36)), (8, .ref (ad 37)), (9, .ref (ad 38)), (10, .int (nI (y))), (11, .int (bB (true))), (12, .int (nI (bys K y (v)))), (13, .int (nI (v)))] → W p l e (rmX 4 200) s m args below meth c H locs (34 + 32 * (y) + 5 * (v)) (264 + 192 * (y) + 30 * (v)) Q (F0 m 116 ls []) := by
                        intro n9
                        induction n9 with
                        | zero => intro v q1 q2; omega
                        | succ n9 ih116 =>
                          intro v q1_116 q2_116 ts1 pu1 ln hT H locs hP hS ls hl
                          refine lv_iload hx hb dL_years_116 (lv_at hl 13 rfl) ?_
                          refine lv_aload_n hx hb dL_years_118 rfl (lv_at hl 1 rfl) ?_
                          refine lv_iconst (v := nI 0) hx hb dL_years_119 (by decide) ?_
                          refine zi_ld hx hb hK hP 27 (by decide) 0 rfl rfl (by decide) (i := 0) (by omega) (v := nI (K 0 0)) rfl dL_years_120 ?_
                          refine zb_gt (tgt := 371) hx hb (by omega) (by omega) dL_years_121 (by decide) (fun c_50 => ?_) (fun c_50 => ?_)
                          · skip
                            have q_51 : v = K 0 0 + 1 := by omega
                            subst q_51
                            have hl := lv_cast (l2 := [(0, .ref (ad 0)), (1, .ref (ad 27)), (2, .ref (ad 28)), (3, .ref (ad 32)), (4, .ref (ad 33)), (5, .ref (ad 34)), (6, .ref (ad 35)), (7, .ref (ad 36)), (8, .ref (ad 37)), (9, .ref (ad 38)), (10, .int (nI (y))), (11, .int (bB (true))), (12, .int (nI (byd K y))), (13, .int (nI (K 0 0 + 1)))]) hl (by rw [show nI (bys K y (K 0 0 + 1)) = nI (byd K y) from congrArg nI (bys_e K y)])
                            refine lv_aload_n hx hb dL_years_371 rfl (lv_at hl 0 rfl) ?_
                            refine lv_iconst (v := nI 4) hx hb dL_years_372 (by decide) ?_
                            refine lv_iload hx hb dL_years_373 (lv_at hl 10 rfl) ?_
                            refine lv_iconst (v := nI 0) hx hb dL_years_375 (by decide) ?_
                            have fby := byd_le hI.inv y
                            refine zz_i (vx_runSX (As := [.ref (ad 0), .int (nI (4)), .int (nI (y)), .int (nI (0))]) (rest := []) ⟨hx, hb, hml, hown, hts⟩ (q_of4 l hfl hI.inv (by decide) hnd hAd (Nat.le_trans hz0 hS.1) hT  (nI (y)) (nI (0))) (vx_cwSW 4 hts gL_years_L_of rfl rfl rfl (by decide +kernel) (by decide)) (psV hK hP hX (fun a h1 h2 => hS.2.1 a h1 h2)) rfl rfl hl.1 rfl (lv_room (Nat.le_of_ble_eq_true rfl)) dL_years_376 ⟨show 34 + 32 * (y) + 5 * (K 0 0 + 1) + 1 ≤ 200 by omega, show 264 + 192 * (y) + 30 * (K 0 0 + 1) + 6 ≤ 1200 by omega⟩) hS (fun q _ h => h) (fun q h => h) (fun r9 u_52 t9 H locs ht9 hv9 hp9 hB9 hz1 hk1 hS => ?_)
                            obtain ⟨e_52, hT⟩ := hp9
                            have hP := hB9.2
                            rw [ht9] at hP
                            clear hB9 ht9 hv9 hz1 hk1
                            have hcd_52 : cd1 (ixB (nI (y)) 3) = 0 := cd1_0 (ix_t (by omega) (by decide))
                            have e_52 := e_52.trans ((rsc_0 hcd_52).trans (show nI (byd K (clN (nI (y)))) = nI (byd K ((y))) by first | rfl | simp only [clN_nI (show y < 2 ^ 31 by omega), clN_nI (show 0 < 2 ^ 31 by omega)]))
                            subst e_52
                            refine lv_iload hx hb dL_years_379 (lv_at hl 11 rfl) ?_
                            refine zb_Beq (tgt := 389) hx hb dL_years_381 (by decide) (fun c_53 => False.elim (by revert c_53; decide)) (fun _ => ?_)
                            refine lv_iload hx hb dL_years_384 (lv_at hl 12 rfl) ?_
                            refine lv_goto (tgt := 391) hx hb dL_years_386 (by decide) ?_
                            refine zb_ne (tgt := 422) hx hb (by omega) (by omega) dL_years_391 (by decide) (fun c_54 => ?_) (fun c_54 => ?_)
                            · skip
                              exact False.elim (by omega)
                            · skip
                              refine lv_aload_n hx hb dL_years_394 rfl (lv_at hl 0 rfl) ?_
                              refine lv_iconst (v := nI 5) hx hb dL_years_395 (by decide) ?_
                              refine lv_iload hx hb dL_years_396 (lv_at hl 10 rfl) ?_
                              refine lv_iconst (v := nI 0) hx hb dL_years_398 (by decide) ?_
                              have fta := tka_le hI.inv y
                              refine zz_i (vx_runSX (As := [.ref (ad 0), .int (nI (5)), .int (nI (y)), .int (nI (0))]) (rest := []) ⟨hx, hb, hml, hown, hts⟩ (q_of5 l hfl hI.inv (by decide) hnd hAd (Nat.le_trans hz0 hS.1) hT  (nI (y)) (nI (0))) (vx_cwSW 4 hts gL_years_L_of rfl rfl rfl (by decide +kernel) (by decide)) (psV hK hP hX (fun a h1 h2 => hS.2.1 a h1 h2)) rfl rfl hl.1 rfl (lv_room (Nat.le_of_ble_eq_true rfl)) dL_years_399 ⟨show 34 + 32 * (y) + 5 * (K 0 0 + 1) + 1 + 1 ≤ 200 by omega, show 264 + 192 * (y) + 30 * (K 0 0 + 1) + 6 + 6 ≤ 1200 by omega⟩) hS (fun q _ h => h) (fun q h => h) (fun r9 u_55 t9 H locs ht9 hv9 hp9 hB9 hz1 hk1 hS => ?_)
                              obtain ⟨e_55, hT⟩ := hp9
                              have hP := hB9.2
                              rw [ht9] at hP
                              clear hB9 ht9 hv9 hz1 hk1
                              have hcd_55 : cd1 (ixB (nI (y)) 3) = 0 := cd1_0 (ix_t (by omega) (by decide))
                              have e_55 := e_55.trans ((rsc_0 hcd_55).trans (show nI (tka K (clN (nI (y)))) = nI (tka K ((y))) by first | rfl | simp only [clN_nI (show y < 2 ^ 31 by omega), clN_nI (show 0 < 2 ^ 31 by omega)]))
                              subst e_55
                              refine lv_iload hx hb dL_years_402 (lv_at hl 11 rfl) ?_
                              refine zb_Beq (tgt := 417) hx hb dL_years_404 (by decide) (fun c_56 => False.elim (by revert c_56; decide)) (fun _ => ?_)
                              refine lv_aload hx hb dL_years_407 (lv_at hl 8 rfl) ?_
                              refine lv_iload hx hb dL_years_409 (lv_at hl 10 rfl) ?_
                              refine vp_callSi (W.runS (As := [.ref (ad 37), .int (nI (y))]) (rest := [.int (nI (tka K ((y))))]) ⟨hx, hb, hml, hown, hts⟩ (l_year l hI (by decide) (k := 37) (y := y) (f := tn) (g0 := fun t => ssum (fun w => ssum (fun m => tkc K w m t) 36) (K 0 0)) (by decide) rfl (fun t ht => htn t ht) (by omega)) (va_cwS 2 hts gL_years_L_year rfl rfl rfl (by decide +kernel) (by decide)) (psA hK hP) rfl rfl hl.1 rfl (lv_room (Nat.le_of_ble_eq_true rfl)) dL_years_411 ⟨show 34 + 32 * (y) + 5 * (K 0 0 + 1) + 1 + 1 + 0 ≤ 200 by omega, show 264 + 192 * (y) + 30 * (K 0 0 + 1) + 6 + 6 + 0 ≤ 1200 by omega⟩) (fun r_58 hr_58 => ?_)
                              subst hr_58
                              have f_57 := tka_le hI.inv y
                              refine zt_i (y := nI (tka K y)) (congrArg nI (ysm_tka K (by omega))) ?_
                              refine lv_goto (tgt := 419) hx hb dL_years_414 (by decide) ?_
                              refine zb_eq (tgt := 424) hx hb (by omega) (by omega) dL_years_419 (by decide) (fun c_59 => ?_) (fun c_59 => ?_)
                              · skip
                                refine lv_iinc (v := nI (y + 1)) (lv' := [(10, .int (nI (y + 1))), (0, .ref (ad 0)), (1, .ref (ad 27)), (2, .ref (ad 28)), (3, .ref (ad 32)), (4, .ref (ad 33)), (5, .ref (ad 34)), (6, .ref (ad 35)), (7, .ref (ad 36)), (8, .ref (ad 37)), (9, .ref (ad 38)), (11, .int (bB (true))), (12, .int (nI (byd K y))), (13, .int (nI (K 0 0 + 1)))]) hx hb dL_years_424 hl (k := 10) rfl (zn_inc (y)) (by decide) rfl (fun ls hl => ?_)
                                refine lv_goto (tgt := 86) hx hb dL_years_427 (by decide) ?_
                                refine W.widen (show 34 + 32 * (y) + 5 * (K 0 0 + 1) + 1 + 1 ≤ 34 + 32 * (y + 1) by omega) (show 264 + 192 * (y) + 30 * (K 0 0 + 1) + 6 + 6 ≤ 264 + 192 * (y + 1) by omega) ?_
                                exact ih86 (y + 1) (by omega) (by omega) (u_55.1) (u_55.2) (ln) hT _ _ hP hS _ (lv_sub hl [1, 2, 3, 4, 5, 6, 7, 8, 9, 10, 0] rfl)
                              · skip
                                exact False.elim (by omega)
                          · skip
                            suffices mg168 : ∀ ls : Array Slot, lv_has ls 17 [(0, .ref (ad 0)), (1, .ref (ad 27)), (2, .ref (ad 28)), (3, .ref (ad 32)), (4, .ref (ad 33)), (5, .ref (ad 34)), (6, .ref (ad 35)), (7, .ref (ad 36)), (8, .ref (ad 37)), (9, .ref (ad 38)), (10, .int (nI (y))), (11, .int (bB (true))), (12, .int (nI (bys K y (v)))), (13, .int (nI (v)))] → W p l e (rmX 4 200) s m args below meth c H locs (34 + 32 * (y) + 5 * (v)) (264 + 192 * (y) + 30 * (v)) Q (F0 m 168 ls [.ref (ad (32 + (by5 (v))))]) by
                              refine lv_iload hx hb dL_years_124 (lv_at hl 13 rfl) ?_
                              refine zb_0ne (tgt := 133) hx hb (by omega) dL_years_126 (by decide) (fun c_60 => ?_) (fun c_60 => ?_)
                              · skip
                                refine lv_iload hx hb dL_years_133 (lv_at hl 13 rfl) ?_
                                refine lv_iconst (v := nI 1) hx hb dL_years_135 (by decide) ?_
                                refine zb_ne (tgt := 144) hx hb (by omega) (by omega) dL_years_136 (by decide) (fun c_61 => ?_) (fun c_61 => ?_)
                                · skip
                                  refine lv_iload hx hb dL_years_144 (lv_at hl 13 rfl) ?_
                                  refine lv_iconst (v := nI 2) hx hb dL_years_146 (by decide) ?_
                                  refine zb_ne (tgt := 155) hx hb (by omega) (by omega) dL_years_147 (by decide) (fun c_62 => ?_) (fun c_62 => ?_)
                                  · skip
                                    refine lv_iload hx hb dL_years_155 (lv_at hl 13 rfl) ?_
                                    refine lv_iconst (v := nI 3) hx hb dL_years_157 (by decide) ?_
                                    refine zb_ne (tgt := 166) hx hb (by omega) (by omega) dL_years_158 (by decide) (fun c_63 => ?_) (fun c_63 => ?_)
                                    · skip
                                      refine lv_aload hx hb dL_years_166 (lv_at hl 7 rfl) ?_
                                      refine zt_r (show ad 36 = ad (32 + (by5 (v))) from congrArg ad (by have hb5 := by5_s (v); omega)) ?_
                                      exact mg168 _ (lv_sub hl [0, 1, 2, 3, 4, 5, 6, 7, 8, 9, 10, 11, 12, 13] rfl)
                                    · skip
                                      refine lv_aload hx hb dL_years_161 (lv_at hl 6 rfl) ?_
                                      refine lv_goto (tgt := 168) hx hb dL_years_163 (by decide) ?_
                                      refine zt_r (show ad 35 = ad (32 + (by5 (v))) from congrArg ad (by have hb5 := by5_s (v); omega)) ?_
                                      exact mg168 _ (lv_sub hl [0, 1, 2, 3, 4, 5, 6, 7, 8, 9, 10, 11, 12, 13] rfl)
                                  · skip
                                    refine lv_aload hx hb dL_years_150 (lv_at hl 5 rfl) ?_
                                    refine lv_goto (tgt := 168) hx hb dL_years_152 (by decide) ?_
                                    refine zt_r (show ad 34 = ad (32 + (by5 (v))) from congrArg ad (by have hb5 := by5_s (v); omega)) ?_
                                    exact mg168 _ (lv_sub hl [0, 1, 2, 3, 4, 5, 6, 7, 8, 9, 10, 11, 12, 13] rfl)
                                · skip
                                  refine lv_aload hx hb dL_years_139 (lv_at hl 4 rfl) ?_
                                  refine lv_goto (tgt := 168) hx hb dL_years_141 (by decide) ?_
                                  refine zt_r (show ad 33 = ad (32 + (by5 (v))) from congrArg ad (by have hb5 := by5_s (v); omega)) ?_
                                  exact mg168 _ (lv_sub hl [0, 1, 2, 3, 4, 5, 6, 7, 8, 9, 10, 11, 12, 13] rfl)
                              · skip
                                refine lv_aload_n hx hb dL_years_129 rfl (lv_at hl 3 rfl) ?_
                                refine lv_goto (tgt := 168) hx hb dL_years_130 (by decide) ?_
                                refine zt_r (show ad 32 = ad (32 + (by5 (v))) from congrArg ad (by have hb5 := by5_s (v); omega)) ?_
                                exact mg168 _ (lv_sub hl [0, 1, 2, 3, 4, 5, 6, 7, 8, 9, 10, 11, 12, 13] rfl)
                            intro ls hl
                            refine lv_astore (lv' := [(14, .ref (ad (32 + (by5 (v))))), (0, .ref (ad 0)), (1, .ref (ad 27)), (2, .ref (ad 28)), (3, .ref (ad 32)), (4, .ref (ad 33)), (5, .ref (ad 34)), (6, .ref (ad 35)), (7, .ref (ad 36)), (8, .ref (ad 37)), (9, .ref (ad 38)), (10, .int (nI (y))), (11, .int (bB (true))), (12, .int (nI (bys K y (v)))), (13, .int (nI (v)))]) hx hb dL_years_168 hl (by decide) rfl (fun ls hl => ?_)
                            suffices mg188 : ∀ (bo9 : Bool), (bo9 = true ↔ (v < K 0 0)) → ∀ ls : Array Slot, lv_has ls 17 [(14, .ref (ad (32 + (by5 (v))))), (0, .ref (ad 0)), (1, .ref (ad 27)), (2, .ref (ad 28)), (3, .ref (ad 32)), (4, .ref (ad 33)), (5, .ref (ad 34)), (6, .ref (ad 35)), (7, .ref (ad 36)), (8, .ref (ad 37)), (9, .ref (ad 38)), (10, .int (nI (y))), (11, .int (bB (true))), (12, .int (nI (bys K y (v)))), (13, .int (nI (v)))] → W p l e (rmX 4 200) s m args below meth c H locs (34 + 32 * (y) + 5 * (v)) (264 + 192 * (y) + 30 * (v)) Q (F0 m 188 ls [.int (bB (bo9))]) by
                              refine lv_iload hx hb dL_years_170 (lv_at hl 12 rfl) ?_
                              refine zb_Beq (tgt := 187) hx hb dL_years_172 (by decide) (fun c_64 => False.elim (by revert c_64; decide)) (fun _ => ?_)
                              refine lv_iload hx hb dL_years_175 (lv_at hl 14 rfl) ?_
                              refine lv_aload_n hx hb dL_years_177 rfl (lv_at hl 2 rfl) ?_
                              refine lv_iconst (v := nI 0) hx hb dL_years_178 (by decide) ?_
                              refine zi_ld hx hb hK hP 27 (by decide) 0 rfl rfl (by decide) (i := 0) (by omega) (v := nI (K 0 0)) rfl dL_years_179 ?_
                              refine zb_ge (tgt := 187) hx hb (by omega) (by omega) dL_years_180 (by decide) (fun c_65 => ?_) (fun c_65 => ?_)
                              · skip
                                refine lv_iconst (v := nI 0) hx hb dL_years_187 (by decide) ?_
                                refine zt_i (y := bB (false)) rfl ?_
                                exact mg188 (false) (iff_of_false (by decide) (by omega)) _ (lv_sub hl [0, 1, 2, 3, 4, 5, 6, 7, 8, 9, 10, 11, 12, 13, 14] rfl)
                              · skip
                                refine lv_iconst (v := nI 1) hx hb dL_years_183 (by decide) ?_
                                refine lv_goto (tgt := 188) hx hb dL_years_184 (by decide) ?_
                                refine zt_i (y := bB (true)) rfl ?_
                                exact mg188 (true) (iff_of_true rfl (by omega)) _ (lv_sub hl [0, 1, 2, 3, 4, 5, 6, 7, 8, 9, 10, 11, 12, 13, 14] rfl)
                            intro bo9 hbo ls hl
                            refine lv_istore (lv' := [(15, .int (bB (bo9))), (14, .ref (ad (32 + (by5 (v))))), (0, .ref (ad 0)), (1, .ref (ad 27)), (2, .ref (ad 28)), (3, .ref (ad 32)), (4, .ref (ad 33)), (5, .ref (ad 34)), (6, .ref (ad 35)), (7, .ref (ad 36)), (8, .ref (ad 37)), (9, .ref (ad 38)), (10, .int (nI (y))), (11, .int (bB (true))), (12, .int (nI (bys K y (v)))), (13, .int (nI (v)))]) hx hb dL_years_188 hl (by decide) rfl (fun ls hl => ?_)
                            refine lv_iconst (v := nI 0) hx hb dL_years_190 (by decide) ?_
                            refine lv_istore (lv' := [(16, .int (nI (0))), (15, .int (bB (bo9))), (14, .ref (ad (32 + (by5 (v))))), (0, .ref (ad 0)), (1, .ref (ad 27)), (2, .ref (ad 28)), (3, .ref (ad 32)), (4, .ref (ad 33)), (5, .ref (ad 34)), (6, .ref (ad 35)), (7, .ref (ad 36)), (8, .ref (ad 37)), (9, .ref (ad 38)), (10, .int (nI (y))), (11, .int (bB (true))), (12, .int (nI (bys K y (v)))), (13, .int (nI (v)))]) hx hb dL_years_191 hl (by decide) rfl (fun ls hl => ?_)
                            have lp193 : ∀ (n9 mm : Nat), mm ≤ 36 → 36 - mm < n9 → ∀ (ln : Nat → Int32), (∀ t, t < (mm) → ln t = nI 0) → ∀ (H : Heap) (locs : List Loc), va_P D vwCl (wz 39 ad (wxE ad cI cJ cQ (K) (ts1) (pu1) (K) (X2 (.inl (cI, 36, .inl (tn))) (.inl (cI, 36, .inl (ln)))))) H → va_S (zA z0) s.heap H locs → ∀ ls : Array Slot, lv_has ls 17 [(15, .int (bB (bo9))), (14, .ref (ad (32 + (by5 (v))))), (0, .ref (ad 0)), (1, .ref (ad 27)), (2, .ref (ad 28)), (3, .ref (ad 32)), (4, .ref (ad 33)), (5, .ref (ad 34)), (6, .ref (ad 35)), (7, .ref (ad 36)), (8, .ref (ad 37)), (9, .ref (ad 38)), (10, .int (nI (y))), (11, .int (bB (true))), (12, .int (nI (bys K y (v)))), (13, .int (nI (v))), (16, .int (nI (mm)))] → W p l e (rmX 4 200) s m args below meth c H locs (34 + 32 * (y) + 5 * (v)) (264 + 192 * (y) + 30 * (v)) Q (F0 m 193 ls []) := by
                              intro n9
                              induction n9 with
                              | zero => intro mm q1 q2; omega
                              | succ n9 ih193 =>
                                intro mm q1_193 q2_193 ln hln H locs hP hS ls hl
                                refine lv_iload hx hb dL_years_193 (lv_at hl 16 rfl) ?_
                                refine lv_bipush (v := nI 36) hx hb dL_years_195 (by decide) ?_
                                refine zb_ge (tgt := 212) hx hb (by omega) (by omega) dL_years_197 (by decide) (fun c_66 => ?_) (fun c_66 => ?_)
                                · skip
                                  have q_67 : mm = 36 := by omega
                                  subst q_67
                                  cases bo9
                                  · skip
                                    have hbp : ¬ (v < K 0 0) := fun z => absurd (hbo.mpr z) (by decide)
                                    refine lv_iload hx hb dL_years_212 (lv_at hl 0 rfl) ?_
                                    refine zb_Beq (tgt := 273) hx hb dL_years_214 (by decide) (fun _ => ?_) (fun c_68 => False.elim (by revert c_68; decide))
                                    refine lv_aload_n hx hb dL_years_273 rfl (lv_at hl 2 rfl) ?_
                                    refine lv_iconst (v := nI 0) hx hb dL_years_274 (by decide) ?_
                                    refine lv_iload hx hb dL_years_275 (lv_at hl 15 rfl) ?_
                                    refine lv_iload hx hb dL_years_277 (lv_at hl 12 rfl) ?_
                                    refine zz_i (vx_runSX (As := [.ref (ad 0), .int (nI (0)), .int (nI (v)), .int (nI (y))]) (rest := []) ⟨hx, hb, hml, hown, hts⟩ (q_of0 l hfl hI.inv (by decide) hnd hAd (Nat.le_trans hz0 hS.1) hT  (nI (v)) (nI (y))) (vx_cwSW 4 hts gL_years_L_of rfl rfl rfl (by decide +kernel) (by decide)) (psV hK hP hX (fun a h1 h2 => hS.2.1 a h1 h2)) rfl rfl hl.1 rfl (lv_room (Nat.le_of_ble_eq_true rfl)) dL_years_279 ⟨show 34 + 32 * (y) + 5 * (v) + 2 ≤ 200 by omega, show 264 + 192 * (y) + 30 * (v) + 12 ≤ 1200 by omega⟩) hS (fun q _ h => h) (fun q h => h) (fun r9 u_69 t9 H locs ht9 hv9 hp9 hB9 hz1 hk1 hS => ?_)
                                    obtain ⟨e_69, hT⟩ := hp9
                                    have hP := hB9.2
                                    rw [ht9] at hP
                                    clear hB9 ht9 hv9 hz1 hk1
                                    have hcd_69 : cd1 (ixB (nI (v)) (K 0 0) && ixB (nI (y)) 3) = 1 := cd1_1 (ix2_f (by omega) (by omega) (by omega) (by omega) (by decide))
                                    have e_69 := e_69.trans (rsc_1 hcd_69)
                                    subst e_69
                                    refine lv_iload hx hb dL_years_282 (lv_at hl 0 rfl) ?_
                                    refine zb_Beq (tgt := 297) hx hb dL_years_284 (by decide) (fun _ => ?_) (fun c_70 => False.elim (by revert c_70; decide))
                                    refine lv_bipush (v := (-101)) hx hb dL_years_297 (by decide) ?_
                                    refine lv_icmp_ne (tgt := 363) hx hb dL_years_299 (by decide) (fun c_71 => False.elim (by revert c_71; decide)) (fun _ => ?_)
                                    refine lv_aload_n hx hb dL_years_302 rfl (lv_at hl 2 rfl) ?_
                                    refine lv_iconst (v := nI 3) hx hb dL_years_303 (by decide) ?_
                                    refine lv_iload hx hb dL_years_304 (lv_at hl 15 rfl) ?_
                                    refine lv_iload hx hb dL_years_306 (lv_at hl 12 rfl) ?_
                                    refine zz_i (vx_runSX (As := [.ref (ad 0), .int (nI (3)), .int (nI (v)), .int (nI (y))]) (rest := []) ⟨hx, hb, hml, hown, hts⟩ (q_of3 l hfl hI.inv (by decide) hnd hAd (Nat.le_trans hz0 hS.1) hT  (nI (v)) (nI (y))) (vx_cwSW 4 hts gL_years_L_of rfl rfl rfl (by decide +kernel) (by decide)) (psV hK hP hX (fun a h1 h2 => hS.2.1 a h1 h2)) rfl rfl hl.1 rfl (lv_room (Nat.le_of_ble_eq_true rfl)) dL_years_308 ⟨show 34 + 32 * (y) + 5 * (v) + 2 + 2 ≤ 200 by omega, show 264 + 192 * (y) + 30 * (v) + 12 + 12 ≤ 1200 by omega⟩) hS (fun q _ h => h) (fun q h => h) (fun r9 u_72 t9 H locs ht9 hv9 hp9 hB9 hz1 hk1 hS => ?_)
                                    obtain ⟨e_72, hT⟩ := hp9
                                    have hP := hB9.2
                                    rw [ht9] at hP
                                    clear hB9 ht9 hv9 hz1 hk1
                                    have hcd_72 : cd1 (ixB (nI (v)) (K 0 0) && ixB (nI (y)) 3) = 1 := cd1_1 (ix2_f (by omega) (by omega) (by omega) (by omega) (by decide))
                                    have e_72 := e_72.trans (rsc_1 hcd_72)
                                    subst e_72
                                    refine lv_iload hx hb dL_years_311 (lv_at hl 0 rfl) ?_
                                    refine zb_Beq (tgt := 326) hx hb dL_years_313 (by decide) (fun _ => ?_) (fun c_73 => False.elim (by revert c_73; decide))
                                    refine lv_bipush (v := (-101)) hx hb dL_years_326 (by decide) ?_
                                    refine lv_icmp_ne (tgt := 363) hx hb dL_years_328 (by decide) (fun c_74 => False.elim (by revert c_74; decide)) (fun _ => ?_)
                                    refine lv_aload_n hx hb dL_years_331 rfl (lv_at hl 2 rfl) ?_
                                    refine lv_bipush (v := nI 6) hx hb dL_years_332 (by decide) ?_
                                    refine lv_iload hx hb dL_years_334 (lv_at hl 15 rfl) ?_
                                    refine lv_iconst (v := nI 0) hx hb dL_years_336 (by decide) ?_
                                    refine zz_i (vx_runSX (As := [.ref (ad 0), .int (nI (6)), .int (nI (v)), .int (nI (0))]) (rest := []) ⟨hx, hb, hml, hown, hts⟩ (q_of6 l hfl hI.inv (by decide) hnd hAd (Nat.le_trans hz0 hS.1) hT  (nI (v)) (nI (0))) (vx_cwSW 4 hts gL_years_L_of rfl rfl rfl (by decide +kernel) (by decide)) (psV hK hP hX (fun a h1 h2 => hS.2.1 a h1 h2)) rfl rfl hl.1 rfl (lv_room (Nat.le_of_ble_eq_true rfl)) dL_years_337 ⟨show 34 + 32 * (y) + 5 * (v) + 2 + 2 + 1 ≤ 200 by omega, show 264 + 192 * (y) + 30 * (v) + 12 + 12 + 6 ≤ 1200 by omega⟩) hS (fun q _ h => h) (fun q h => h) (fun r9 u_75 t9 H locs ht9 hv9 hp9 hB9 hz1 hk1 hS => ?_)
                                    obtain ⟨e_75, hT⟩ := hp9
                                    have hP := hB9.2
                                    rw [ht9] at hP
                                    clear hB9 ht9 hv9 hz1 hk1
                                    have hcd_75 : cd1 (ixB (nI (v)) (K 0 0)) = 1 := cd1_1 (ix_f (by omega) (by omega))
                                    have e_75 := e_75.trans (rsc_1 hcd_75)
                                    subst e_75
                                    refine lv_iload hx hb dL_years_340 (lv_at hl 15 rfl) ?_
                                    refine lv_aload_n hx hb dL_years_342 rfl (lv_at hl 3 rfl) ?_
                                    refine lv_iconst (v := nI 0) hx hb dL_years_343 (by decide) ?_
                                    refine zi_ld hx hb hK hP 27 (by decide) 0 rfl rfl (by decide) (i := 0) (by omega) (v := nI (K 0 0)) rfl dL_years_344 ?_
                                    refine zb_ge (tgt := 358) hx hb (by omega) (by omega) dL_years_345 (by decide) (fun c_76 => ?_) (fun c_76 => ?_)
                                    · skip
                                      refine lv_bipush (v := (-101)) hx hb dL_years_358 (by decide) ?_
                                      refine lv_icmp_eq (tgt := 365) hx hb dL_years_360 (by decide) (fun _ => ?_) (fun c_77 => False.elim (by revert c_77; decide))
                                      have hl := lv_cast (l2 := [(15, .int (bB (false))), (14, .ref (ad (32 + (by5 (v))))), (0, .ref (ad 0)), (1, .ref (ad 27)), (2, .ref (ad 28)), (3, .ref (ad 32)), (4, .ref (ad 33)), (5, .ref (ad 34)), (6, .ref (ad 35)), (7, .ref (ad 36)), (8, .ref (ad 37)), (9, .ref (ad 38)), (10, .int (nI (y))), (11, .int (bB (true))), (12, .int (nI (bys K y (v + 1)))), (13, .int (nI (v))), (16, .int (nI (36)))]) hl (by rw [show nI (bys K y (v)) = nI (bys K y (v + 1)) from congrArg nI (bys_k (by omega))])
                                      refine lv_iinc (v := nI (v + 1)) (lv' := [(13, .int (nI (v + 1))), (15, .int (bB (false))), (14, .ref (ad (32 + (by5 (v))))), (0, .ref (ad 0)), (1, .ref (ad 27)), (2, .ref (ad 28)), (3, .ref (ad 32)), (4, .ref (ad 33)), (5, .ref (ad 34)), (6, .ref (ad 35)), (7, .ref (ad 36)), (8, .ref (ad 37)), (9, .ref (ad 38)), (10, .int (nI (y))), (11, .int (bB (true))), (12, .int (nI (bys K y (v + 1)))), (16, .int (nI (36)))]) hx hb dL_years_365 hl (k := 15) rfl (zn_inc (v)) (by decide) rfl (fun ls hl => ?_)
                                      refine lv_goto (tgt := 116) hx hb dL_years_368 (by decide) ?_
                                      refine W.widen (show 34 + 32 * (y) + 5 * (v) + 2 + 2 + 1 ≤ 34 + 32 * (y) + 5 * (v + 1) by omega) (show 264 + 192 * (y) + 30 * (v) + 12 + 12 + 6 ≤ 264 + 192 * (y) + 30 * (v + 1) by omega) ?_
                                      exact ih116 (v + 1) (by omega) (by omega) (u_75.1) (u_75.2) (ln) hT _ _ hP hS _ (lv_sub hl [3, 4, 5, 6, 7, 8, 9, 10, 11, 12, 13, 14, 15, 0] rfl)
                                    · skip
                                      exact False.elim (by omega)
                                  · skip
                                    have hbp := hbo.mp rfl
                                    have e5 := by5_w (show v < 5 by omega)
                                    rw [e5] at hl
                                    refine lv_iload hx hb dL_years_212 (lv_at hl 0 rfl) ?_
                                    refine zb_Beq (tgt := 273) hx hb dL_years_214 (by decide) (fun c_78 => False.elim (by revert c_78; decide)) (fun _ => ?_)
                                    refine lv_aload_n hx hb dL_years_217 rfl (lv_at hl 4 rfl) ?_
                                    refine lv_aload hx hb dL_years_218 (lv_at hl 1 rfl) ?_
                                    refine lv_iload hx hb dL_years_220 (lv_at hl 15 rfl) ?_
                                    refine lv_bipush (v := nI 12) hx hb dL_years_222 (by decide) ?_
                                    refine lv_iload hx hb dL_years_224 (lv_at hl 12 rfl) ?_
                                    refine zr_imul hx hb dL_years_226 ?_
                                    refine lv_aload hx hb dL_years_227 (lv_at hl 11 rfl) ?_
                                    refine va_callv (va_runS (As := [.ref (ad 28), .ref (ad (32 + (v))), .int (nI (v)), .int (nI ((12) * (y))), .ref (ad 38)]) (rest := []) ⟨hx, hb, hml, hown, hts⟩ (l_takes1 l hI hnd hAd (Nat.le_trans hz0 hS.1) (w := v) (E := (12) * (y)) (g0 := fun _ => 0) (by omega) (by omega) hln) (va_cwS 5 hts gL_years_L_takes rfl rfl rfl (by decide +kernel) (by decide)) (psAS hK hP) rfl rfl hl.1 rfl (lv_room (Nat.le_of_ble_eq_true rfl)) dL_years_229 ⟨show 34 + 32 * (y) + 5 * (v) + 0 ≤ 200 by omega, show 264 + 192 * (y) + 30 * (v) + 0 ≤ 1200 by omega⟩) hS (fun q _ h => h) (fun q h => h) (fun u9 t9 H locs ht9 hv9 hp9 hB9 hz1 hk1 hS => ?_)
                                    have hP := hB9.2
                                    rw [ht9] at hP
                                    clear hB9 ht9 hv9 hz1 hk1
                                    have hlt := hp9
                                    refine lv_iload hx hb dL_years_232 (lv_at hl 14 rfl) ?_
                                    suffices mg270 : ∀ ls : Array Slot, lv_has ls 17 [(15, .int (bB (true))), (14, .ref (ad (32 + (v)))), (0, .ref (ad 0)), (1, .ref (ad 27)), (2, .ref (ad 28)), (3, .ref (ad 32)), (4, .ref (ad 33)), (5, .ref (ad 34)), (6, .ref (ad 35)), (7, .ref (ad 36)), (8, .ref (ad 37)), (9, .ref (ad 38)), (10, .int (nI (y))), (11, .int (bB (true))), (12, .int (nI (bys K y (v)))), (13, .int (nI (v))), (16, .int (nI (36)))] → W p l e (rmX 4 200) s m args below meth c H locs (34 + 32 * (y) + 5 * (v)) (264 + 192 * (y) + 30 * (v)) Q (F0 m 270 ls [.int (nI (yr K v y - K 3 v)), .int (nI (bys K y (v)))]) by
                                      refine lv_aload hx hb dL_years_234 (lv_at hl 1 rfl) ?_
                                      refine lv_iload hx hb dL_years_236 (lv_at hl 12 rfl) ?_
                                      refine vp_callSi (W.runS (As := [.ref (ad (32 + (v))), .int (nI (y))]) (rest := [.int (nI (bys K y (v)))]) ⟨hx, hb, hml, hown, hts⟩ (l_year l hI (by decide) (k := 32 + v) (y := y) (f := rwP K v) (g0 := K (10 + 3 * v)) (by omega) (wx_p (by omega)) (fun t ht => rfl) (by omega)) (va_cwS 2 hts gL_years_L_year rfl rfl rfl (by decide +kernel) (by decide)) (psA hK hP) rfl rfl hl.1 rfl (lv_room (Nat.le_of_ble_eq_true rfl)) dL_years_238 ⟨show 34 + 32 * (y) + 5 * (v) + 0 ≤ 200 by omega, show 264 + 192 * (y) + 30 * (v) + 0 ≤ 1200 by omega⟩) (fun r_80 hr_80 => ?_)
                                      subst hr_80
                                      have f_79 := yr_le hI.inv (w := v) (by omega) y
                                      refine zt_i (y := nI (yr K v y)) (congrArg nI (ysm_yr K v (by omega))) ?_
                                      refine lv_aload_n hx hb dL_years_241 rfl (lv_at hl 4 rfl) ?_
                                      refine lv_bipush (v := nI 10) hx hb dL_years_242 (by decide) ?_
                                      refine lv_iload hx hb dL_years_244 (lv_at hl 15 rfl) ?_
                                      refine zr_iadd hx hb dL_years_246 ?_
                                      have f_81 := hI.inv.li (v)
                                      refine zi_ld hx hb hK hP 28 (by decide) 0 rfl rfl (by decide) (i := 10 + (v)) (by omega) (v := nI (K 3 (v))) (fw_3 (by omega)) dL_years_247 ?_
                                      refine zb_le (tgt := 269) hx hb (by omega) (by omega) dL_years_248 (by decide) (fun c_82 => ?_) (fun c_82 => ?_)
                                      · skip
                                        refine lv_iconst (v := nI 0) hx hb dL_years_269 (by decide) ?_
                                        refine zt_i (y := nI (yr K v y - K 3 v)) (congrArg nI (by omega)) ?_
                                        exact mg270 _ (lv_sub hl [0, 1, 2, 3, 4, 5, 6, 7, 8, 9, 10, 11, 12, 13, 14, 15, 16] rfl)
                                      · skip
                                        refine lv_aload hx hb dL_years_251 (lv_at hl 1 rfl) ?_
                                        refine lv_iload hx hb dL_years_253 (lv_at hl 12 rfl) ?_
                                        refine vp_callSi (W.runS (As := [.ref (ad (32 + (v))), .int (nI (y))]) (rest := [.int (nI (bys K y (v)))]) ⟨hx, hb, hml, hown, hts⟩ (l_year l hI (by decide) (k := 32 + v) (y := y) (f := rwP K v) (g0 := K (10 + 3 * v)) (by omega) (wx_p (by omega)) (fun t ht => rfl) (by omega)) (va_cwS 2 hts gL_years_L_year rfl rfl rfl (by decide +kernel) (by decide)) (psA hK hP) rfl rfl hl.1 rfl (lv_room (Nat.le_of_ble_eq_true rfl)) dL_years_255 ⟨show 34 + 32 * (y) + 5 * (v) + 0 ≤ 200 by omega, show 264 + 192 * (y) + 30 * (v) + 0 ≤ 1200 by omega⟩) (fun r_84 hr_84 => ?_)
                                        subst hr_84
                                        have f_83 := yr_le hI.inv (w := v) (by omega) y
                                        refine zt_i (y := nI (yr K v y)) (congrArg nI (ysm_yr K v (by omega))) ?_
                                        refine lv_aload_n hx hb dL_years_258 rfl (lv_at hl 4 rfl) ?_
                                        refine lv_bipush (v := nI 10) hx hb dL_years_259 (by decide) ?_
                                        refine lv_iload hx hb dL_years_261 (lv_at hl 15 rfl) ?_
                                        refine zr_iadd hx hb dL_years_263 ?_
                                        have f_85 := hI.inv.li (v)
                                        refine zi_ld hx hb hK hP 28 (by decide) 0 rfl rfl (by decide) (i := 10 + (v)) (by omega) (v := nI (K 3 (v))) (fw_3 (by omega)) dL_years_264 ?_
                                        refine zr_isub hx hb (by omega) dL_years_265 ?_
                                        refine lv_goto (tgt := 270) hx hb dL_years_266 (by decide) ?_
                                        refine zt_i (y := nI (yr K v y - K 3 v)) (congrArg nI (by omega)) ?_
                                        exact mg270 _ (lv_sub hl [0, 1, 2, 3, 4, 5, 6, 7, 8, 9, 10, 11, 12, 13, 14, 15, 16] rfl)
                                    intro ls hl
                                    refine zr_iadd hx hb dL_years_270 ?_
                                    refine zt_i (y := nI (bys K y (v + 1))) (congrArg nI (bys_s hbp)) ?_
                                    refine lv_istore (lv' := [(12, .int (nI (bys K y (v + 1)))), (15, .int (bB (true))), (14, .ref (ad (32 + (v)))), (0, .ref (ad 0)), (1, .ref (ad 27)), (2, .ref (ad 28)), (3, .ref (ad 32)), (4, .ref (ad 33)), (5, .ref (ad 34)), (6, .ref (ad 35)), (7, .ref (ad 36)), (8, .ref (ad 37)), (9, .ref (ad 38)), (10, .int (nI (y))), (11, .int (bB (true))), (13, .int (nI (v))), (16, .int (nI (36)))]) hx hb dL_years_271 hl (by decide) rfl (fun ls hl => ?_)
                                    refine lv_aload_n hx hb dL_years_273 rfl (lv_at hl 3 rfl) ?_
                                    refine lv_iconst (v := nI 0) hx hb dL_years_274 (by decide) ?_
                                    refine lv_iload hx hb dL_years_275 (lv_at hl 15 rfl) ?_
                                    refine lv_iload hx hb dL_years_277 (lv_at hl 13 rfl) ?_
                                    have fyr := yr_le hI.inv (w := v) (by omega) y
                                    refine zz_i (vx_runSX (As := [.ref (ad 0), .int (nI (0)), .int (nI (v)), .int (nI (y))]) (rest := []) ⟨hx, hb, hml, hown, hts⟩ (q_of0 l hfl hI.inv (by decide) hnd hAd (Nat.le_trans hz0 hS.1) hT  (nI (v)) (nI (y))) (vx_cwSW 4 hts gL_years_L_of rfl rfl rfl (by decide +kernel) (by decide)) (psV hK hP hX (fun a h1 h2 => hS.2.1 a h1 h2)) rfl rfl hl.1 rfl (lv_room (Nat.le_of_ble_eq_true rfl)) dL_years_279 ⟨show 34 + 32 * (y) + 5 * (v) + 2 ≤ 200 by omega, show 264 + 192 * (y) + 30 * (v) + 12 ≤ 1200 by omega⟩) hS (fun q _ h => h) (fun q h => h) (fun r9 u_86 t9 H locs ht9 hv9 hp9 hB9 hz1 hk1 hS => ?_)
                                    obtain ⟨e_86, hT⟩ := hp9
                                    have hP := hB9.2
                                    rw [ht9] at hP
                                    clear hB9 ht9 hv9 hz1 hk1
                                    have hcd_86 : cd1 (ixB (nI (v)) (K 0 0) && ixB (nI (y)) 3) = 0 := cd1_0 (ix2_t (by omega) (by omega) (by omega) (by decide))
                                    have e_86 := e_86.trans ((rsc_0 hcd_86).trans (show nI (yr K (clN (nI (v))) (clN (nI (y)))) = nI (yr K ((v)) ((y))) by first | rfl | simp only [clN_nI (show v < 2 ^ 31 by omega), clN_nI (show y < 2 ^ 31 by omega)]))
                                    subst e_86
                                    refine lv_iload hx hb dL_years_282 (lv_at hl 1 rfl) ?_
                                    refine zb_Beq (tgt := 297) hx hb dL_years_284 (by decide) (fun c_87 => False.elim (by revert c_87; decide)) (fun _ => ?_)
                                    refine lv_aload hx hb dL_years_287 (lv_at hl 2 rfl) ?_
                                    refine lv_iload hx hb dL_years_289 (lv_at hl 13 rfl) ?_
                                    refine vp_callSi (W.runS (As := [.ref (ad (32 + (v))), .int (nI (y))]) (rest := [.int (nI (yr K ((v)) ((y))))]) ⟨hx, hb, hml, hown, hts⟩ (l_year l hI (by decide) (k := 32 + v) (y := y) (f := rwP K v) (g0 := K (10 + 3 * v)) (by omega) (wx_p (by omega)) (fun t ht => rfl) (by omega)) (va_cwS 2 hts gL_years_L_year rfl rfl rfl (by decide +kernel) (by decide)) (psA hK hP) rfl rfl hl.1 rfl (lv_room (Nat.le_of_ble_eq_true rfl)) dL_years_291 ⟨show 34 + 32 * (y) + 5 * (v) + 2 + 0 ≤ 200 by omega, show 264 + 192 * (y) + 30 * (v) + 12 + 0 ≤ 1200 by omega⟩) (fun r_89 hr_89 => ?_)
                                    subst hr_89
                                    have f_88 := yr_le hI.inv (w := v) (by omega) y
                                    refine zt_i (y := nI (yr K v y)) (congrArg nI (ysm_yr K v (by omega))) ?_
                                    refine lv_goto (tgt := 299) hx hb dL_years_294 (by decide) ?_
                                    refine zb_ne (tgt := 363) hx hb (by omega) (by omega) dL_years_299 (by decide) (fun c_90 => ?_) (fun c_90 => ?_)
                                    · skip
                                      exact False.elim (by omega)
                                    · skip
                                      refine lv_aload_n hx hb dL_years_302 rfl (lv_at hl 3 rfl) ?_
                                      refine lv_iconst (v := nI 3) hx hb dL_years_303 (by decide) ?_
                                      refine lv_iload hx hb dL_years_304 (lv_at hl 15 rfl) ?_
                                      refine lv_iload hx hb dL_years_306 (lv_at hl 13 rfl) ?_
                                      have ftk := tk_le hI.inv (w := v) (by omega) y (y * 12)
                                      refine zz_i (vx_runSX (As := [.ref (ad 0), .int (nI (3)), .int (nI (v)), .int (nI (y))]) (rest := []) ⟨hx, hb, hml, hown, hts⟩ (q_of3 l hfl hI.inv (by decide) hnd hAd (Nat.le_trans hz0 hS.1) hT  (nI (v)) (nI (y))) (vx_cwSW 4 hts gL_years_L_of rfl rfl rfl (by decide +kernel) (by decide)) (psV hK hP hX (fun a h1 h2 => hS.2.1 a h1 h2)) rfl rfl hl.1 rfl (lv_room (Nat.le_of_ble_eq_true rfl)) dL_years_308 ⟨show 34 + 32 * (y) + 5 * (v) + 2 + 2 ≤ 200 by omega, show 264 + 192 * (y) + 30 * (v) + 12 + 12 ≤ 1200 by omega⟩) hS (fun q _ h => h) (fun q h => h) (fun r9 u_91 t9 H locs ht9 hv9 hp9 hB9 hz1 hk1 hS => ?_)
                                      obtain ⟨e_91, hT⟩ := hp9
                                      have hP := hB9.2
                                      rw [ht9] at hP
                                      clear hB9 ht9 hv9 hz1 hk1
                                      have hcd_91 : cd1 (ixB (nI (v)) (K 0 0) && ixB (nI (y)) 3) = 0 := cd1_0 (ix2_t (by omega) (by omega) (by omega) (by decide))
                                      have e_91 := e_91.trans ((rsc_0 hcd_91).trans (show nI (tk K (clN (nI (v))) (clN (nI (y))) (clN (nI (y)) * 12)) = nI (tk K ((v)) ((y)) ((y) * 12)) by first | rfl | simp only [clN_nI (show v < 2 ^ 31 by omega), clN_nI (show y < 2 ^ 31 by omega)]))
                                      subst e_91
                                      refine lv_iload hx hb dL_years_311 (lv_at hl 1 rfl) ?_
                                      refine zb_Beq (tgt := 326) hx hb dL_years_313 (by decide) (fun c_92 => False.elim (by revert c_92; decide)) (fun _ => ?_)
                                      refine lv_aload hx hb dL_years_316 (lv_at hl 12 rfl) ?_
                                      refine lv_iload hx hb dL_years_318 (lv_at hl 13 rfl) ?_
                                      refine vp_callSi (W.runS (As := [.ref (ad 38), .int (nI (y))]) (rest := [.int (nI (tk K ((v)) ((y)) ((y) * 12)))]) ⟨hx, hb, hml, hown, hts⟩ (l_year l hI (by decide) (k := 38) (y := y) (f := u9) (g0 := fun t => 0 + ssum (fun m => tkc K v m t) (12 * y)) (by decide) rfl (fun t ht => hlt t ht) (by omega)) (va_cwS 2 hts gL_years_L_year rfl rfl rfl (by decide +kernel) (by decide)) (psA hK hP) rfl rfl hl.1 rfl (lv_room (Nat.le_of_ble_eq_true rfl)) dL_years_320 ⟨show 34 + 32 * (y) + 5 * (v) + 2 + 2 + 0 ≤ 200 by omega, show 264 + 192 * (y) + 30 * (v) + 12 + 12 + 0 ≤ 1200 by omega⟩) (fun r_94 hr_94 => ?_)
                                      subst hr_94
                                      have f_93 := tk_le hI.inv (w := v) (by omega) y (y * 12)
                                      refine zt_i (y := nI (tk K v y (y * 12))) (congrArg nI (ysm_tk0 K v (by omega))) ?_
                                      refine lv_goto (tgt := 328) hx hb dL_years_323 (by decide) ?_
                                      refine zb_ne (tgt := 363) hx hb (by omega) (by omega) dL_years_328 (by decide) (fun c_95 => ?_) (fun c_95 => ?_)
                                      · skip
                                        exact False.elim (by omega)
                                      · skip
                                        refine lv_aload_n hx hb dL_years_331 rfl (lv_at hl 3 rfl) ?_
                                        refine lv_bipush (v := nI 6) hx hb dL_years_332 (by decide) ?_
                                        refine lv_iload hx hb dL_years_334 (lv_at hl 15 rfl) ?_
                                        refine lv_iconst (v := nI 0) hx hb dL_years_336 (by decide) ?_
                                        have flv := hI.inv.li v
                                        refine zz_i (vx_runSX (As := [.ref (ad 0), .int (nI (6)), .int (nI (v)), .int (nI (0))]) (rest := []) ⟨hx, hb, hml, hown, hts⟩ (q_of6 l hfl hI.inv (by decide) hnd hAd (Nat.le_trans hz0 hS.1) hT  (nI (v)) (nI (0))) (vx_cwSW 4 hts gL_years_L_of rfl rfl rfl (by decide +kernel) (by decide)) (psV hK hP hX (fun a h1 h2 => hS.2.1 a h1 h2)) rfl rfl hl.1 rfl (lv_room (Nat.le_of_ble_eq_true rfl)) dL_years_337 ⟨show 34 + 32 * (y) + 5 * (v) + 2 + 2 + 1 ≤ 200 by omega, show 264 + 192 * (y) + 30 * (v) + 12 + 12 + 6 ≤ 1200 by omega⟩) hS (fun q _ h => h) (fun q h => h) (fun r9 u_96 t9 H locs ht9 hv9 hp9 hB9 hz1 hk1 hS => ?_)
                                        obtain ⟨e_96, hT⟩ := hp9
                                        have hP := hB9.2
                                        rw [ht9] at hP
                                        clear hB9 ht9 hv9 hz1 hk1
                                        have hcd_96 : cd1 (ixB (nI (v)) (K 0 0)) = 0 := cd1_0 (ix_t (by omega) (by omega))
                                        have e_96 := e_96.trans ((rsc_0 hcd_96).trans (show nI (K 3 (clN (nI (v)))) = nI (K 3 ((v))) by first | rfl | simp only [clN_nI (show v < 2 ^ 31 by omega), clN_nI (show 0 < 2 ^ 31 by omega)]))
                                        subst e_96
                                        refine lv_iload hx hb dL_years_340 (lv_at hl 15 rfl) ?_
                                        refine lv_aload_n hx hb dL_years_342 rfl (lv_at hl 4 rfl) ?_
                                        refine lv_iconst (v := nI 0) hx hb dL_years_343 (by decide) ?_
                                        refine zi_ld hx hb hK hP 27 (by decide) 0 rfl rfl (by decide) (i := 0) (by omega) (v := nI (K 0 0)) rfl dL_years_344 ?_
                                        refine zb_ge (tgt := 358) hx hb (by omega) (by omega) dL_years_345 (by decide) (fun c_97 => ?_) (fun c_97 => ?_)
                                        · skip
                                          exact False.elim (by omega)
                                        · skip
                                          refine lv_aload_n hx hb dL_years_348 rfl (lv_at hl 5 rfl) ?_
                                          refine lv_bipush (v := nI 10) hx hb dL_years_349 (by decide) ?_
                                          refine lv_iload hx hb dL_years_351 (lv_at hl 15 rfl) ?_
                                          refine zr_iadd hx hb dL_years_353 ?_
                                          have f_98 := hI.inv.li (v)
                                          refine zi_ld hx hb hK hP 28 (by decide) 0 rfl rfl (by decide) (i := 10 + (v)) (by omega) (v := nI (K 3 (v))) (fw_3 (by omega)) dL_years_354 ?_
                                          refine lv_goto (tgt := 360) hx hb dL_years_355 (by decide) ?_
                                          refine zb_eq (tgt := 365) hx hb (by omega) (by omega) dL_years_360 (by decide) (fun c_99 => ?_) (fun c_99 => ?_)
                                          · skip
                                            refine lv_iinc (v := nI (v + 1)) (lv' := [(13, .int (nI (v + 1))), (12, .int (nI (bys K y (v + 1)))), (15, .int (bB (true))), (14, .ref (ad (32 + (v)))), (0, .ref (ad 0)), (1, .ref (ad 27)), (2, .ref (ad 28)), (3, .ref (ad 32)), (4, .ref (ad 33)), (5, .ref (ad 34)), (6, .ref (ad 35)), (7, .ref (ad 36)), (8, .ref (ad 37)), (9, .ref (ad 38)), (10, .int (nI (y))), (11, .int (bB (true))), (16, .int (nI (36)))]) hx hb dL_years_365 hl (k := 15) rfl (zn_inc (v)) (by decide) rfl (fun ls hl => ?_)
                                            refine lv_goto (tgt := 116) hx hb dL_years_368 (by decide) ?_
                                            refine W.widen (show 34 + 32 * (y) + 5 * (v) + 2 + 2 + 1 ≤ 34 + 32 * (y) + 5 * (v + 1) by omega) (show 264 + 192 * (y) + 30 * (v) + 12 + 12 + 6 ≤ 264 + 192 * (y) + 30 * (v + 1) by omega) ?_
                                            exact ih116 (v + 1) (by omega) (by omega) (u_96.1) (u_96.2) (u9) hT _ _ hP hS _ (lv_sub hl [4, 5, 6, 7, 8, 9, 10, 11, 12, 13, 14, 15, 1, 0] rfl)
                                          · skip
                                            exact False.elim (by omega)
                                · skip
                                  refine lv_aload hx hb dL_years_200 (lv_at hl 11 rfl) ?_
                                  refine lv_iload hx hb dL_years_202 (lv_at hl 16 rfl) ?_
                                  refine lv_iconst (v := nI 0) hx hb dL_years_204 (by decide) ?_
                                  refine zi_st hx hb hK hP hnd hAd hS 38 (by decide) 0 rfl rfl (by decide) (i := mm) (by omega) (wxE ad cI cJ cQ (K) (ts1) (pu1) (K) (X2 (.inl (cI, 36, .inl (tn))) (.inl (cI, 36, .inl (upd ln (mm) (nI (0))))))) (wxS_x1) dL_years_205 (fun H locs hP hS => ?_)
                                  refine lv_iinc (v := nI (mm + 1)) (lv' := [(16, .int (nI (mm + 1))), (15, .int (bB (bo9))), (14, .ref (ad (32 + (by5 (v))))), (0, .ref (ad 0)), (1, .ref (ad 27)), (2, .ref (ad 28)), (3, .ref (ad 32)), (4, .ref (ad 33)), (5, .ref (ad 34)), (6, .ref (ad 35)), (7, .ref (ad 36)), (8, .ref (ad 37)), (9, .ref (ad 38)), (10, .int (nI (y))), (11, .int (bB (true))), (12, .int (nI (bys K y (v)))), (13, .int (nI (v)))]) hx hb dL_years_206 hl (k := 16) rfl (zn_inc (mm)) (by decide) rfl (fun ls hl => ?_)
                                  refine lv_goto (tgt := 193) hx hb dL_years_209 (by decide) ?_
                                  exact ih193 (mm + 1) (by omega) (by omega) (_) (zer_i hln) _ _ hP hS _ (lv_sub hl [1, 2, 3, 4, 5, 6, 7, 8, 9, 10, 11, 12, 13, 14, 15, 16, 0] rfl)
                            exact lp193 (36 - (0) + 1) (0) (by omega) (by omega) (ln) (fun t ht => by omega) _ _ hP hS _ (lv_sub hl [1, 2, 3, 4, 5, 6, 7, 8, 9, 10, 11, 12, 13, 14, 15, 16, 0] rfl)
                      refine W.widen (show 34 + 32 * (y) ≤ 34 + 32 * (y) + 5 * (0) by omega) (show 264 + 192 * (y) ≤ 264 + 192 * (y) + 30 * (0) by omega) ?_
                      exact lp116 (K 0 0 + 1 - (0) + 1) (0) (by omega) (by omega) (ts2) (pu2) (ln2) hT _ _ hP hS _ (lv_sub hl [3, 4, 5, 6, 7, 8, 9, 10, 11, 12, 13, 2, 1, 0] rfl)
              refine W.widen (show 0 + 1 + 1 + 5 * (K 0 0 + 1) + 1 + 1 ≤ 34 + 32 * (0) by omega) (show 0 + 36 + 36 + 30 * (K 0 0 + 1) + 6 + 6 ≤ 264 + 192 * (0) by omega) ?_
              exact lp86 (4 - (0) + 1) (0) (by omega) (by omega) (u_10.1) (u_10.2) (ln) hT _ _ hP hS _ (lv_sub hl [1, 2, 3, 4, 5, 6, 7, 8, 9, 10, 0] rfl)
            · skip
              suffices mg168 : ∀ ls : Array Slot, lv_has ls 17 [(0, .ref (ad 0)), (1, .ref (ad 27)), (2, .ref (ad 28)), (3, .ref (ad 32)), (4, .ref (ad 33)), (5, .ref (ad 34)), (6, .ref (ad 35)), (7, .ref (ad 36)), (8, .ref (ad 37)), (9, .ref (ad 38)), (10, .int (-1)), (11, .int (bB (false))), (12, .int (nI (0))), (13, .int (nI (v)))] → W p l e (rmX 4 200) s m args below meth c H locs (0 + 1 + 1 + 5 * (v)) (0 + 36 + 36 + 30 * (v)) Q (F0 m 168 ls [.ref (ad (32 + (by5 (v))))]) by
                refine lv_iload hx hb dL_years_124 (lv_at hl 13 rfl) ?_
                refine zb_0ne (tgt := 133) hx hb (by omega) dL_years_126 (by decide) (fun c_100 => ?_) (fun c_100 => ?_)
                · skip
                  refine lv_iload hx hb dL_years_133 (lv_at hl 13 rfl) ?_
                  refine lv_iconst (v := nI 1) hx hb dL_years_135 (by decide) ?_
                  refine zb_ne (tgt := 144) hx hb (by omega) (by omega) dL_years_136 (by decide) (fun c_101 => ?_) (fun c_101 => ?_)
                  · skip
                    refine lv_iload hx hb dL_years_144 (lv_at hl 13 rfl) ?_
                    refine lv_iconst (v := nI 2) hx hb dL_years_146 (by decide) ?_
                    refine zb_ne (tgt := 155) hx hb (by omega) (by omega) dL_years_147 (by decide) (fun c_102 => ?_) (fun c_102 => ?_)
                    · skip
                      refine lv_iload hx hb dL_years_155 (lv_at hl 13 rfl) ?_
                      refine lv_iconst (v := nI 3) hx hb dL_years_157 (by decide) ?_
                      refine zb_ne (tgt := 166) hx hb (by omega) (by omega) dL_years_158 (by decide) (fun c_103 => ?_) (fun c_103 => ?_)
                      · skip
                        refine lv_aload hx hb dL_years_166 (lv_at hl 7 rfl) ?_
                        refine zt_r (show ad 36 = ad (32 + (by5 (v))) from congrArg ad (by have hb5 := by5_s (v); omega)) ?_
                        exact mg168 _ (lv_sub hl [0, 1, 2, 3, 4, 5, 6, 7, 8, 9, 10, 11, 12, 13] rfl)
                      · skip
                        refine lv_aload hx hb dL_years_161 (lv_at hl 6 rfl) ?_
                        refine lv_goto (tgt := 168) hx hb dL_years_163 (by decide) ?_
                        refine zt_r (show ad 35 = ad (32 + (by5 (v))) from congrArg ad (by have hb5 := by5_s (v); omega)) ?_
                        exact mg168 _ (lv_sub hl [0, 1, 2, 3, 4, 5, 6, 7, 8, 9, 10, 11, 12, 13] rfl)
                    · skip
                      refine lv_aload hx hb dL_years_150 (lv_at hl 5 rfl) ?_
                      refine lv_goto (tgt := 168) hx hb dL_years_152 (by decide) ?_
                      refine zt_r (show ad 34 = ad (32 + (by5 (v))) from congrArg ad (by have hb5 := by5_s (v); omega)) ?_
                      exact mg168 _ (lv_sub hl [0, 1, 2, 3, 4, 5, 6, 7, 8, 9, 10, 11, 12, 13] rfl)
                  · skip
                    refine lv_aload hx hb dL_years_139 (lv_at hl 4 rfl) ?_
                    refine lv_goto (tgt := 168) hx hb dL_years_141 (by decide) ?_
                    refine zt_r (show ad 33 = ad (32 + (by5 (v))) from congrArg ad (by have hb5 := by5_s (v); omega)) ?_
                    exact mg168 _ (lv_sub hl [0, 1, 2, 3, 4, 5, 6, 7, 8, 9, 10, 11, 12, 13] rfl)
                · skip
                  refine lv_aload_n hx hb dL_years_129 rfl (lv_at hl 3 rfl) ?_
                  refine lv_goto (tgt := 168) hx hb dL_years_130 (by decide) ?_
                  refine zt_r (show ad 32 = ad (32 + (by5 (v))) from congrArg ad (by have hb5 := by5_s (v); omega)) ?_
                  exact mg168 _ (lv_sub hl [0, 1, 2, 3, 4, 5, 6, 7, 8, 9, 10, 11, 12, 13] rfl)
              intro ls hl
              refine lv_astore (lv' := [(14, .ref (ad (32 + (by5 (v))))), (0, .ref (ad 0)), (1, .ref (ad 27)), (2, .ref (ad 28)), (3, .ref (ad 32)), (4, .ref (ad 33)), (5, .ref (ad 34)), (6, .ref (ad 35)), (7, .ref (ad 36)), (8, .ref (ad 37)), (9, .ref (ad 38)), (10, .int (-1)), (11, .int (bB (false))), (12, .int (nI (0))), (13, .int (nI (v)))]) hx hb dL_years_168 hl (by decide) rfl (fun ls hl => ?_)
              refine lv_iload hx hb dL_years_170 (lv_at hl 12 rfl) ?_
              refine zb_Beq (tgt := 187) hx hb dL_years_172 (by decide) (fun _ => ?_) (fun c_104 => False.elim (by revert c_104; decide))
              refine lv_iconst (v := nI 0) hx hb dL_years_187 (by decide) ?_
              refine zt_i (y := bB false) rfl ?_
              refine lv_istore (lv' := [(15, .int (bB (false))), (14, .ref (ad (32 + (by5 (v))))), (0, .ref (ad 0)), (1, .ref (ad 27)), (2, .ref (ad 28)), (3, .ref (ad 32)), (4, .ref (ad 33)), (5, .ref (ad 34)), (6, .ref (ad 35)), (7, .ref (ad 36)), (8, .ref (ad 37)), (9, .ref (ad 38)), (10, .int (-1)), (11, .int (bB (false))), (12, .int (nI (0))), (13, .int (nI (v)))]) hx hb dL_years_188 hl (by decide) rfl (fun ls hl => ?_)
              refine lv_iconst (v := nI 0) hx hb dL_years_190 (by decide) ?_
              refine lv_istore (lv' := [(16, .int (nI (0))), (15, .int (bB (false))), (14, .ref (ad (32 + (by5 (v))))), (0, .ref (ad 0)), (1, .ref (ad 27)), (2, .ref (ad 28)), (3, .ref (ad 32)), (4, .ref (ad 33)), (5, .ref (ad 34)), (6, .ref (ad 35)), (7, .ref (ad 36)), (8, .ref (ad 37)), (9, .ref (ad 38)), (10, .int (-1)), (11, .int (bB (false))), (12, .int (nI (0))), (13, .int (nI (v)))]) hx hb dL_years_191 hl (by decide) rfl (fun ls hl => ?_)
              have lp193 : ∀ (n9 mm : Nat), mm ≤ 36 → 36 - mm < n9 → ∀ (ln : Nat → Int32), (∀ t, t < (mm) → ln t = nI 0) → ∀ (H : Heap) (locs : List Loc), va_P D vwCl (wz 39 ad (wxE ad cI cJ cQ (K) (ts1) (pu1) (K) (X2 (.inl (cI, 36, .inl (tn))) (.inl (cI, 36, .inl (ln)))))) H → va_S (zA z0) s.heap H locs → ∀ ls : Array Slot, lv_has ls 17 [(15, .int (bB (false))), (14, .ref (ad (32 + (by5 (v))))), (0, .ref (ad 0)), (1, .ref (ad 27)), (2, .ref (ad 28)), (3, .ref (ad 32)), (4, .ref (ad 33)), (5, .ref (ad 34)), (6, .ref (ad 35)), (7, .ref (ad 36)), (8, .ref (ad 37)), (9, .ref (ad 38)), (10, .int (-1)), (11, .int (bB (false))), (12, .int (nI (0))), (13, .int (nI (v))), (16, .int (nI (mm)))] → W p l e (rmX 4 200) s m args below meth c H locs (0 + 1 + 1 + 5 * (v)) (0 + 36 + 36 + 30 * (v)) Q (F0 m 193 ls []) := by
                intro n9
                induction n9 with
                | zero => intro mm q1 q2; omega
                | succ n9 ih193 =>
                  intro mm q1_193 q2_193 ln hln H locs hP hS ls hl
                  refine lv_iload hx hb dL_years_193 (lv_at hl 16 rfl) ?_
                  refine lv_bipush (v := nI 36) hx hb dL_years_195 (by decide) ?_
                  refine zb_ge (tgt := 212) hx hb (by omega) (by omega) dL_years_197 (by decide) (fun c_105 => ?_) (fun c_105 => ?_)
                  · skip
                    have q_106 : mm = 36 := by omega
                    subst q_106
                    refine lv_iload hx hb dL_years_212 (lv_at hl 0 rfl) ?_
                    refine zb_Beq (tgt := 273) hx hb dL_years_214 (by decide) (fun _ => ?_) (fun c_107 => False.elim (by revert c_107; decide))
                    refine lv_aload_n hx hb dL_years_273 rfl (lv_at hl 2 rfl) ?_
                    refine lv_iconst (v := nI 0) hx hb dL_years_274 (by decide) ?_
                    refine lv_iload hx hb dL_years_275 (lv_at hl 15 rfl) ?_
                    refine lv_iload hx hb dL_years_277 (lv_at hl 12 rfl) ?_
                    refine zz_i (vx_runSX (As := [.ref (ad 0), .int (nI (0)), .int (nI (v)), .int (-1)]) (rest := []) ⟨hx, hb, hml, hown, hts⟩ (q_of0 l hfl hI.inv (by decide) hnd hAd (Nat.le_trans hz0 hS.1) hT  (nI (v)) ((-1))) (vx_cwSW 4 hts gL_years_L_of rfl rfl rfl (by decide +kernel) (by decide)) (psV hK hP hX (fun a h1 h2 => hS.2.1 a h1 h2)) rfl rfl hl.1 rfl (lv_room (Nat.le_of_ble_eq_true rfl)) dL_years_279 ⟨show 0 + 1 + 1 + 5 * (v) + 2 ≤ 200 by omega, show 0 + 36 + 36 + 30 * (v) + 12 ≤ 1200 by omega⟩) hS (fun q _ h => h) (fun q h => h) (fun r9 u_108 t9 H locs ht9 hv9 hp9 hB9 hz1 hk1 hS => ?_)
                    obtain ⟨e_108, hT⟩ := hp9
                    have hP := hB9.2
                    rw [ht9] at hP
                    clear hB9 ht9 hv9 hz1 hk1
                    have hcd_108 : cd1 (ixB (nI (v)) (K 0 0) && ixB ((-1)) 3) = 1 := cd1_1 ix2_n
                    have e_108 := e_108.trans (rsc_1 hcd_108)
                    subst e_108
                    refine lv_iload hx hb dL_years_282 (lv_at hl 0 rfl) ?_
                    refine zb_Beq (tgt := 297) hx hb dL_years_284 (by decide) (fun _ => ?_) (fun c_109 => False.elim (by revert c_109; decide))
                    refine lv_bipush (v := (-101)) hx hb dL_years_297 (by decide) ?_
                    refine lv_icmp_ne (tgt := 363) hx hb dL_years_299 (by decide) (fun c_110 => False.elim (by revert c_110; decide)) (fun _ => ?_)
                    refine lv_aload_n hx hb dL_years_302 rfl (lv_at hl 2 rfl) ?_
                    refine lv_iconst (v := nI 3) hx hb dL_years_303 (by decide) ?_
                    refine lv_iload hx hb dL_years_304 (lv_at hl 15 rfl) ?_
                    refine lv_iload hx hb dL_years_306 (lv_at hl 12 rfl) ?_
                    refine zz_i (vx_runSX (As := [.ref (ad 0), .int (nI (3)), .int (nI (v)), .int (-1)]) (rest := []) ⟨hx, hb, hml, hown, hts⟩ (q_of3 l hfl hI.inv (by decide) hnd hAd (Nat.le_trans hz0 hS.1) hT  (nI (v)) ((-1))) (vx_cwSW 4 hts gL_years_L_of rfl rfl rfl (by decide +kernel) (by decide)) (psV hK hP hX (fun a h1 h2 => hS.2.1 a h1 h2)) rfl rfl hl.1 rfl (lv_room (Nat.le_of_ble_eq_true rfl)) dL_years_308 ⟨show 0 + 1 + 1 + 5 * (v) + 2 + 2 ≤ 200 by omega, show 0 + 36 + 36 + 30 * (v) + 12 + 12 ≤ 1200 by omega⟩) hS (fun q _ h => h) (fun q h => h) (fun r9 u_111 t9 H locs ht9 hv9 hp9 hB9 hz1 hk1 hS => ?_)
                    obtain ⟨e_111, hT⟩ := hp9
                    have hP := hB9.2
                    rw [ht9] at hP
                    clear hB9 ht9 hv9 hz1 hk1
                    have hcd_111 : cd1 (ixB (nI (v)) (K 0 0) && ixB ((-1)) 3) = 1 := cd1_1 ix2_n
                    have e_111 := e_111.trans (rsc_1 hcd_111)
                    subst e_111
                    refine lv_iload hx hb dL_years_311 (lv_at hl 0 rfl) ?_
                    refine zb_Beq (tgt := 326) hx hb dL_years_313 (by decide) (fun _ => ?_) (fun c_112 => False.elim (by revert c_112; decide))
                    refine lv_bipush (v := (-101)) hx hb dL_years_326 (by decide) ?_
                    refine lv_icmp_ne (tgt := 363) hx hb dL_years_328 (by decide) (fun c_113 => False.elim (by revert c_113; decide)) (fun _ => ?_)
                    by_cases hvw : v < K 0 0
                    · skip
                      refine lv_aload_n hx hb dL_years_331 rfl (lv_at hl 2 rfl) ?_
                      refine lv_bipush (v := nI 6) hx hb dL_years_332 (by decide) ?_
                      refine lv_iload hx hb dL_years_334 (lv_at hl 15 rfl) ?_
                      refine lv_iconst (v := nI 0) hx hb dL_years_336 (by decide) ?_
                      have flv := hI.inv.li v
                      refine zz_i (vx_runSX (As := [.ref (ad 0), .int (nI (6)), .int (nI (v)), .int (nI (0))]) (rest := []) ⟨hx, hb, hml, hown, hts⟩ (q_of6 l hfl hI.inv (by decide) hnd hAd (Nat.le_trans hz0 hS.1) hT  (nI (v)) (nI (0))) (vx_cwSW 4 hts gL_years_L_of rfl rfl rfl (by decide +kernel) (by decide)) (psV hK hP hX (fun a h1 h2 => hS.2.1 a h1 h2)) rfl rfl hl.1 rfl (lv_room (Nat.le_of_ble_eq_true rfl)) dL_years_337 ⟨show 0 + 1 + 1 + 5 * (v) + 2 + 2 + 1 ≤ 200 by omega, show 0 + 36 + 36 + 30 * (v) + 12 + 12 + 6 ≤ 1200 by omega⟩) hS (fun q _ h => h) (fun q h => h) (fun r9 u_114 t9 H locs ht9 hv9 hp9 hB9 hz1 hk1 hS => ?_)
                      obtain ⟨e_114, hT⟩ := hp9
                      have hP := hB9.2
                      rw [ht9] at hP
                      clear hB9 ht9 hv9 hz1 hk1
                      have hcd_114 : cd1 (ixB (nI (v)) (K 0 0)) = 0 := cd1_0 (ix_t (by omega) (by omega))
                      have e_114 := e_114.trans ((rsc_0 hcd_114).trans (show nI (K 3 (clN (nI (v)))) = nI (K 3 ((v))) by first | rfl | simp only [clN_nI (show v < 2 ^ 31 by omega), clN_nI (show 0 < 2 ^ 31 by omega)]))
                      subst e_114
                      refine lv_iload hx hb dL_years_340 (lv_at hl 15 rfl) ?_
                      refine lv_aload_n hx hb dL_years_342 rfl (lv_at hl 3 rfl) ?_
                      refine lv_iconst (v := nI 0) hx hb dL_years_343 (by decide) ?_
                      refine zi_ld hx hb hK hP 27 (by decide) 0 rfl rfl (by decide) (i := 0) (by omega) (v := nI (K 0 0)) rfl dL_years_344 ?_
                      refine zb_ge (tgt := 358) hx hb (by omega) (by omega) dL_years_345 (by decide) (fun c_115 => ?_) (fun c_115 => ?_)
                      · skip
                        exact False.elim (by omega)
                      · skip
                        refine lv_aload_n hx hb dL_years_348 rfl (lv_at hl 4 rfl) ?_
                        refine lv_bipush (v := nI 10) hx hb dL_years_349 (by decide) ?_
                        refine lv_iload hx hb dL_years_351 (lv_at hl 15 rfl) ?_
                        refine zr_iadd hx hb dL_years_353 ?_
                        have f_116 := hI.inv.li (v)
                        refine zi_ld hx hb hK hP 28 (by decide) 0 rfl rfl (by decide) (i := 10 + (v)) (by omega) (v := nI (K 3 (v))) (fw_3 (by omega)) dL_years_354 ?_
                        refine lv_goto (tgt := 360) hx hb dL_years_355 (by decide) ?_
                        refine zb_eq (tgt := 365) hx hb (by omega) (by omega) dL_years_360 (by decide) (fun c_117 => ?_) (fun c_117 => ?_)
                        · skip
                          refine lv_iinc (v := nI (v + 1)) (lv' := [(13, .int (nI (v + 1))), (15, .int (bB (false))), (14, .ref (ad (32 + (by5 (v))))), (0, .ref (ad 0)), (1, .ref (ad 27)), (2, .ref (ad 28)), (3, .ref (ad 32)), (4, .ref (ad 33)), (5, .ref (ad 34)), (6, .ref (ad 35)), (7, .ref (ad 36)), (8, .ref (ad 37)), (9, .ref (ad 38)), (10, .int (-1)), (11, .int (bB (false))), (12, .int (nI (0))), (16, .int (nI (36)))]) hx hb dL_years_365 hl (k := 15) rfl (zn_inc (v)) (by decide) rfl (fun ls hl => ?_)
                          refine lv_goto (tgt := 116) hx hb dL_years_368 (by decide) ?_
                          refine W.widen (show 0 + 1 + 1 + 5 * (v) + 2 + 2 + 1 ≤ 0 + 1 + 1 + 5 * (v + 1) by omega) (show 0 + 36 + 36 + 30 * (v) + 12 + 12 + 6 ≤ 0 + 36 + 36 + 30 * (v + 1) by omega) ?_
                          exact ih116 (v + 1) (by omega) (by omega) (u_114.1) (u_114.2) (ln) hT _ _ hP hS _ (lv_sub hl [3, 4, 5, 6, 7, 8, 9, 10, 11, 12, 13, 14, 15, 0] rfl)
                        · skip
                          exact False.elim (by omega)
                    · skip
                      refine lv_aload_n hx hb dL_years_331 rfl (lv_at hl 2 rfl) ?_
                      refine lv_bipush (v := nI 6) hx hb dL_years_332 (by decide) ?_
                      refine lv_iload hx hb dL_years_334 (lv_at hl 15 rfl) ?_
                      refine lv_iconst (v := nI 0) hx hb dL_years_336 (by decide) ?_
                      refine zz_i (vx_runSX (As := [.ref (ad 0), .int (nI (6)), .int (nI (v)), .int (nI (0))]) (rest := []) ⟨hx, hb, hml, hown, hts⟩ (q_of6 l hfl hI.inv (by decide) hnd hAd (Nat.le_trans hz0 hS.1) hT  (nI (v)) (nI (0))) (vx_cwSW 4 hts gL_years_L_of rfl rfl rfl (by decide +kernel) (by decide)) (psV hK hP hX (fun a h1 h2 => hS.2.1 a h1 h2)) rfl rfl hl.1 rfl (lv_room (Nat.le_of_ble_eq_true rfl)) dL_years_337 ⟨show 0 + 1 + 1 + 5 * (v) + 2 + 2 + 1 ≤ 200 by omega, show 0 + 36 + 36 + 30 * (v) + 12 + 12 + 6 ≤ 1200 by omega⟩) hS (fun q _ h => h) (fun q h => h) (fun r9 u_118 t9 H locs ht9 hv9 hp9 hB9 hz1 hk1 hS => ?_)
                      obtain ⟨e_118, hT⟩ := hp9
                      have hP := hB9.2
                      rw [ht9] at hP
                      clear hB9 ht9 hv9 hz1 hk1
                      have hcd_118 : cd1 (ixB (nI (v)) (K 0 0)) = 1 := cd1_1 (ix_f (by omega) (by omega))
                      have e_118 := e_118.trans (rsc_1 hcd_118)
                      subst e_118
                      refine lv_iload hx hb dL_years_340 (lv_at hl 15 rfl) ?_
                      refine lv_aload_n hx hb dL_years_342 rfl (lv_at hl 3 rfl) ?_
                      refine lv_iconst (v := nI 0) hx hb dL_years_343 (by decide) ?_
                      refine zi_ld hx hb hK hP 27 (by decide) 0 rfl rfl (by decide) (i := 0) (by omega) (v := nI (K 0 0)) rfl dL_years_344 ?_
                      refine zb_ge (tgt := 358) hx hb (by omega) (by omega) dL_years_345 (by decide) (fun c_119 => ?_) (fun c_119 => ?_)
                      · skip
                        refine lv_bipush (v := (-101)) hx hb dL_years_358 (by decide) ?_
                        refine lv_icmp_eq (tgt := 365) hx hb dL_years_360 (by decide) (fun _ => ?_) (fun c_120 => False.elim (by revert c_120; decide))
                        refine lv_iinc (v := nI (v + 1)) (lv' := [(13, .int (nI (v + 1))), (15, .int (bB (false))), (14, .ref (ad (32 + (by5 (v))))), (0, .ref (ad 0)), (1, .ref (ad 27)), (2, .ref (ad 28)), (3, .ref (ad 32)), (4, .ref (ad 33)), (5, .ref (ad 34)), (6, .ref (ad 35)), (7, .ref (ad 36)), (8, .ref (ad 37)), (9, .ref (ad 38)), (10, .int (-1)), (11, .int (bB (false))), (12, .int (nI (0))), (16, .int (nI (36)))]) hx hb dL_years_365 hl (k := 15) rfl (zn_inc (v)) (by decide) rfl (fun ls hl => ?_)
                        refine lv_goto (tgt := 116) hx hb dL_years_368 (by decide) ?_
                        refine W.widen (show 0 + 1 + 1 + 5 * (v) + 2 + 2 + 1 ≤ 0 + 1 + 1 + 5 * (v + 1) by omega) (show 0 + 36 + 36 + 30 * (v) + 12 + 12 + 6 ≤ 0 + 36 + 36 + 30 * (v + 1) by omega) ?_
                        exact ih116 (v + 1) (by omega) (by omega) (u_118.1) (u_118.2) (ln) hT _ _ hP hS _ (lv_sub hl [3, 4, 5, 6, 7, 8, 9, 10, 11, 12, 13, 14, 15, 0] rfl)
                      · skip
                        exact False.elim (by omega)
                  · skip
                    refine lv_aload hx hb dL_years_200 (lv_at hl 11 rfl) ?_
                    refine lv_iload hx hb dL_years_202 (lv_at hl 16 rfl) ?_
                    refine lv_iconst (v := nI 0) hx hb dL_years_204 (by decide) ?_
                    refine zi_st hx hb hK hP hnd hAd hS 38 (by decide) 0 rfl rfl (by decide) (i := mm) (by omega) (wxE ad cI cJ cQ (K) (ts1) (pu1) (K) (X2 (.inl (cI, 36, .inl (tn))) (.inl (cI, 36, .inl (upd ln (mm) (nI (0))))))) (wxS_x1) dL_years_205 (fun H locs hP hS => ?_)
                    refine lv_iinc (v := nI (mm + 1)) (lv' := [(16, .int (nI (mm + 1))), (15, .int (bB (false))), (14, .ref (ad (32 + (by5 (v))))), (0, .ref (ad 0)), (1, .ref (ad 27)), (2, .ref (ad 28)), (3, .ref (ad 32)), (4, .ref (ad 33)), (5, .ref (ad 34)), (6, .ref (ad 35)), (7, .ref (ad 36)), (8, .ref (ad 37)), (9, .ref (ad 38)), (10, .int (-1)), (11, .int (bB (false))), (12, .int (nI (0))), (13, .int (nI (v)))]) hx hb dL_years_206 hl (k := 16) rfl (zn_inc (mm)) (by decide) rfl (fun ls hl => ?_)
                    refine lv_goto (tgt := 193) hx hb dL_years_209 (by decide) ?_
                    exact ih193 (mm + 1) (by omega) (by omega) (_) (zer_i hln) _ _ hP hS _ (lv_sub hl [1, 2, 3, 4, 5, 6, 7, 8, 9, 10, 11, 12, 13, 14, 15, 16, 0] rfl)
              exact lp193 (36 - (0) + 1) (0) (by omega) (by omega) (ln) (fun t ht => by omega) _ _ hP hS _ (lv_sub hl [1, 2, 3, 4, 5, 6, 7, 8, 9, 10, 11, 12, 13, 14, 15, 16, 0] rfl)
        refine W.widen (show 0 + 1 + 1 ≤ 0 + 1 + 1 + 5 * (0) by omega) (show 0 + 36 + 36 ≤ 0 + 36 + 36 + 30 * (0) by omega) ?_
        exact lp116 (K 0 0 + 1 - (0) + 1) (0) (by omega) (by omega) (ts) (pu) ((fun _ => nI 0)) hT _ _ hP hS _ (lv_sub hl [4, 5, 6, 7, 8, 9, 10, 11, 12, 13, 3, 2, 1, 0] rfl)
      · skip
        refine lv_aload_n hx hb dL_years_23 rfl (lv_at hl 2 rfl) ?_
        suffices mg68 : ∀ ls : Array Slot, lv_has ls 17 [(0, .ref (ad 0)), (1, .ref (ad 27)), (2, .ref (ad 28)), (3, .ref (ad 32)), (4, .ref (ad 33)), (5, .ref (ad 34)), (6, .ref (ad 35)), (7, .ref (ad 36)), (8, .ref (ad 37)), (9, .ref (ad 38)), (10, .int (nI (w)))] → W p l e (rmX 4 200) s m args below meth c H locs (0 + 1 + 1) (0 + 36 + 36) Q (F0 m 68 ls [.ref (ad (32 + (w))), .ref (ad 28)]) by
          refine lv_iload hx hb dL_years_24 (lv_at hl 10 rfl) ?_
          refine zb_0ne (tgt := 33) hx hb (by omega) dL_years_26 (by decide) (fun c_121 => ?_) (fun c_121 => ?_)
          · skip
            refine lv_iload hx hb dL_years_33 (lv_at hl 10 rfl) ?_
            refine lv_iconst (v := nI 1) hx hb dL_years_35 (by decide) ?_
            refine zb_ne (tgt := 44) hx hb (by omega) (by omega) dL_years_36 (by decide) (fun c_122 => ?_) (fun c_122 => ?_)
            · skip
              refine lv_iload hx hb dL_years_44 (lv_at hl 10 rfl) ?_
              refine lv_iconst (v := nI 2) hx hb dL_years_46 (by decide) ?_
              refine zb_ne (tgt := 55) hx hb (by omega) (by omega) dL_years_47 (by decide) (fun c_123 => ?_) (fun c_123 => ?_)
              · skip
                refine lv_iload hx hb dL_years_55 (lv_at hl 10 rfl) ?_
                refine lv_iconst (v := nI 3) hx hb dL_years_57 (by decide) ?_
                refine zb_ne (tgt := 66) hx hb (by omega) (by omega) dL_years_58 (by decide) (fun c_124 => ?_) (fun c_124 => ?_)
                · skip
                  refine lv_aload hx hb dL_years_66 (lv_at hl 7 rfl) ?_
                  refine zt_r (show ad 36 = ad (32 + (w)) from congrArg ad (by omega)) ?_
                  exact mg68 _ (lv_sub hl [0, 1, 2, 3, 4, 5, 6, 7, 8, 9, 10] rfl)
                · skip
                  refine lv_aload hx hb dL_years_61 (lv_at hl 6 rfl) ?_
                  refine lv_goto (tgt := 68) hx hb dL_years_63 (by decide) ?_
                  refine zt_r (show ad 35 = ad (32 + (w)) from congrArg ad (by omega)) ?_
                  exact mg68 _ (lv_sub hl [0, 1, 2, 3, 4, 5, 6, 7, 8, 9, 10] rfl)
              · skip
                refine lv_aload hx hb dL_years_50 (lv_at hl 5 rfl) ?_
                refine lv_goto (tgt := 68) hx hb dL_years_52 (by decide) ?_
                refine zt_r (show ad 34 = ad (32 + (w)) from congrArg ad (by omega)) ?_
                exact mg68 _ (lv_sub hl [0, 1, 2, 3, 4, 5, 6, 7, 8, 9, 10] rfl)
            · skip
              refine lv_aload hx hb dL_years_39 (lv_at hl 4 rfl) ?_
              refine lv_goto (tgt := 68) hx hb dL_years_41 (by decide) ?_
              refine zt_r (show ad 33 = ad (32 + (w)) from congrArg ad (by omega)) ?_
              exact mg68 _ (lv_sub hl [0, 1, 2, 3, 4, 5, 6, 7, 8, 9, 10] rfl)
          · skip
            refine lv_aload_n hx hb dL_years_29 rfl (lv_at hl 3 rfl) ?_
            refine lv_goto (tgt := 68) hx hb dL_years_30 (by decide) ?_
            refine zt_r (show ad 32 = ad (32 + (w)) from congrArg ad (by omega)) ?_
            exact mg68 _ (lv_sub hl [0, 1, 2, 3, 4, 5, 6, 7, 8, 9, 10] rfl)
        intro ls hl
        refine lv_iload hx hb dL_years_68 (lv_at hl 10 rfl) ?_
        refine lv_bipush (v := nI 36) hx hb dL_years_70 (by decide) ?_
        refine lv_aload hx hb dL_years_72 (lv_at hl 8 rfl) ?_
        refine va_callv (va_runS (As := [.ref (ad 28), .ref (ad (32 + (w))), .int (nI (w)), .int (nI (36)), .ref (ad 37)]) (rest := []) ⟨hx, hb, hml, hown, hts⟩ (l_takes0 l hI hnd hAd (Nat.le_trans hz0 hS.1) (w := w) (E := 36) (g0 := fun t => ssum (fun w => ssum (fun m => tkc K w m t) 36) (w)) (by omega) (by omega) htn) (va_cwS 5 hts gL_years_L_takes rfl rfl rfl (by decide +kernel) (by decide)) (psAS hK hP) rfl rfl hl.1 rfl (lv_room (Nat.le_of_ble_eq_true rfl)) dL_years_74 ⟨show 0 + 1 + 1 + 0 ≤ 200 by omega, show 0 + 36 + 36 + 0 ≤ 1200 by omega⟩) hS (fun q _ h => h) (fun q h => h) (fun u9 t9 H locs ht9 hv9 hp9 hB9 hz1 hk1 hS => ?_)
        have hP := hB9.2
        rw [ht9] at hP
        clear hB9 ht9 hv9 hz1 hk1
        refine lv_iinc (v := nI (w + 1)) (lv' := [(10, .int (nI (w + 1))), (0, .ref (ad 0)), (1, .ref (ad 27)), (2, .ref (ad 28)), (3, .ref (ad 32)), (4, .ref (ad 33)), (5, .ref (ad 34)), (6, .ref (ad 35)), (7, .ref (ad 36)), (8, .ref (ad 37)), (9, .ref (ad 38))]) hx hb dL_years_77 hl (k := 10) rfl (zn_inc (w)) (by decide) rfl (fun ls hl => ?_)
        refine lv_goto (tgt := 15) hx hb dL_years_80 (by decide) ?_
        exact ih15 (w + 1) (by omega) (by omega) (_) hp9 _ _ hP hS _ (lv_sub hl [1, 2, 3, 4, 5, 6, 7, 8, 9, 10, 0] rfl)
  exact lp15 (K 0 0 - (0) + 1) (0) (by omega) (by omega) (fun _ => nI 0) (fun t ht => rfl) _ _ hP hS _ (lv_sub hl [3, 4, 5, 6, 7, 8, 9, 10, 2, 1, 0] rfl)
