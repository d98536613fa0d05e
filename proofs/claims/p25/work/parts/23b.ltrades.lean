set_option maxHeartbeats 4000000 in
set_option maxRecDepth 100000 in
/-- a trade tried -/
theorem l_trades (l : Launch) {D : va_G} {ad : Nat → Nat} {cI cJ cQ : ClassId} {M K : Mdl} {ts : Nat → Nat} {pu : Nat → Int64} {X : Nat → va_E} {sz z0 : Nat} (hI : Inl K) (hnd : ndz 37 ad) (hAd : ∀ i, i < 37 → zA z0 (ad i)) (hz0 : z0 ≤ sz) {wf wt u : Nat} (hf : wf < K 0 0) (hwt : wt < K 0 0) (hne : wf ≠ wt) (hu : u ≤ 5000) : Met l yL_trades wsL_trades (rmP 3) (va_Pc [.ref (ad 27), .ref (ad 28), .ref (ad 29), .ref (ad 30), .ref (ad 31), .int (nI (wf)), .int (nI (wt)), .int (nI (u))] (KAS D 37 ad cI cJ cQ (wxE ad cI cJ cQ M ts pu K X) sz)) (va_Qi (fun r_ (u_ : Unit) => r_ = (if cn K wf wt u = true then nI (gt K wf wt u) else -1)) (fun (u_ : Unit) t_ => KA D 37 ad cI cJ cQ (wxE ad cI cJ cQ M ts pu K X) t_) (zA z0)) 0 0 (zA z0) := by
  refine mk_Qi (S := Unit) (post := fun r_ (u_ : Unit) => r_ = (if cn K wf wt u = true then nI (gt K wf wt u) else -1)) (BQ := fun (u_ : Unit) t_ => KA D 37 ad cI cJ cQ (wxE ad cI cJ cQ M ts pu K X) t_) (cc := cL_trades) (maxL := 13) (by decide) rfl (Nat.le_of_ble_eq_true rfl) ?_
  intro p e s m args below meth c Q C0 B0 hret ls hl
  obtain ⟨hx, hb, hr, hml, hown, hts, hlocks⟩ := C0
  have hown : s.vm.findClass RL = some m.cls := hown
  obtain ⟨hsz, hK, hP⟩ := B0
  have b_nw := hI.nw
  have b_nv := hI.nv
  subst hsz
  have hS : va_S (zA z0) s.heap s.heap [] := va_S.rf
  have hG := gt_le hI.inv wf wt hu
  have b_lf := hI.inv.li wf
  have b_lt := hI.inv.li wt
  have hl : lv_has ls 13 [(0, .ref (ad 27)), (1, .ref (ad 28)), (2, .ref (ad 29)), (3, .ref (ad 30)), (4, .ref (ad 31)), (5, .int (nI (wf))), (6, .int (nI (wt))), (7, .int (nI (u)))] := hl
  refine lv_iload hx hb dL_trades_0 (lv_at hl 7 rfl) ?_
  refine lv_aload hx hb dL_trades_2 (lv_at hl 4 rfl) ?_
  refine lv_iconst (v := nI 3) hx hb dL_trades_4 (by decide) ?_
  refine lv_aload_n hx hb dL_trades_5 rfl (lv_at hl 1 rfl) ?_
  refine lv_iconst (v := nI 5) hx hb dL_trades_6 (by decide) ?_
  refine lv_iload hx hb dL_trades_7 (lv_at hl 5 rfl) ?_
  refine zr_iadd hx hb dL_trades_9 ?_
  have f_1 := hI.inv.zo (wf)
  refine zi_ld hx hb hK hP 28 (by decide) 0 rfl rfl (by decide) (i := 5 + (wf)) (by omega) (v := nI (K 2 (wf))) (fw_2 (by omega)) dL_trades_10 ?_
  refine zr_imul hx hb dL_trades_11 ?_
  refine lv_aload_n hx hb dL_trades_12 rfl (lv_at hl 1 rfl) ?_
  refine lv_iconst (v := nI 5) hx hb dL_trades_13 (by decide) ?_
  refine lv_iload hx hb dL_trades_14 (lv_at hl 6 rfl) ?_
  refine zr_iadd hx hb dL_trades_16 ?_
  have f_2 := hI.inv.zo (wt)
  refine zi_ld hx hb hK hP 28 (by decide) 0 rfl rfl (by decide) (i := 5 + (wt)) (by omega) (v := nI (K 2 (wt))) (fw_2 (by omega)) dL_trades_17 ?_
  refine zr_iadd hx hb dL_trades_18 ?_
  have f_3 := hI.inv.ra (K 2 (wf)) (by omega) (K 2 (wt))
  refine zi_ld hx hb hK hP 31 (by decide) 0 rfl rfl (by decide) (i := ((3) * (K 2 (wf))) + (K 2 (wt))) (by omega) (v := nI (K (12 + 3 * (K 2 (wf))) (K 2 (wt)))) (fr_1 (by omega)) dL_trades_19 ?_
  refine zr_imul hx hb dL_trades_20 ?_
  refine lv_bipush (v := nI 100) hx hb dL_trades_21 (by decide) ?_
  refine zr_idiv hx hb (by omega) (by omega) (by omega) dL_trades_23 ?_
  refine zt_i (y := nI (gt K wf wt u)) rfl ?_
  refine lv_istore (lv' := [(8, .int (nI (gt K wf wt u))), (0, .ref (ad 27)), (1, .ref (ad 28)), (2, .ref (ad 29)), (3, .ref (ad 30)), (4, .ref (ad 31)), (5, .int (nI (wf))), (6, .int (nI (wt))), (7, .int (nI (u)))]) hx hb dL_trades_24 hl (by decide) rfl (fun ls hl => ?_)
  refine lv_aload_n hx hb dL_trades_26 rfl (lv_at hl 2 rfl) ?_
  refine lv_bipush (v := nI 10) hx hb dL_trades_27 (by decide) ?_
  refine lv_iload hx hb dL_trades_29 (lv_at hl 6 rfl) ?_
  refine zr_iadd hx hb dL_trades_31 ?_
  have f_4 := hI.inv.li (wf)
  refine zi_ld hx hb hK hP 28 (by decide) 0 rfl rfl (by decide) (i := 10 + (wf)) (by omega) (v := nI (K 3 (wf))) (fw_3 (by omega)) dL_trades_32 ?_
  refine lv_iload hx hb dL_trades_33 (lv_at hl 8 rfl) ?_
  refine zb_lt (tgt := 54) hx hb (by omega) (by omega) dL_trades_35 (by decide) (fun c_5 => ?_) (fun c_5 => ?_)
  · skip
    refine lv_iconst (v := (-1)) hx hb dL_trades_54 (by decide) ?_
    exact hret (u := ()) (show (-1 : Int32) = _ from (by unfold cn; first | (rw [decide_eq_false (show ¬ u ≤ K 3 wf by omega)]; rfl) | (rw [decide_eq_false (show ¬ K 3 wt + gt K wf wt u ≤ 20000 by omega), Bool.and_false]; rfl))) hS (fun t ht hA => ⟨va_K.moved hA hK, by rw [ht]; exact hP⟩) dL_trades_55
  · skip
    refine lv_aload_n hx hb dL_trades_38 rfl (lv_at hl 2 rfl) ?_
    refine lv_bipush (v := nI 10) hx hb dL_trades_39 (by decide) ?_
    refine lv_iload hx hb dL_trades_41 (lv_at hl 7 rfl) ?_
    refine zr_iadd hx hb dL_trades_43 ?_
    have f_6 := hI.inv.li (wt)
    refine zi_ld hx hb hK hP 28 (by decide) 0 rfl rfl (by decide) (i := 10 + (wt)) (by omega) (v := nI (K 3 (wt))) (fw_3 (by omega)) dL_trades_44 ?_
    refine lv_iload hx hb dL_trades_45 (lv_at hl 0 rfl) ?_
    refine zr_iadd hx hb dL_trades_47 ?_
    refine lv_sipush (v := nI 20000) hx hb dL_trades_48 (by decide) ?_
    refine zb_le (tgt := 56) hx hb (by omega) (by omega) dL_trades_51 (by decide) (fun c_7 => ?_) (fun c_7 => ?_)
    · skip
      refine lv_iconst (v := nI 0) hx hb dL_trades_56 (by decide) ?_
      refine zt_i (y := bB (!cnv K wf wt u 0)) rfl ?_
      refine lv_istore (lv' := [(9, .int (bB (!cnv K wf wt u 0))), (8, .int (nI (gt K wf wt u))), (0, .ref (ad 27)), (1, .ref (ad 28)), (2, .ref (ad 29)), (3, .ref (ad 30)), (4, .ref (ad 31)), (5, .int (nI (wf))), (6, .int (nI (wt))), (7, .int (nI (u)))]) hx hb dL_trades_57 hl (by decide) rfl (fun ls hl => ?_)
      refine lv_iconst (v := nI 0) hx hb dL_trades_59 (by decide) ?_
      refine lv_istore (lv' := [(10, .int (nI (0))), (9, .int (bB (!cnv K wf wt u 0))), (8, .int (nI (gt K wf wt u))), (0, .ref (ad 27)), (1, .ref (ad 28)), (2, .ref (ad 29)), (3, .ref (ad 30)), (4, .ref (ad 31)), (5, .int (nI (wf))), (6, .int (nI (wt))), (7, .int (nI (u)))]) hx hb dL_trades_60 hl (by decide) rfl (fun ls hl => ?_)
      have lp62 : ∀ (n9 k : Nat), k ≤ K 5 0 → K 5 0 - k < n9 → ∀ (H : Heap) (locs : List Loc), va_P D vwCl (wz 37 ad (wxE ad cI cJ cQ (M) (ts) (pu) (K) (X))) H → va_S (zA z0) s.heap H locs → ∀ ls : Array Slot, lv_has ls 13 [(0, .ref (ad 27)), (1, .ref (ad 28)), (2, .ref (ad 29)), (3, .ref (ad 30)), (4, .ref (ad 31)), (5, .int (nI (wf))), (6, .int (nI (wt))), (7, .int (nI (u))), (8, .int (nI (gt K wf wt u))), (9, .int (bB (!cnv K wf wt u (k)))), (10, .int (nI (k)))] → W p l e (rmP 3) s m args below meth c H locs (0) (0) Q (F0 m 62 ls []) := by
        intro n9
        induction n9 with
        | zero => intro k q1 q2; omega
        | succ n9 ih62 =>
          intro k q1_62 q2_62 H locs hP hS ls hl
          refine lv_iload hx hb dL_trades_62 (lv_at hl 10 rfl) ?_
          refine lv_aload_n hx hb dL_trades_64 rfl (lv_at hl 0 rfl) ?_
          refine lv_iconst (v := nI 1) hx hb dL_trades_65 (by decide) ?_
          refine zi_ld hx hb hK hP 27 (by decide) 0 rfl rfl (by decide) (i := 1) (by omega) (v := nI (K 5 0)) rfl dL_trades_66 ?_
          refine zb_ge (tgt := 162) hx hb (by omega) (by omega) dL_trades_67 (by decide) (fun c_8 => ?_) (fun c_8 => ?_)
          · skip
            have q_9 : k = K 5 0 := by omega
            subst q_9
            refine lv_iload hx hb dL_trades_162 (lv_at hl 9 rfl) ?_
            refine zb_Beq (tgt := 171) hx hb dL_trades_164 (by decide) (fun c_10 => ?_) (fun c_10 => ?_)
            · skip
              refine lv_iload hx hb dL_trades_171 (lv_at hl 8 rfl) ?_
              exact hret (u := ()) (by have e9 : cnv K wf wt u (K 5 0) = true := (by simpa using (by assumption : (!cnv K wf wt u (K 5 0)) = false)); show nI _ = _; unfold cn; rw [e9, decide_eq_true (show u ≤ K 3 wf by omega), decide_eq_true (show K 3 wt + gt K wf wt u ≤ 20000 by omega)]; rfl) hS (fun t ht hA => ⟨va_K.moved hA hK, by rw [ht]; exact hP⟩) dL_trades_173
            · skip
              refine lv_iconst (v := (-1)) hx hb dL_trades_167 (by decide) ?_
              refine lv_goto (tgt := 173) hx hb dL_trades_168 (by decide) ?_
              exact hret (u := ()) (show (-1 : Int32) = _ from (by have e9 : cnv K wf wt u (K 5 0) = false := (by simpa using (by assumption : (!cnv K wf wt u (K 5 0)) = true)); unfold cn; rw [e9, Bool.and_false]; rfl)) hS (fun t ht hA => ⟨va_K.moved hA hK, by rw [ht]; exact hP⟩) dL_trades_173
          · skip
            refine lv_aload_n hx hb dL_trades_70 rfl (lv_at hl 0 rfl) ?_
            refine lv_aload_n hx hb dL_trades_71 rfl (lv_at hl 1 rfl) ?_
            refine lv_aload_n hx hb dL_trades_72 rfl (lv_at hl 2 rfl) ?_
            refine lv_aload_n hx hb dL_trades_73 rfl (lv_at hl 3 rfl) ?_
            refine lv_iload hx hb dL_trades_74 (lv_at hl 10 rfl) ?_
            refine vp_callSl (W.runS (As := [.ref (ad 27), .ref (ad 28), .ref (ad 29), .ref (ad 30), .int (nI (k))]) (rest := []) ⟨hx, hb, hml, hown, hts⟩ (l_burden l (hI) (by omega) (v := k) (by omega)) (va_cwS 5 hts gL_trades_L_burden rfl rfl rfl (by decide +kernel) (by decide)) (psA hK hP) rfl rfl hl.1 rfl (lv_room (Nat.le_of_ble_eq_true rfl)) dL_trades_76 (by decide)) (fun r_11 hr_11 => ?_)
            subst hr_11
            have f_12 := bud_le ((hI).inv) (k)
            refine lv_lstore (lv' := [(11, .long (lN (bud K (k)))), (0, .ref (ad 27)), (1, .ref (ad 28)), (2, .ref (ad 29)), (3, .ref (ad 30)), (4, .ref (ad 31)), (5, .int (nI (wf))), (6, .int (nI (wt))), (7, .int (nI (u))), (8, .int (nI (gt K wf wt u))), (9, .int (bB (!cnv K wf wt u (k)))), (10, .int (nI (k)))]) hx hb dL_trades_79 hl (by decide) rfl (fun ls hl => ?_)
            refine lv_aload_n hx hb dL_trades_81 rfl (lv_at hl 2 rfl) ?_
            refine lv_bipush (v := nI 10) hx hb dL_trades_82 (by decide) ?_
            refine lv_iload hx hb dL_trades_84 (lv_at hl 6 rfl) ?_
            refine zr_iadd hx hb dL_trades_86 ?_
            refine lv_dup2_11 hx hb dL_trades_87 rfl rfl ?_
            have f_13 := hI.inv.li (wf)
            refine zi_ld hx hb hK hP 28 (by decide) 0 rfl rfl (by decide) (i := 10 + (wf)) (by omega) (v := nI (K 3 (wf))) (fw_3 (by omega)) dL_trades_88 ?_
            refine lv_iload hx hb dL_trades_89 (lv_at hl 8 rfl) ?_
            refine zr_isub hx hb (by omega) dL_trades_91 ?_
            refine zi_st hx hb hK hP hnd hAd hS 28 (by decide) 0 rfl rfl (by decide) (i := 10 + (wf)) (by omega) (wxE ad cI cJ cQ (M) (ts) (pu) (mup K (3) (wf) ((K 3 (wf)) - (u))) (X)) (wlS_w3 (by omega)) dL_trades_92 (fun H locs hP hS => ?_)
            refine lv_aload_n hx hb dL_trades_93 rfl (lv_at hl 2 rfl) ?_
            refine lv_bipush (v := nI 10) hx hb dL_trades_94 (by decide) ?_
            refine lv_iload hx hb dL_trades_96 (lv_at hl 7 rfl) ?_
            refine zr_iadd hx hb dL_trades_98 ?_
            refine lv_dup2_11 hx hb dL_trades_99 rfl rfl ?_
            have f_14 := hI.inv.li (wt)
            refine zi_ld hx hb hK hP 28 (by decide) 0 rfl rfl (by decide) (i := 10 + (wt)) (by omega) (v := nI ((mup K (3) (wf) ((K 3 (wf)) - (u))) 3 (wt))) (fw_3 (by omega)) dL_trades_100 ?_
            refine zt_i (y := nI (K 3 wt)) (congrArg nI (mup_i (fun z => hne z.symm))) ?_
            refine lv_iload hx hb dL_trades_101 (lv_at hl 9 rfl) ?_
            refine zr_iadd hx hb dL_trades_103 ?_
            refine zi_st hx hb hK hP hnd hAd hS 28 (by decide) 0 rfl rfl (by decide) (i := 10 + (wt)) (by omega) (wxE ad cI cJ cQ (M) (ts) (pu) (mup (mup K (3) (wf) ((K 3 (wf)) - (u))) (3) (wt) ((K 3 wt) + (gt K wf wt u))) (X)) (wlS_w3 (by omega)) dL_trades_104 (fun H locs hP hS => ?_)
            have hI2 : Inl (mup (mup K (3) (wf) ((K 3 (wf)) - (u))) (3) (wt) ((K 3 wt) + (gt K wf wt u))) := ⟨Inv.up (Inv.up hI.inv (by omega) (by omega) (by omega) (by omega) (by omega) (by omega) (by omega) (by omega) (by omega) (by omega)) (by omega) (by omega) (by omega) (by omega) (by omega) (by omega) (by omega) (by omega) (by omega) (by omega), by rw [mup_k (by omega), mup_k (by omega)]; omega, by rw [mup_k (by omega), mup_k (by omega)]; omega⟩
            have hbt := bud_trade (M := K) (f := wf) (t := wt) (a := u) (x := gt K wf wt u) (v := k) hf hwt hne (by omega)
            suffices mg130 : ∀ ls : Array Slot, lv_has ls 13 [(11, .long (lN (bud K (k)))), (0, .ref (ad 27)), (1, .ref (ad 28)), (2, .ref (ad 29)), (3, .ref (ad 30)), (4, .ref (ad 31)), (5, .int (nI (wf))), (6, .int (nI (wt))), (7, .int (nI (u))), (8, .int (nI (gt K wf wt u))), (9, .int (bB (!cnv K wf wt u (k)))), (10, .int (nI (k)))] → W p l e (rmP 3) s m args below meth c H locs (0) (0) Q (F0 m 130 ls [.int (bB (!cnv K wf wt u (k + 1)))]) by
              refine lv_iload hx hb dL_trades_105 (lv_at hl 10 rfl) ?_
              refine zb_Bne (tgt := 125) hx hb dL_trades_107 (by decide) (fun c_15 => ?_) (fun c_15 => ?_)
              · skip
                refine lv_iconst (v := nI 1) hx hb dL_trades_125 (by decide) ?_
                refine lv_goto (tgt := 130) hx hb dL_trades_126 (by decide) ?_
                refine zt_i (y := bB (!cnv K wf wt u (k + 1))) (by have e9 : cnv K wf wt u (k + 1) = false := (by show (cnv K wf wt u k && decide _) = false; first | (rw [decide_eq_false (show ¬ gt K wf wt u * als K wt k ≤ u * als K wf k by omega), Bool.and_false]) | (rw [show cnv K wf wt u k = false from (by simpa using (by assumption : (!cnv K wf wt u k) = true)), Bool.false_and])); rw [e9]; rfl) ?_
                exact mg130 _ (lv_sub hl [0, 1, 2, 3, 4, 5, 6, 7, 8, 9, 10, 11] rfl)
              · skip
                refine lv_aload_n hx hb dL_trades_110 rfl (lv_at hl 1 rfl) ?_
                refine lv_aload_n hx hb dL_trades_111 rfl (lv_at hl 2 rfl) ?_
                refine lv_aload_n hx hb dL_trades_112 rfl (lv_at hl 3 rfl) ?_
                refine lv_aload_n hx hb dL_trades_113 rfl (lv_at hl 4 rfl) ?_
                refine lv_iload hx hb dL_trades_114 (lv_at hl 11 rfl) ?_
                refine vp_callSl (W.runS (As := [.ref (ad 27), .ref (ad 28), .ref (ad 29), .ref (ad 30), .int (nI (k))]) (rest := []) ⟨hx, hb, hml, hown, hts⟩ (l_burden l (hI2) (by omega) (v := k) (by omega)) (va_cwS 5 hts gL_trades_L_burden rfl rfl rfl (by decide +kernel) (by decide)) (psA hK hP) rfl rfl hl.1 rfl (lv_room (Nat.le_of_ble_eq_true rfl)) dL_trades_116 (by decide)) (fun r_16 hr_16 => ?_)
                subst hr_16
                have f_17 := bud_le ((hI2).inv) (k)
                refine lv_lload hx hb dL_trades_119 (lv_at hl 0 rfl) ?_
                refine zbL_le (tgt := 129) hx hb (by omega) (by omega) dL_trades_121 dL_trades_122 (by decide) (fun c_18 => ?_) (fun c_18 => ?_)
                · skip
                  refine lv_iconst (v := nI 0) hx hb dL_trades_129 (by decide) ?_
                  refine zt_i (y := bB (!cnv K wf wt u (k + 1))) (by have e9 : cnv K wf wt u (k + 1) = true := (by show (cnv K wf wt u k && decide _) = true; rw [decide_eq_true (show gt K wf wt u * als K wt k ≤ u * als K wf k by omega), Bool.and_true]; simpa using (by assumption : (!cnv K wf wt u k) = false)); rw [e9]; rfl) ?_
                  exact mg130 _ (lv_sub hl [0, 1, 2, 3, 4, 5, 6, 7, 8, 9, 10, 11] rfl)
                · skip
                  refine lv_iconst (v := nI 1) hx hb dL_trades_125 (by decide) ?_
                  refine lv_goto (tgt := 130) hx hb dL_trades_126 (by decide) ?_
                  refine zt_i (y := bB (!cnv K wf wt u (k + 1))) (by have e9 : cnv K wf wt u (k + 1) = false := (by show (cnv K wf wt u k && decide _) = false; first | (rw [decide_eq_false (show ¬ gt K wf wt u * als K wt k ≤ u * als K wf k by omega), Bool.and_false]) | (rw [show cnv K wf wt u k = false from (by simpa using (by assumption : (!cnv K wf wt u k) = true)), Bool.false_and])); rw [e9]; rfl) ?_
                  exact mg130 _ (lv_sub hl [0, 1, 2, 3, 4, 5, 6, 7, 8, 9, 10, 11] rfl)
            intro ls hl
            refine lv_istore (lv' := [(9, .int (bB (!cnv K wf wt u (k + 1)))), (11, .long (lN (bud K (k)))), (0, .ref (ad 27)), (1, .ref (ad 28)), (2, .ref (ad 29)), (3, .ref (ad 30)), (4, .ref (ad 31)), (5, .int (nI (wf))), (6, .int (nI (wt))), (7, .int (nI (u))), (8, .int (nI (gt K wf wt u))), (10, .int (nI (k)))]) hx hb dL_trades_130 hl (by decide) rfl (fun ls hl => ?_)
            refine lv_aload_n hx hb dL_trades_132 rfl (lv_at hl 3 rfl) ?_
            refine lv_bipush (v := nI 10) hx hb dL_trades_133 (by decide) ?_
            refine lv_iload hx hb dL_trades_135 (lv_at hl 7 rfl) ?_
            refine zr_iadd hx hb dL_trades_137 ?_
            refine lv_dup2_11 hx hb dL_trades_138 rfl rfl ?_
            have f_19 := hI.inv.li (wf)
            refine zi_ld hx hb hK hP 28 (by decide) 0 rfl rfl (by decide) (i := 10 + (wf)) (by omega) (v := nI ((mup (mup K (3) (wf) ((K 3 (wf)) - (u))) (3) (wt) ((K 3 wt) + (gt K wf wt u))) 3 (wf))) (fw_3 (by omega)) dL_trades_139 ?_
            refine zt_i (y := nI (K 3 (wf) - u)) (congrArg nI ((mup_i hne).trans mup_s)) ?_
            refine lv_iload hx hb dL_trades_140 (lv_at hl 9 rfl) ?_
            refine zr_iadd hx hb dL_trades_142 ?_
            refine zt_i (y := nI (K 3 wf)) (congrArg nI ((by omega))) ?_
            refine zi_st hx hb hK hP hnd hAd hS 28 (by decide) 0 rfl rfl (by decide) (i := 10 + (wf)) (by omega) (wxE ad cI cJ cQ (M) (ts) (pu) (mup (mup (mup K (3) (wf) ((K 3 (wf)) - (u))) (3) (wt) ((K 3 wt) + (gt K wf wt u))) (3) (wf) (K 3 wf)) (X)) (wlS_w3 (by omega)) dL_trades_143 (fun H locs hP hS => ?_)
            refine lv_aload_n hx hb dL_trades_144 rfl (lv_at hl 3 rfl) ?_
            refine lv_bipush (v := nI 10) hx hb dL_trades_145 (by decide) ?_
            refine lv_iload hx hb dL_trades_147 (lv_at hl 8 rfl) ?_
            refine zr_iadd hx hb dL_trades_149 ?_
            refine lv_dup2_11 hx hb dL_trades_150 rfl rfl ?_
            have f_20 := hI.inv.li (wt)
            refine zi_ld hx hb hK hP 28 (by decide) 0 rfl rfl (by decide) (i := 10 + (wt)) (by omega) (v := nI ((mup (mup (mup K (3) (wf) ((K 3 (wf)) - (u))) (3) (wt) ((K 3 wt) + (gt K wf wt u))) (3) (wf) (K 3 wf)) 3 (wt))) (fw_3 (by omega)) dL_trades_151 ?_
            refine zt_i (y := nI (K 3 wt + gt K wf wt u)) (congrArg nI ((mup_i (fun z => hne z.symm)).trans mup_s)) ?_
            refine lv_iload hx hb dL_trades_152 (lv_at hl 10 rfl) ?_
            refine zr_isub hx hb (by omega) dL_trades_154 ?_
            refine zt_i (y := nI (K 3 wt)) (congrArg nI ((by omega))) ?_
            refine zi_st hx hb hK hP hnd hAd hS 28 (by decide) 0 rfl rfl (by decide) (i := 10 + (wt)) (by omega) (wxE ad cI cJ cQ (M) (ts) (pu) (mup (mup (mup (mup K (3) (wf) ((K 3 (wf)) - (u))) (3) (wt) ((K 3 wt) + (gt K wf wt u))) (3) (wf) (K 3 wf)) (3) (wt) (K 3 wt)) (X)) (wlS_w3 (by omega)) dL_trades_155 (fun H locs hP hS => ?_)
            rw [tr_back hne] at hP
            refine lv_iinc (v := nI (k + 1)) (lv' := [(10, .int (nI (k + 1))), (9, .int (bB (!cnv K wf wt u (k + 1)))), (11, .long (lN (bud K (k)))), (0, .ref (ad 27)), (1, .ref (ad 28)), (2, .ref (ad 29)), (3, .ref (ad 30)), (4, .ref (ad 31)), (5, .int (nI (wf))), (6, .int (nI (wt))), (7, .int (nI (u))), (8, .int (nI (gt K wf wt u)))]) hx hb dL_trades_156 hl (k := 11) rfl (zn_inc (k)) (by decide) rfl (fun ls hl => ?_)
            refine lv_goto (tgt := 62) hx hb dL_trades_159 (by decide) ?_
            exact ih62 (k + 1) (by omega) (by omega) _ _ hP hS _ (lv_sub hl [3, 4, 5, 6, 7, 8, 9, 10, 11, 1, 0] rfl)
      exact lp62 (K 5 0 - (0) + 1) (0) (by omega) (by omega) _ _ hP hS _ (lv_sub hl [3, 4, 5, 6, 7, 8, 9, 10, 2, 1, 0] rfl)
    · skip
      refine lv_iconst (v := (-1)) hx hb dL_trades_54 (by decide) ?_
      exact hret (u := ()) (show (-1 : Int32) = _ from (by unfold cn; first | (rw [decide_eq_false (show ¬ u ≤ K 3 wf by omega)]; rfl) | (rw [decide_eq_false (show ¬ K 3 wt + gt K wf wt u ≤ 20000 by omega), Bool.and_false]; rfl))) hS (fun t ht hA => ⟨va_K.moved hA hK, by rw [ht]; exact hP⟩) dL_trades_55
