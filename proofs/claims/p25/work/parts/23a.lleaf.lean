set_option maxHeartbeats 4000000 in
set_option maxRecDepth 100000 in
/-- some number below N -/
theorem l_some (l : Launch)  (x : Int32) {N : Nat} (h0 : 0 < N) (hN : N < 2 ^ 31) : Met l yL_some wsL_some (rmP 0) (va_Pc [.int (x), .int (nI (N))] (fun _ => True)) (vp_Si (fun r_ => ∃ j : Nat, j < N ∧ r_ = nI j)) 0 0 (fun _ => False) := by
  refine mk_Si (post := fun r_ => ∃ j : Nat, j < N ∧ r_ = nI j) (cc := cL_some) (maxL := 2) (by decide) rfl (Nat.le_of_ble_eq_true rfl) ?_
  intro p e s m args below meth c Q C0 B0 hret ls hl
  obtain ⟨hx, hb, hr, hml, hown, hts, hlocks⟩ := C0
  have hown : s.vm.findClass RL = some m.cls := hown
  have hl : lv_has ls 2 [(0, .int (x)), (1, .int (nI (N)))] := hl
  refine lv_iload_n hx hb dL_some_0 rfl (lv_at hl 0 rfl) ?_
  refine lv_iconst (v := nI 2) hx hb dL_some_1 (by decide) ?_
  obtain ⟨a_1, ba_1, ea_1⟩ := us2 ((x))
  refine lv_iushr hx hb dL_some_2 ea_1 ?_
  refine lv_iload_n hx hb dL_some_3 rfl (lv_at hl 1 rfl) ?_
  refine zr_irem hx hb (by omega) (by omega) (by omega) dL_some_4 ?_
  exact hret ⟨_, Nat.mod_lt _ h0, rfl⟩ dL_some_5
set_option maxHeartbeats 4000000 in
set_option maxRecDepth 100000 in
/-- the reach of a well -/
theorem l_reach (l : Launch) {D : va_G} {n : Nat} {ad : Nat → Nat} {cI cJ cQ : ClassId} {M K : Mdl} {ts : Nat → Nat} {pu : Nat → Int64} {X : Nat → va_E} (hI : Inl K) (hn : 37 ≤ n) {w v : Nat} (hw : w < 5) (hv : v < 3) : Met l yL_reach wsL_reach (rmP 0) (va_Pc [.ref (ad 28), .ref (ad 29), .int (nI (w)), .int (nI (v))] (KA D n ad cI cJ cQ (wxE ad cI cJ cQ M ts pu K X))) (vp_Si (fun r_ => r_ = nI (rch K w v))) 0 0 (fun _ => False) := by
  refine mk_Si (post := fun r_ => r_ = nI (rch K w v)) (cc := cL_reach) (maxL := 5) (by decide) rfl (Nat.le_of_ble_eq_true rfl) ?_
  intro p e s m args below meth c Q C0 B0 hret ls hl
  obtain ⟨hx, hb, hr, hml, hown, hts, hlocks⟩ := C0
  have hown : s.vm.findClass RL = some m.cls := hown
  obtain ⟨hK, hP⟩ := B0
  have b_nw := hI.nw
  have b_nv := hI.nv
  have hl : lv_has ls 5 [(0, .ref (ad 28)), (1, .ref (ad 29)), (2, .int (nI (w))), (3, .int (nI (v)))] := hl
  refine lv_aload_n hx hb dL_reach_0 rfl (lv_at hl 0 rfl) ?_
  refine lv_iload_n hx hb dL_reach_1 rfl (lv_at hl 2 rfl) ?_
  have f_1 := hI.inv.pl (w)
  refine zi_ld hx hb hK hP 28 (by omega) 0 rfl rfl (by decide) (i := w) (by omega) (v := nI (K 1 (w))) (fw_1 (by omega)) dL_reach_2 ?_
  refine lv_aload_n hx hb dL_reach_3 rfl (lv_at hl 1 rfl) ?_
  refine lv_iload_n hx hb dL_reach_4 rfl (lv_at hl 3 rfl) ?_
  have f_2 := hI.inv.sp (v)
  refine zi_ld hx hb hK hP 29 (by omega) 0 rfl rfl (by decide) (i := v) (by omega) (v := nI (K 6 (v))) (fv_1 (by omega)) dL_reach_5 ?_
  refine lv_isub hx hb dL_reach_6 ?_
  refine lv_istore (lv' := [(4, .int (nI (K 1 (w)) - nI (K 6 (v)))), (0, .ref (ad 28)), (1, .ref (ad 29)), (2, .int (nI (w))), (3, .int (nI (v)))]) hx hb dL_reach_7 hl (by decide) rfl (fun ls hl => ?_)
  refine lv_iload hx hb dL_reach_9 (lv_at hl 0 rfl) ?_
  refine lv_if_ge (tgt := 20) hx hb dL_reach_11 (by decide) (fun c_3 => ?_) (fun c_3 => ?_)
  · skip
    refine lv_iload hx hb dL_reach_20 (lv_at hl 0 rfl) ?_
    refine zt_i (y := nI (((K 1 (w)) - (K 6 (v))) + ((K 6 (v)) - (K 1 (w))))) (by have h9 := abs_nI (a := K 1 (w)) (b := K 6 (v)) (by omega) (by omega); rw [if_pos c_3] at h9; exact h9) ?_
    refine lv_bipush (v := nI 10) hx hb dL_reach_22 (by decide) ?_
    refine zr_idiv hx hb (by omega) (by omega) (by omega) dL_reach_24 ?_
    exact hret rfl dL_reach_25
  · skip
    refine lv_iload hx hb dL_reach_14 (lv_at hl 0 rfl) ?_
    refine lv_ineg hx hb dL_reach_16 ?_
    refine lv_goto (tgt := 22) hx hb dL_reach_17 (by decide) ?_
    refine zt_i (y := nI (((K 1 (w)) - (K 6 (v))) + ((K 6 (v)) - (K 1 (w))))) (by have h9 := abs_nI (a := K 1 (w)) (b := K 6 (v)) (by omega) (by omega); rw [if_neg c_3, Int32.zero_sub] at h9; exact h9) ?_
    refine lv_bipush (v := nI 10) hx hb dL_reach_22 (by decide) ?_
    refine zr_idiv hx hb (by omega) (by omega) (by omega) dL_reach_24 ?_
    exact hret rfl dL_reach_25
set_option maxHeartbeats 4000000 in
set_option maxRecDepth 100000 in
/-- what a well pumps, laid on a row of months -/
theorem l_lower (l : Launch) {D : va_G} {ad : Nat → Nat} {cI cJ cQ : ClassId} {M K : Mdl} {ts : Nat → Nat} {pu : Nat → Int64} {sz z0 : Nat} (hI : Inl K) (hnd : ndz 39 ad) (hAd : ∀ i, i < 39 → zA z0 (ad i)) (hz0 : z0 ≤ sz) {qv : Nat → Int64} {bx : va_E} {w v : Nat} (hw : w < 5) (hv : v < 3) : Met l yL_lower wsL_lower (rmP 1) (va_Pc [.ref (ad 28), .ref (ad 29), .ref (ad 30), .ref (ad (32 + (w))), .int (nI (w)), .int (nI (v)), .ref (ad 37)] (KAS D 39 ad cI cJ cQ (wxE ad cI cJ cQ M ts pu K (X2 (.inl (cJ, 36, .inr (.inl (qv)))) bx)) sz)) (va_Qv (fun (u_ : Nat → Int64) => ∀ t, u_ t = qv t + lN (ssum (fun mo => cpl K v w mo t) 36)) (fun (u_ : Nat → Int64) t_ => KA D 39 ad cI cJ cQ (wxE ad cI cJ cQ M ts pu K (X2 (.inl (cJ, 36, .inr (.inl (u_)))) bx)) t_) (zA z0)) 0 0 (zA z0) := by
  refine mk_Qv (S := Nat → Int64) (post := fun (u_ : Nat → Int64) => ∀ t, u_ t = qv t + lN (ssum (fun mo => cpl K v w mo t) 36)) (BQ := fun (u_ : Nat → Int64) t_ => KA D 39 ad cI cJ cQ (wxE ad cI cJ cQ M ts pu K (X2 (.inl (cJ, 36, .inr (.inl (u_)))) bx)) t_) (cc := cL_lower) (maxL := 10) (by decide) rfl (Nat.le_of_ble_eq_true rfl) ?_
  intro p e s m args below meth c Q C0 B0 hret ls hl
  obtain ⟨hx, hb, hr, hml, hown, hts, hlocks⟩ := C0
  have hown : s.vm.findClass RL = some m.cls := hown
  obtain ⟨hsz, hK, hP⟩ := B0
  have b_nw := hI.nw
  have b_nv := hI.nv
  subst hsz
  have hS : va_S (zA z0) s.heap s.heap [] := va_S.rf
  have hl : lv_has ls 10 [(0, .ref (ad 28)), (1, .ref (ad 29)), (2, .ref (ad 30)), (3, .ref (ad (32 + (w)))), (4, .int (nI (w))), (5, .int (nI (v))), (6, .ref (ad 37))] := hl
  refine lv_aload_n hx hb dL_lower_0 rfl (lv_at hl 0 rfl) ?_
  refine lv_aload_n hx hb dL_lower_1 rfl (lv_at hl 1 rfl) ?_
  refine lv_iload hx hb dL_lower_2 (lv_at hl 4 rfl) ?_
  refine lv_iload hx hb dL_lower_4 (lv_at hl 5 rfl) ?_
  refine vp_callSi (W.runS (As := [.ref (ad 28), .ref (ad 29), .int (nI (w)), .int (nI (v))]) (rest := []) ⟨hx, hb, hml, hown, hts⟩ (l_reach l hI (by omega) (w := w) (v := v) (by omega) (by omega)) (va_cwS 4 hts gL_lower_L_reach rfl rfl rfl (by decide +kernel) (by decide)) (psA hK hP) rfl rfl hl.1 rfl (lv_room (Nat.le_of_ble_eq_true rfl)) dL_lower_6 (by decide)) (fun r_1 hr_1 => ?_)
  subst hr_1
  have f_2 := rch_le hI.inv (w) (v)
  refine lv_istore (lv' := [(7, .int (nI (rch K (w) (v)))), (0, .ref (ad 28)), (1, .ref (ad 29)), (2, .ref (ad 30)), (3, .ref (ad (32 + (w)))), (4, .int (nI (w))), (5, .int (nI (v))), (6, .ref (ad 37))]) hx hb dL_lower_9 hl (by decide) rfl (fun ls hl => ?_)
  refine lv_iconst (v := nI 0) hx hb dL_lower_11 (by decide) ?_
  refine lv_istore (lv' := [(8, .int (nI (0))), (7, .int (nI (rch K (w) (v)))), (0, .ref (ad 28)), (1, .ref (ad 29)), (2, .ref (ad 30)), (3, .ref (ad (32 + (w)))), (4, .int (nI (w))), (5, .int (nI (v))), (6, .ref (ad 37))]) hx hb dL_lower_12 hl (by decide) rfl (fun ls hl => ?_)
  have lp14 : ∀ (n9 mm : Nat), mm ≤ 36 → 36 - mm < n9 → ∀ (pu9 : Nat → Int64), (∀ t, pu9 t = qv t + lN (ssum (fun mo => cpl K v w mo t) (mm))) → ∀ (H : Heap) (locs : List Loc), va_P D vwCl (wz 39 ad (wxE ad cI cJ cQ (M) (ts) (pu) (K) (X2 (.inl (cJ, 36, .inr (.inl (pu9)))) bx))) H → va_S (zA z0) s.heap H locs → ∀ ls : Array Slot, lv_has ls 10 [(0, .ref (ad 28)), (1, .ref (ad 29)), (2, .ref (ad 30)), (3, .ref (ad (32 + (w)))), (4, .int (nI (w))), (5, .int (nI (v))), (6, .ref (ad 37)), (7, .int (nI (rch K (w) (v)))), (8, .int (nI (mm)))] → W p l e (rmP 1) s m args below meth c H locs (0) (0) Q (F0 m 14 ls []) := by
    intro n9
    induction n9 with
    | zero => intro mm q1 q2; omega
    | succ n9 ih14 =>
      intro mm q1_14 q2_14 pu9 phA H locs hP hS ls hl
      have hD := d12_s (36 - mm)
      have hR := rl5_s (rch K (w) (v)) mm
      refine lv_iload hx hb dL_lower_14 (lv_at hl 8 rfl) ?_
      refine lv_bipush (v := nI 36) hx hb dL_lower_16 (by decide) ?_
      refine zb_ge (tgt := 87) hx hb (by omega) (by omega) dL_lower_18 (by decide) (fun c_3 => ?_) (fun c_3 => ?_)
      · skip
        have q_4 : mm = 36 := by omega
        subst q_4
        exact hret (u := pu9) phA hS (fun t ht hA => ⟨va_K.moved hA hK, by rw [ht]; exact hP⟩) dL_lower_87
      · skip
        refine lv_iconst (v := nI 0) hx hb dL_lower_21 (by decide) ?_
        refine lv_istore (lv' := [(9, .int (nI (0))), (0, .ref (ad 28)), (1, .ref (ad 29)), (2, .ref (ad 30)), (3, .ref (ad (32 + (w)))), (4, .int (nI (w))), (5, .int (nI (v))), (6, .ref (ad 37)), (7, .int (nI (rch K (w) (v)))), (8, .int (nI (mm)))]) hx hb dL_lower_22 hl (by decide) rfl (fun ls hl => ?_)
        have lp24 : ∀ (n9 d : Nat), d ≤ rl5 (rch K w v) mm → rl5 (rch K w v) mm - d < n9 → ∀ (pv : Nat → Int64), (∀ t, pv t = pu9 t + lN (if mm ≤ t ∧ t < mm + (d) then K (10 + 3 * w) mm * K (11 + 3 * rch K w v) (t - mm) else 0)) → ∀ (H : Heap) (locs : List Loc), va_P D vwCl (wz 39 ad (wxE ad cI cJ cQ (M) (ts) (pu) (K) (X2 (.inl (cJ, 36, .inr (.inl (pv)))) bx))) H → va_S (zA z0) s.heap H locs → ∀ ls : Array Slot, lv_has ls 10 [(0, .ref (ad 28)), (1, .ref (ad 29)), (2, .ref (ad 30)), (3, .ref (ad (32 + (w)))), (4, .int (nI (w))), (5, .int (nI (v))), (6, .ref (ad 37)), (7, .int (nI (rch K (w) (v)))), (8, .int (nI (mm))), (9, .int (nI (d)))] → W p l e (rmP 1) s m args below meth c H locs (0) (0) Q (F0 m 24 ls []) := by
          intro n9
          induction n9 with
          | zero => intro d q1 q2; omega
          | succ n9 ih24 =>
            intro d q1_24 q2_24 pv phB H locs hP hS ls hl
            refine lv_iload hx hb dL_lower_24 (lv_at hl 9 rfl) ?_
            refine lv_bipush (v := nI 12) hx hb dL_lower_26 (by decide) ?_
            refine zb_ge (tgt := 81) hx hb (by omega) (by omega) dL_lower_28 (by decide) (fun c_5 => ?_) (fun c_5 => ?_)
            · skip
              have q_6 : d = rl5 (rch K w v) mm := by omega
              subst q_6
              refine lv_iinc (v := nI (mm + 1)) (lv' := [(8, .int (nI (mm + 1))), (0, .ref (ad 28)), (1, .ref (ad 29)), (2, .ref (ad 30)), (3, .ref (ad (32 + (w)))), (4, .int (nI (w))), (5, .int (nI (v))), (6, .ref (ad 37)), (7, .int (nI (rch K (w) (v)))), (9, .int (nI (rl5 (rch K w v) mm)))]) hx hb dL_lower_81 hl (k := 8) rfl (zn_inc (mm)) (by decide) rfl (fun ls hl => ?_)
              refine lv_goto (tgt := 14) hx hb dL_lower_84 (by decide) ?_
              exact ih14 (mm + 1) (by omega) (by omega) (pv) (low_k phA phB) _ _ hP hS _ (lv_sub hl [1, 2, 3, 4, 5, 6, 7, 8, 0] rfl)
            · skip
              refine lv_iload hx hb dL_lower_31 (lv_at hl 8 rfl) ?_
              refine lv_iload hx hb dL_lower_33 (lv_at hl 9 rfl) ?_
              refine zr_iadd hx hb dL_lower_35 ?_
              refine lv_bipush (v := nI 36) hx hb dL_lower_36 (by decide) ?_
              refine zb_ge (tgt := 81) hx hb (by omega) (by omega) dL_lower_38 (by decide) (fun c_7 => ?_) (fun c_7 => ?_)
              · skip
                have q_8 : d = rl5 (rch K w v) mm := by omega
                subst q_8
                refine lv_iinc (v := nI (mm + 1)) (lv' := [(8, .int (nI (mm + 1))), (0, .ref (ad 28)), (1, .ref (ad 29)), (2, .ref (ad 30)), (3, .ref (ad (32 + (w)))), (4, .int (nI (w))), (5, .int (nI (v))), (6, .ref (ad 37)), (7, .int (nI (rch K (w) (v)))), (9, .int (nI (rl5 (rch K w v) mm)))]) hx hb dL_lower_81 hl (k := 8) rfl (zn_inc (mm)) (by decide) rfl (fun ls hl => ?_)
                refine lv_goto (tgt := 14) hx hb dL_lower_84 (by decide) ?_
                exact ih14 (mm + 1) (by omega) (by omega) (pv) (low_k phA phB) _ _ hP hS _ (lv_sub hl [1, 2, 3, 4, 5, 6, 7, 8, 0] rfl)
              · skip
                refine lv_iload hx hb dL_lower_41 (lv_at hl 7 rfl) ?_
                refine lv_iconst (v := nI 5) hx hb dL_lower_43 (by decide) ?_
                refine zb_ge (tgt := 81) hx hb (by omega) (by omega) dL_lower_44 (by decide) (fun c_9 => ?_) (fun c_9 => ?_)
                · skip
                  have q_10 : d = rl5 (rch K w v) mm := by omega
                  subst q_10
                  refine lv_iinc (v := nI (mm + 1)) (lv' := [(8, .int (nI (mm + 1))), (0, .ref (ad 28)), (1, .ref (ad 29)), (2, .ref (ad 30)), (3, .ref (ad (32 + (w)))), (4, .int (nI (w))), (5, .int (nI (v))), (6, .ref (ad 37)), (7, .int (nI (rch K (w) (v)))), (9, .int (nI (rl5 (rch K w v) mm)))]) hx hb dL_lower_81 hl (k := 8) rfl (zn_inc (mm)) (by decide) rfl (fun ls hl => ?_)
                  refine lv_goto (tgt := 14) hx hb dL_lower_84 (by decide) ?_
                  exact ih14 (mm + 1) (by omega) (by omega) (pv) (low_k phA phB) _ _ hP hS _ (lv_sub hl [1, 2, 3, 4, 5, 6, 7, 8, 0] rfl)
                · skip
                  refine lv_aload hx hb dL_lower_47 (lv_at hl 6 rfl) ?_
                  refine lv_iload hx hb dL_lower_49 (lv_at hl 8 rfl) ?_
                  refine lv_iload hx hb dL_lower_51 (lv_at hl 9 rfl) ?_
                  refine zr_iadd hx hb dL_lower_53 ?_
                  refine lv_dup2_11 hx hb dL_lower_54 rfl rfl ?_
                  refine zl_ld hx hb hK hP 37 (by decide) 1 rfl rfl (by decide) (i := (mm) + (d)) (by omega) (v := pv ((mm) + (d))) rfl dL_lower_55 ?_
                  refine lv_aload_n hx hb dL_lower_56 rfl (lv_at hl 3 rfl) ?_
                  refine lv_iload hx hb dL_lower_57 (lv_at hl 8 rfl) ?_
                  have f_11 := hI.inv.un (w) (by omega) (mm)
                  refine zi_ld hx hb hK hP (32 + (w)) (by omega) 0 (wx_p (by omega)) rfl (by decide) (i := mm) (by omega) (v := nI (K (10 + 3 * (w)) (mm))) rfl dL_lower_59 ?_
                  refine zr_i2l hx hb (by omega) dL_lower_60 ?_
                  refine lv_aload_n hx hb dL_lower_61 rfl (lv_at hl 2 rfl) ?_
                  refine lv_bipush (v := nI 12) hx hb dL_lower_62 (by decide) ?_
                  refine lv_iload hx hb dL_lower_64 (lv_at hl 7 rfl) ?_
                  refine zr_imul hx hb dL_lower_66 ?_
                  refine lv_iload hx hb dL_lower_67 (lv_at hl 9 rfl) ?_
                  refine zr_iadd hx hb dL_lower_69 ?_
                  have f_12 := hI.inv.tb (rch K (w) (v)) (by omega) (d)
                  refine zi_ld hx hb hK hP 30 (by decide) 0 rfl rfl (by decide) (i := ((12) * (rch K (w) (v))) + (d)) (by omega) (v := nI (K (11 + 3 * (rch K (w) (v))) (d))) (ft_1 (by omega)) dL_lower_70 ?_
                  refine zr_i2l hx hb (by omega) dL_lower_71 ?_
                  refine zr_lmul hx hb dL_lower_72 ?_
                  refine lv_ladd hx hb dL_lower_73 ?_
                  refine zl_st hx hb hK hP hnd hAd hS 37 (by decide) 1 rfl rfl (by decide) (i := (mm) + (d)) (by omega) (wxE ad cI cJ cQ (M) (ts) (pu) (K) (X2 (.inl (cJ, 36, .inr (.inl (vp_updL pv ((mm) + (d)) ((pv ((mm) + (d)) + lN ((K (10 + 3 * (w)) (mm)) * (K (11 + 3 * (rch K (w) (v))) (d))))))))) bx)) (wxS_x0) dL_lower_74 (fun H locs hP hS => ?_)
                  refine lv_iinc (v := nI (d + 1)) (lv' := [(9, .int (nI (d + 1))), (0, .ref (ad 28)), (1, .ref (ad 29)), (2, .ref (ad 30)), (3, .ref (ad (32 + (w)))), (4, .int (nI (w))), (5, .int (nI (v))), (6, .ref (ad 37)), (7, .int (nI (rch K (w) (v)))), (8, .int (nI (mm)))]) hx hb dL_lower_75 hl (k := 9) rfl (zn_inc (d)) (by decide) rfl (fun ls hl => ?_)
                  refine lv_goto (tgt := 24) hx hb dL_lower_78 (by decide) ?_
                  exact ih24 (d + 1) (by omega) (by omega) (_) (lay_k (f := K (11 + 3 * rch K w v)) phB) _ _ hP hS _ (lv_sub hl [1, 2, 3, 4, 5, 6, 7, 8, 9, 0] rfl)
        exact lp24 (rl5 (rch K w v) mm - (0) + 1) (0) (by omega) (by omega) (pu9) (fun t => by rw [if_neg (by omega)]; exact (Int64.add_zero _).symm) _ _ hP hS _ (lv_sub hl [1, 2, 3, 4, 5, 6, 7, 8, 9, 0] rfl)
  exact lp14 (36 - (0) + 1) (0) (by omega) (by omega) (qv) (fun t => by rw [ssum_0]; exact (Int64.add_zero _).symm) _ _ hP hS _ (lv_sub hl [2, 3, 4, 5, 6, 7, 8, 1, 0] rfl)
set_option maxHeartbeats 4000000 in
set_option maxRecDepth 100000 in
/-- .. all wells -/
theorem l_lowers (l : Launch) {D : va_G} {ad : Nat → Nat} {cI cJ cQ : ClassId} {M K : Mdl} {ts : Nat → Nat} {pu : Nat → Int64} {sz z0 : Nat} (hI : Inl K) (hnd : ndz 39 ad) (hAd : ∀ i, i < 39 → zA z0 (ad i)) (hz0 : z0 ≤ sz) {qv : Nat → Int64} {bx : va_E} {v : Nat} (hv : v < 3) : Met l yL_lowers wsL_lowers (rmP 2) (va_Pc [.ref (ad 27), .ref (ad 28), .ref (ad 29), .ref (ad 30), .ref (ad 32), .ref (ad 33), .ref (ad 34), .ref (ad 35), .ref (ad 36), .int (nI (v)), .ref (ad 37)] (KAS D 39 ad cI cJ cQ (wxE ad cI cJ cQ M ts pu K (X2 (.inl (cJ, 36, .inr (.inl (qv)))) bx)) sz)) (va_Qv (fun (u_ : Nat → Int64) => ∀ t, t < 36 → u_ t = lN (dd K v t)) (fun (u_ : Nat → Int64) t_ => KA D 39 ad cI cJ cQ (wxE ad cI cJ cQ M ts pu K (X2 (.inl (cJ, 36, .inr (.inl (u_)))) bx)) t_) (zA z0)) 0 0 (zA z0) := by
  refine mk_Qv (S := Nat → Int64) (post := fun (u_ : Nat → Int64) => ∀ t, t < 36 → u_ t = lN (dd K v t)) (BQ := fun (u_ : Nat → Int64) t_ => KA D 39 ad cI cJ cQ (wxE ad cI cJ cQ M ts pu K (X2 (.inl (cJ, 36, .inr (.inl (u_)))) bx)) t_) (cc := cL_lowers) (maxL := 12) (by decide) rfl (Nat.le_of_ble_eq_true rfl) ?_
  intro p e s m args below meth c Q C0 B0 hret ls hl
  obtain ⟨hx, hb, hr, hml, hown, hts, hlocks⟩ := C0
  have hown : s.vm.findClass RL = some m.cls := hown
  obtain ⟨hsz, hK, hP⟩ := B0
  have b_nw := hI.nw
  have b_nv := hI.nv
  subst hsz
  have hS : va_S (zA z0) s.heap s.heap [] := va_S.rf
  have hl : lv_has ls 12 [(0, .ref (ad 27)), (1, .ref (ad 28)), (2, .ref (ad 29)), (3, .ref (ad 30)), (4, .ref (ad 32)), (5, .ref (ad 33)), (6, .ref (ad 34)), (7, .ref (ad 35)), (8, .ref (ad 36)), (9, .int (nI (v))), (10, .ref (ad 37))] := hl
  refine lv_iconst (v := nI 0) hx hb dL_lowers_0 (by decide) ?_
  refine lv_istore (lv' := [(11, .int (nI (0))), (0, .ref (ad 27)), (1, .ref (ad 28)), (2, .ref (ad 29)), (3, .ref (ad 30)), (4, .ref (ad 32)), (5, .ref (ad 33)), (6, .ref (ad 34)), (7, .ref (ad 35)), (8, .ref (ad 36)), (9, .int (nI (v))), (10, .ref (ad 37))]) hx hb dL_lowers_1 hl (by decide) rfl (fun ls hl => ?_)
  have lp3 : ∀ (n9 k : Nat), k ≤ 36 → 36 - k < n9 → ∀ (pu9 : Nat → Int64), (∀ t, t < (k) → pu9 t = lN 0) → ∀ (H : Heap) (locs : List Loc), va_P D vwCl (wz 39 ad (wxE ad cI cJ cQ (M) (ts) (pu) (K) (X2 (.inl (cJ, 36, .inr (.inl (pu9)))) bx))) H → va_S (zA z0) s.heap H locs → ∀ ls : Array Slot, lv_has ls 12 [(0, .ref (ad 27)), (1, .ref (ad 28)), (2, .ref (ad 29)), (3, .ref (ad 30)), (4, .ref (ad 32)), (5, .ref (ad 33)), (6, .ref (ad 34)), (7, .ref (ad 35)), (8, .ref (ad 36)), (9, .int (nI (v))), (10, .ref (ad 37)), (11, .int (nI (k)))] → W p l e (rmP 2) s m args below meth c H locs (0) (0) Q (F0 m 3 ls []) := by
    intro n9
    induction n9 with
    | zero => intro k q1 q2; omega
    | succ n9 ih3 =>
      intro k q1_3 q2_3 pu9 phA H locs hP hS ls hl
      refine lv_iload hx hb dL_lowers_3 (lv_at hl 11 rfl) ?_
      refine lv_bipush (v := nI 36) hx hb dL_lowers_5 (by decide) ?_
      refine zb_ge (tgt := 22) hx hb (by omega) (by omega) dL_lowers_7 (by decide) (fun c_1 => ?_) (fun c_1 => ?_)
      · skip
        have q_2 : k = 36 := by omega
        subst q_2
        refine lv_iconst (v := nI 0) hx hb dL_lowers_22 (by decide) ?_
        refine lv_istore (lv' := [(11, .int (nI (0))), (0, .ref (ad 27)), (1, .ref (ad 28)), (2, .ref (ad 29)), (3, .ref (ad 30)), (4, .ref (ad 32)), (5, .ref (ad 33)), (6, .ref (ad 34)), (7, .ref (ad 35)), (8, .ref (ad 36)), (9, .int (nI (v))), (10, .ref (ad 37))]) hx hb dL_lowers_23 hl (by decide) rfl (fun ls hl => ?_)
        have lp25 : ∀ (n9 w : Nat), w ≤ K 0 0 → K 0 0 - w < n9 → ∀ (pv : Nat → Int64), (∀ t, t < 36 → pv t = lN (ssum (fun w => ssum (fun mo => cpl K v w mo t) 36) (w))) → ∀ (H : Heap) (locs : List Loc), va_P D vwCl (wz 39 ad (wxE ad cI cJ cQ (M) (ts) (pu) (K) (X2 (.inl (cJ, 36, .inr (.inl (pv)))) bx))) H → va_S (zA z0) s.heap H locs → ∀ ls : Array Slot, lv_has ls 12 [(0, .ref (ad 27)), (1, .ref (ad 28)), (2, .ref (ad 29)), (3, .ref (ad 30)), (4, .ref (ad 32)), (5, .ref (ad 33)), (6, .ref (ad 34)), (7, .ref (ad 35)), (8, .ref (ad 36)), (9, .int (nI (v))), (10, .ref (ad 37)), (11, .int (nI (w)))] → W p l e (rmP 2) s m args below meth c H locs (0) (0) Q (F0 m 25 ls []) := by
          intro n9
          induction n9 with
          | zero => intro w q1 q2; omega
          | succ n9 ih25 =>
            intro w q1_25 q2_25 pv phB H locs hP hS ls hl
            refine lv_iload hx hb dL_lowers_25 (lv_at hl 11 rfl) ?_
            refine lv_aload_n hx hb dL_lowers_27 rfl (lv_at hl 0 rfl) ?_
            refine lv_iconst (v := nI 0) hx hb dL_lowers_28 (by decide) ?_
            refine zi_ld hx hb hK hP 27 (by decide) 0 rfl rfl (by decide) (i := 0) (by omega) (v := nI (K 0 0)) rfl dL_lowers_29 ?_
            refine zb_ge (tgt := 96) hx hb (by omega) (by omega) dL_lowers_30 (by decide) (fun c_3 => ?_) (fun c_3 => ?_)
            · skip
              have q_4 : w = K 0 0 := by omega
              subst q_4
              exact hret (u := pv) (low_e phB) hS (fun t ht hA => ⟨va_K.moved hA hK, by rw [ht]; exact hP⟩) dL_lowers_96
            · skip
              refine lv_aload_n hx hb dL_lowers_33 rfl (lv_at hl 1 rfl) ?_
              refine lv_aload_n hx hb dL_lowers_34 rfl (lv_at hl 2 rfl) ?_
              refine lv_aload_n hx hb dL_lowers_35 rfl (lv_at hl 3 rfl) ?_
              suffices mg81 : ∀ ls : Array Slot, lv_has ls 12 [(0, .ref (ad 27)), (1, .ref (ad 28)), (2, .ref (ad 29)), (3, .ref (ad 30)), (4, .ref (ad 32)), (5, .ref (ad 33)), (6, .ref (ad 34)), (7, .ref (ad 35)), (8, .ref (ad 36)), (9, .int (nI (v))), (10, .ref (ad 37)), (11, .int (nI (w)))] → W p l e (rmP 2) s m args below meth c H locs (0) (0) Q (F0 m 81 ls [.ref (ad (32 + (w))), .ref (ad 30), .ref (ad 29), .ref (ad 28)]) by
                refine lv_iload hx hb dL_lowers_36 (lv_at hl 11 rfl) ?_
                refine zb_0ne (tgt := 46) hx hb (by omega) dL_lowers_38 (by decide) (fun c_5 => ?_) (fun c_5 => ?_)
                · skip
                  refine lv_iload hx hb dL_lowers_46 (lv_at hl 11 rfl) ?_
                  refine lv_iconst (v := nI 1) hx hb dL_lowers_48 (by decide) ?_
                  refine zb_ne (tgt := 57) hx hb (by omega) (by omega) dL_lowers_49 (by decide) (fun c_6 => ?_) (fun c_6 => ?_)
                  · skip
                    refine lv_iload hx hb dL_lowers_57 (lv_at hl 11 rfl) ?_
                    refine lv_iconst (v := nI 2) hx hb dL_lowers_59 (by decide) ?_
                    refine zb_ne (tgt := 68) hx hb (by omega) (by omega) dL_lowers_60 (by decide) (fun c_7 => ?_) (fun c_7 => ?_)
                    · skip
                      refine lv_iload hx hb dL_lowers_68 (lv_at hl 11 rfl) ?_
                      refine lv_iconst (v := nI 3) hx hb dL_lowers_70 (by decide) ?_
                      refine zb_ne (tgt := 79) hx hb (by omega) (by omega) dL_lowers_71 (by decide) (fun c_8 => ?_) (fun c_8 => ?_)
                      · skip
                        refine lv_aload hx hb dL_lowers_79 (lv_at hl 8 rfl) ?_
                        refine zt_r (show ad 36 = ad (32 + (w)) from congrArg ad (by omega)) ?_
                        exact mg81 _ (lv_sub hl [0, 1, 2, 3, 4, 5, 6, 7, 8, 9, 10, 11] rfl)
                      · skip
                        refine lv_aload hx hb dL_lowers_74 (lv_at hl 7 rfl) ?_
                        refine lv_goto (tgt := 81) hx hb dL_lowers_76 (by decide) ?_
                        refine zt_r (show ad 35 = ad (32 + (w)) from congrArg ad (by omega)) ?_
                        exact mg81 _ (lv_sub hl [0, 1, 2, 3, 4, 5, 6, 7, 8, 9, 10, 11] rfl)
                    · skip
                      refine lv_aload hx hb dL_lowers_63 (lv_at hl 6 rfl) ?_
                      refine lv_goto (tgt := 81) hx hb dL_lowers_65 (by decide) ?_
                      refine zt_r (show ad 34 = ad (32 + (w)) from congrArg ad (by omega)) ?_
                      exact mg81 _ (lv_sub hl [0, 1, 2, 3, 4, 5, 6, 7, 8, 9, 10, 11] rfl)
                  · skip
                    refine lv_aload hx hb dL_lowers_52 (lv_at hl 5 rfl) ?_
                    refine lv_goto (tgt := 81) hx hb dL_lowers_54 (by decide) ?_
                    refine zt_r (show ad 33 = ad (32 + (w)) from congrArg ad (by omega)) ?_
                    exact mg81 _ (lv_sub hl [0, 1, 2, 3, 4, 5, 6, 7, 8, 9, 10, 11] rfl)
                · skip
                  refine lv_aload hx hb dL_lowers_41 (lv_at hl 4 rfl) ?_
                  refine lv_goto (tgt := 81) hx hb dL_lowers_43 (by decide) ?_
                  refine zt_r (show ad 32 = ad (32 + (w)) from congrArg ad (by omega)) ?_
                  exact mg81 _ (lv_sub hl [0, 1, 2, 3, 4, 5, 6, 7, 8, 9, 10, 11] rfl)
              intro ls hl
              refine lv_iload hx hb dL_lowers_81 (lv_at hl 11 rfl) ?_
              refine lv_iload hx hb dL_lowers_83 (lv_at hl 9 rfl) ?_
              refine lv_aload hx hb dL_lowers_85 (lv_at hl 10 rfl) ?_
              refine va_callv (va_runS (As := [.ref (ad 28), .ref (ad 29), .ref (ad 30), .ref (ad (32 + (w))), .int (nI (w)), .int (nI (v)), .ref (ad 37)]) (rest := []) ⟨hx, hb, hml, hown, hts⟩ (l_lower l hI hnd hAd (Nat.le_trans hz0 hS.1) (w := w) (v := v) (by omega) (by omega)) (va_cwS 7 hts gL_lowers_L_lower rfl rfl rfl (by decide +kernel) (by decide)) (psAS hK hP) rfl rfl hl.1 rfl (lv_room (Nat.le_of_ble_eq_true rfl)) dL_lowers_87 (by decide)) hS (fun q _ h => h) (fun q h => h) (fun u9 t9 H locs ht9 hv9 hp9 hB9 hz1 hk1 hS => ?_)
              have hP := hB9.2
              rw [ht9] at hP
              refine lv_iinc (v := nI (w + 1)) (lv' := [(11, .int (nI (w + 1))), (0, .ref (ad 27)), (1, .ref (ad 28)), (2, .ref (ad 29)), (3, .ref (ad 30)), (4, .ref (ad 32)), (5, .ref (ad 33)), (6, .ref (ad 34)), (7, .ref (ad 35)), (8, .ref (ad 36)), (9, .int (nI (v))), (10, .ref (ad 37))]) hx hb dL_lowers_90 hl (k := 11) rfl (zn_inc (w)) (by decide) rfl (fun ls hl => ?_)
              refine lv_goto (tgt := 25) hx hb dL_lowers_93 (by decide) ?_
              exact ih25 (w + 1) (by omega) (by omega) (_) (low_w phB hp9) _ _ hP hS _ (lv_sub hl [1, 2, 3, 4, 5, 6, 7, 8, 9, 10, 11, 0] rfl)
        exact lp25 (K 0 0 - (0) + 1) (0) (by omega) (by omega) (pu9) (fun t ht => by rw [ssum_0]; exact phA t ht) _ _ hP hS _ (lv_sub hl [1, 2, 3, 4, 5, 6, 7, 8, 9, 10, 11, 0] rfl)
      · skip
        refine lv_aload hx hb dL_lowers_10 (lv_at hl 10 rfl) ?_
        refine lv_iload hx hb dL_lowers_12 (lv_at hl 11 rfl) ?_
        refine lv_lconst (v := lN 0) hx hb dL_lowers_14 (by decide) ?_
        refine zl_st hx hb hK hP hnd hAd hS 37 (by decide) 1 rfl rfl (by decide) (i := k) (by omega) (wxE ad cI cJ cQ (M) (ts) (pu) (K) (X2 (.inl (cJ, 36, .inr (.inl (vp_updL pu9 (k) (lN (0)))))) bx)) (wxS_x0) dL_lowers_15 (fun H locs hP hS => ?_)
        refine lv_iinc (v := nI (k + 1)) (lv' := [(11, .int (nI (k + 1))), (0, .ref (ad 27)), (1, .ref (ad 28)), (2, .ref (ad 29)), (3, .ref (ad 30)), (4, .ref (ad 32)), (5, .ref (ad 33)), (6, .ref (ad 34)), (7, .ref (ad 35)), (8, .ref (ad 36)), (9, .int (nI (v))), (10, .ref (ad 37))]) hx hb dL_lowers_16 hl (k := 11) rfl (zn_inc (k)) (by decide) rfl (fun ls hl => ?_)
        refine lv_goto (tgt := 3) hx hb dL_lowers_19 (by decide) ?_
        exact ih3 (k + 1) (by omega) (by omega) (_) (zer_k phA) _ _ hP hS _ (lv_sub hl [1, 2, 3, 4, 5, 6, 7, 8, 9, 10, 11, 0] rfl)
  exact lp3 (36 - (0) + 1) (0) (by omega) (by omega) (qv) (fun t ht => by omega) _ _ hP hS _ (lv_sub hl [1, 2, 3, 4, 5, 6, 7, 8, 9, 10, 11, 0] rfl)
set_option maxHeartbeats 4000000 in
set_option maxRecDepth 100000 in
/-- what a well takes, laid on a row of months -/
theorem l_takes0 (l : Launch) {D : va_G} {ad : Nat → Nat} {cI cJ cQ : ClassId} {M K : Mdl} {ts : Nat → Nat} {pu : Nat → Int64} {sz z0 : Nat} (hI : Inl K) (hnd : ndz 39 ad) (hAd : ∀ i, i < 39 → zA z0 (ad i)) (hz0 : z0 ≤ sz) {fn : Nat → Int32} {g0 : Nat → Nat} {bx : va_E} {w E : Nat} (hw : w < 5) (hE : E ≤ 36) (hg : ∀ t, t < 36 → fn t = nI (g0 t)) : Met l yL_takes wsL_takes (rmP 0) (va_Pc [.ref (ad 28), .ref (ad (32 + (w))), .int (nI (w)), .int (nI (E)), .ref (ad 37)] (KAS D 39 ad cI cJ cQ (wxE ad cI cJ cQ M ts pu K (X2 (.inl (cI, 36, .inl (fn))) bx)) sz)) (va_Qv (fun (u_ : Nat → Int32) => ∀ t, t < 36 → u_ t = nI (g0 t + ssum (fun m => tkc K w m t) E)) (fun (u_ : Nat → Int32) t_ => KA D 39 ad cI cJ cQ (wxE ad cI cJ cQ M ts pu K (X2 (.inl (cI, 36, .inl (u_))) bx)) t_) (zA z0)) 0 0 (zA z0) := by
  refine mk_Qv (S := Nat → Int32) (post := fun (u_ : Nat → Int32) => ∀ t, t < 36 → u_ t = nI (g0 t + ssum (fun m => tkc K w m t) E)) (BQ := fun (u_ : Nat → Int32) t_ => KA D 39 ad cI cJ cQ (wxE ad cI cJ cQ M ts pu K (X2 (.inl (cI, 36, .inl (u_))) bx)) t_) (cc := cL_takes) (maxL := 9) (by decide) rfl (Nat.le_of_ble_eq_true rfl) ?_
  intro p e s m args below meth c Q C0 B0 hret ls hl
  obtain ⟨hx, hb, hr, hml, hown, hts, hlocks⟩ := C0
  have hown : s.vm.findClass RL = some m.cls := hown
  obtain ⟨hsz, hK, hP⟩ := B0
  have b_nw := hI.nw
  have b_nv := hI.nv
  subst hsz
  have hS : va_S (zA z0) s.heap s.heap [] := va_S.rf
  have hl : lv_has ls 9 [(0, .ref (ad 28)), (1, .ref (ad (32 + (w)))), (2, .int (nI (w))), (3, .int (nI (E))), (4, .ref (ad 37))] := hl
  refine lv_aload_n hx hb dL_takes_0 rfl (lv_at hl 0 rfl) ?_
  refine lv_iload_n hx hb dL_takes_1 rfl (lv_at hl 2 rfl) ?_
  have f_1 := hI.inv.pl (w)
  refine zi_ld hx hb hK hP 28 (by decide) 0 rfl rfl (by decide) (i := w) (by omega) (v := nI (K 1 (w))) (fw_1 (by omega)) dL_takes_2 ?_
  refine lv_iconst (v := nI 5) hx hb dL_takes_3 (by decide) ?_
  refine zr_idiv hx hb (by omega) (by omega) (by omega) dL_takes_4 ?_
  refine lv_istore (lv' := [(5, .int (nI ((K 1 (w)) / (5)))), (0, .ref (ad 28)), (1, .ref (ad (32 + (w)))), (2, .int (nI (w))), (3, .int (nI (E))), (4, .ref (ad 37))]) hx hb dL_takes_5 hl (by decide) rfl (fun ls hl => ?_)
  refine lv_iconst (v := nI 0) hx hb dL_takes_7 (by decide) ?_
  refine lv_istore (lv' := [(6, .int (nI (0))), (5, .int (nI ((K 1 (w)) / (5)))), (0, .ref (ad 28)), (1, .ref (ad (32 + (w)))), (2, .int (nI (w))), (3, .int (nI (E))), (4, .ref (ad 37))]) hx hb dL_takes_8 hl (by decide) rfl (fun ls hl => ?_)
  have lp10 : ∀ (n9 mm : Nat), mm ≤ E → E - mm < n9 → ∀ (gn : Nat → Int32), (∀ t, t < 36 → gn t = nI (g0 t + ssum (fun m => tkc K w m t) (mm))) → ∀ (H : Heap) (locs : List Loc), va_P D vwCl (wz 39 ad (wxE ad cI cJ cQ (M) (ts) (pu) (K) (X2 (.inl (cI, 36, .inl (gn))) bx))) H → va_S (zA z0) s.heap H locs → ∀ ls : Array Slot, lv_has ls 9 [(0, .ref (ad 28)), (1, .ref (ad (32 + (w)))), (2, .int (nI (w))), (3, .int (nI (E))), (4, .ref (ad 37)), (5, .int (nI (K 1 (w) / 5))), (6, .int (nI (mm)))] → W p l e (rmP 0) s m args below meth c H locs (0) (0) Q (F0 m 10 ls []) := by
    intro n9
    induction n9 with
    | zero => intro mm q1 q2; omega
    | succ n9 ih10 =>
      intro mm q1_10 q2_10 gn phA H locs hP hS ls hl
      refine lv_iload hx hb dL_takes_10 (lv_at hl 6 rfl) ?_
      refine lv_iload_n hx hb dL_takes_12 rfl (lv_at hl 3 rfl) ?_
      refine zb_ge (tgt := 84) hx hb (by omega) (by omega) dL_takes_13 (by decide) (fun c_2 => ?_) (fun c_2 => ?_)
      · skip
        have q_3 : mm = E := by omega
        subst q_3
        exact hret (u := gn) phA hS (fun t ht hA => ⟨va_K.moved hA hK, by rw [ht]; exact hP⟩) dL_takes_84
      · skip
        refine lv_iconst (v := nI 0) hx hb dL_takes_16 (by decide) ?_
        refine lv_istore (lv' := [(7, .int (nI (0))), (0, .ref (ad 28)), (1, .ref (ad (32 + (w)))), (2, .int (nI (w))), (3, .int (nI (E))), (4, .ref (ad 37)), (5, .int (nI (K 1 (w) / 5))), (6, .int (nI (mm)))]) hx hb dL_takes_17 hl (by decide) rfl (fun ls hl => ?_)
        have lp19 : ∀ (n9 u : Nat), u ≤ 2 → 2 - u < n9 → ∀ (hn : Nat → Int32), (∀ t, t < 36 → hn t = nI (g0 t + ssum (fun m => tkc K w m t) mm + ssum (fun u => if mm + K 1 w / 5 + u = t then tku K w mm u else 0) (u))) → ∀ (H : Heap) (locs : List Loc), va_P D vwCl (wz 39 ad (wxE ad cI cJ cQ (M) (ts) (pu) (K) (X2 (.inl (cI, 36, .inl (hn))) bx))) H → va_S (zA z0) s.heap H locs → ∀ ls : Array Slot, lv_has ls 9 [(0, .ref (ad 28)), (1, .ref (ad (32 + (w)))), (2, .int (nI (w))), (3, .int (nI (E))), (4, .ref (ad 37)), (5, .int (nI (K 1 (w) / 5))), (6, .int (nI (mm))), (7, .int (nI (u)))] → W p l e (rmP 0) s m args below meth c H locs (0) (0) Q (F0 m 19 ls []) := by
          intro n9
          induction n9 with
          | zero => intro u q1 q2; omega
          | succ n9 ih19 =>
            intro u q1_19 q2_19 hn phB H locs hP hS ls hl
            refine lv_iload hx hb dL_takes_19 (lv_at hl 7 rfl) ?_
            refine lv_iconst (v := nI 2) hx hb dL_takes_21 (by decide) ?_
            refine zb_ge (tgt := 78) hx hb (by omega) (by omega) dL_takes_22 (by decide) (fun c_4 => ?_) (fun c_4 => ?_)
            · skip
              have q_5 : u = 2 := by omega
              subst q_5
              refine lv_iinc (v := nI (mm + 1)) (lv' := [(6, .int (nI (mm + 1))), (0, .ref (ad 28)), (1, .ref (ad (32 + (w)))), (2, .int (nI (w))), (3, .int (nI (E))), (4, .ref (ad 37)), (5, .int (nI (K 1 (w) / 5))), (7, .int (nI (2)))]) hx hb dL_takes_78 hl (k := 6) rfl (zn_inc (mm)) (by decide) rfl (fun ls hl => ?_)
              refine lv_goto (tgt := 10) hx hb dL_takes_81 (by decide) ?_
              exact ih10 (mm + 1) (by omega) (by omega) (hn) (fun t ht => by rw [phB t ht, ssum_s]; exact congrArg nI (Nat.add_assoc _ _ _)) _ _ hP hS _ (lv_sub hl [1, 2, 3, 4, 5, 6, 0] rfl)
            · skip
              refine lv_iload hx hb dL_takes_25 (lv_at hl 6 rfl) ?_
              refine lv_iload hx hb dL_takes_27 (lv_at hl 5 rfl) ?_
              refine zr_iadd hx hb dL_takes_29 ?_
              refine lv_iload hx hb dL_takes_30 (lv_at hl 7 rfl) ?_
              refine zr_iadd hx hb dL_takes_32 ?_
              refine lv_istore (lv' := [(8, .int (nI (((mm) + (K 1 (w) / 5)) + (u)))), (0, .ref (ad 28)), (1, .ref (ad (32 + (w)))), (2, .int (nI (w))), (3, .int (nI (E))), (4, .ref (ad 37)), (5, .int (nI (K 1 (w) / 5))), (6, .int (nI (mm))), (7, .int (nI (u)))]) hx hb dL_takes_33 hl (by decide) rfl (fun ls hl => ?_)
              refine lv_iload hx hb dL_takes_35 (lv_at hl 0 rfl) ?_
              refine lv_bipush (v := nI 36) hx hb dL_takes_37 (by decide) ?_
              refine zb_ge (tgt := 72) hx hb (by omega) (by omega) dL_takes_39 (by decide) (fun c_6 => ?_) (fun c_6 => ?_)
              · skip
                refine lv_iinc (v := nI (u + 1)) (lv' := [(7, .int (nI (u + 1))), (8, .int (nI (((mm) + (K 1 (w) / 5)) + (u)))), (0, .ref (ad 28)), (1, .ref (ad (32 + (w)))), (2, .int (nI (w))), (3, .int (nI (E))), (4, .ref (ad 37)), (5, .int (nI (K 1 (w) / 5))), (6, .int (nI (mm)))]) hx hb dL_takes_72 hl (k := 8) rfl (zn_inc (u)) (by decide) rfl (fun ls hl => ?_)
                refine lv_goto (tgt := 19) hx hb dL_takes_75 (by decide) ?_
                exact ih19 (u + 1) (by omega) (by omega) (_) (fun t ht => by rw [tk_sn (g := fun t => g0 t + ssum (fun m => tkc K w m t) mm + ssum (fun u => if mm + K 1 w / 5 + u = t then tku K w mm u else 0) u) (a := mm + K 1 w / 5 + u) (x := tku K w mm u) phB (by omega) t ht, ssum_s]; exact congrArg nI (Nat.add_assoc _ _ _)) _ _ hP hS _ (lv_sub hl [2, 3, 4, 5, 6, 7, 8, 0] rfl)
              · skip
                refine lv_aload hx hb dL_takes_42 (lv_at hl 5 rfl) ?_
                refine lv_iload hx hb dL_takes_44 (lv_at hl 0 rfl) ?_
                refine lv_dup2_11 hx hb dL_takes_46 rfl rfl ?_
                refine zi_ld hx hb hK hP 37 (by decide) 0 rfl rfl (by decide) (i := ((mm) + (K 1 (w) / 5)) + (u)) (by omega) (v := hn (((mm) + (K 1 (w) / 5)) + (u))) rfl dL_takes_47 ?_
                refine zt_i (y := nI ((g0 (((mm) + (K 1 (w) / 5)) + (u)) + ssum (fun m => tkc K w m (((mm) + (K 1 (w) / 5)) + (u))) mm + ssum (fun u2 => if mm + K 1 w / 5 + u2 = (((mm) + (K 1 (w) / 5)) + (u)) then tku K w mm u2 else 0) u))) (phB (((mm) + (K 1 (w) / 5)) + (u)) (by omega)) ?_
                refine lv_aload_n hx hb dL_takes_48 rfl (lv_at hl 2 rfl) ?_
                refine lv_iload hx hb dL_takes_49 (lv_at hl 7 rfl) ?_
                have f_7 := hI.inv.un (w) (by omega) (mm)
                refine zi_ld hx hb hK hP (32 + (w)) (by omega) 0 (wx_p (by omega)) rfl (by decide) (i := mm) (by omega) (v := nI (K (10 + 3 * (w)) (mm))) rfl dL_takes_51 ?_
                refine lv_iconst (v := nI 2) hx hb dL_takes_52 (by decide) ?_
                refine zr_idiv hx hb (by omega) (by omega) (by omega) dL_takes_53 ?_
                refine lv_iload hx hb dL_takes_54 (lv_at hl 8 rfl) ?_
                refine zb_0ne (tgt := 68) hx hb (by omega) dL_takes_56 (by decide) (fun c_8 => ?_) (fun c_8 => ?_)
                · skip
                  refine lv_iconst (v := nI 0) hx hb dL_takes_68 (by decide) ?_
                  refine zr_iadd hx hb dL_takes_69 ?_
                  refine zt_i (y := nI (tku K w mm u)) (congrArg nI (by unfold tku; simp only [*, if_true, if_false]; try omega)) ?_
                  refine zr_iadd hx hb dL_takes_70 ?_
                  refine zi_st hx hb hK hP hnd hAd hS 37 (by decide) 0 rfl rfl (by decide) (i := ((mm) + (K 1 (w) / 5)) + (u)) (by omega) (wxE ad cI cJ cQ (M) (ts) (pu) (K) (X2 (.inl (cI, 36, .inl (upd hn (((mm) + (K 1 (w) / 5)) + (u)) (nI (((g0 (((mm) + (K 1 (w) / 5)) + (u)) + ssum (fun m => tkc K w m (((mm) + (K 1 (w) / 5)) + (u))) mm + ssum (fun u2 => if mm + K 1 w / 5 + u2 = (((mm) + (K 1 (w) / 5)) + (u)) then tku K w mm u2 else 0) u)) + (tku K w mm u)))))) bx)) (wxS_x0) dL_takes_71 (fun H locs hP hS => ?_)
                  refine lv_iinc (v := nI (u + 1)) (lv' := [(7, .int (nI (u + 1))), (8, .int (nI (((mm) + (K 1 (w) / 5)) + (u)))), (0, .ref (ad 28)), (1, .ref (ad (32 + (w)))), (2, .int (nI (w))), (3, .int (nI (E))), (4, .ref (ad 37)), (5, .int (nI (K 1 (w) / 5))), (6, .int (nI (mm)))]) hx hb dL_takes_72 hl (k := 8) rfl (zn_inc (u)) (by decide) rfl (fun ls hl => ?_)
                  refine lv_goto (tgt := 19) hx hb dL_takes_75 (by decide) ?_
                  exact ih19 (u + 1) (by omega) (by omega) (_) (fun t ht => by rw [show upd hn (mm + K 1 w / 5 + u) (nI (((g0 (((mm) + (K 1 (w) / 5)) + (u)) + ssum (fun m => tkc K w m (((mm) + (K 1 (w) / 5)) + (u))) mm + ssum (fun u2 => if mm + K 1 w / 5 + u2 = (((mm) + (K 1 (w) / 5)) + (u)) then tku K w mm u2 else 0) u)) + (tku K w mm u))) = _ from rfl, tk_st (g := fun t => g0 t + ssum (fun m => tkc K w m t) mm + ssum (fun u => if mm + K 1 w / 5 + u = t then tku K w mm u else 0) u) (a := mm + K 1 w / 5 + u) (x := tku K w mm u) phB t ht, ssum_s]; exact congrArg nI (Nat.add_assoc _ _ _)) _ _ hP hS _ (lv_sub hl [2, 3, 4, 5, 6, 7, 8, 0] rfl)
                · skip
                  refine lv_aload_n hx hb dL_takes_59 rfl (lv_at hl 2 rfl) ?_
                  refine lv_iload hx hb dL_takes_60 (lv_at hl 7 rfl) ?_
                  have f_9 := hI.inv.un (w) (by omega) (mm)
                  refine zi_ld hx hb hK hP (32 + (w)) (by omega) 0 (wx_p (by omega)) rfl (by decide) (i := mm) (by omega) (v := nI (K (10 + 3 * (w)) (mm))) rfl dL_takes_62 ?_
                  refine lv_iconst (v := nI 2) hx hb dL_takes_63 (by decide) ?_
                  refine zr_irem hx hb (by omega) (by omega) (by omega) dL_takes_64 ?_
                  refine lv_goto (tgt := 69) hx hb dL_takes_65 (by decide) ?_
                  refine zr_iadd hx hb dL_takes_69 ?_
                  refine zt_i (y := nI (tku K w mm u)) (congrArg nI (by unfold tku; simp only [*, if_true, if_false]; try omega)) ?_
                  refine zr_iadd hx hb dL_takes_70 ?_
                  refine zi_st hx hb hK hP hnd hAd hS 37 (by decide) 0 rfl rfl (by decide) (i := ((mm) + (K 1 (w) / 5)) + (u)) (by omega) (wxE ad cI cJ cQ (M) (ts) (pu) (K) (X2 (.inl (cI, 36, .inl (upd hn (((mm) + (K 1 (w) / 5)) + (u)) (nI (((g0 (((mm) + (K 1 (w) / 5)) + (u)) + ssum (fun m => tkc K w m (((mm) + (K 1 (w) / 5)) + (u))) mm + ssum (fun u2 => if mm + K 1 w / 5 + u2 = (((mm) + (K 1 (w) / 5)) + (u)) then tku K w mm u2 else 0) u)) + (tku K w mm u)))))) bx)) (wxS_x0) dL_takes_71 (fun H locs hP hS => ?_)
                  refine lv_iinc (v := nI (u + 1)) (lv' := [(7, .int (nI (u + 1))), (8, .int (nI (((mm) + (K 1 (w) / 5)) + (u)))), (0, .ref (ad 28)), (1, .ref (ad (32 + (w)))), (2, .int (nI (w))), (3, .int (nI (E))), (4, .ref (ad 37)), (5, .int (nI (K 1 (w) / 5))), (6, .int (nI (mm)))]) hx hb dL_takes_72 hl (k := 8) rfl (zn_inc (u)) (by decide) rfl (fun ls hl => ?_)
                  refine lv_goto (tgt := 19) hx hb dL_takes_75 (by decide) ?_
                  exact ih19 (u + 1) (by omega) (by omega) (_) (fun t ht => by rw [show upd hn (mm + K 1 w / 5 + u) (nI (((g0 (((mm) + (K 1 (w) / 5)) + (u)) + ssum (fun m => tkc K w m (((mm) + (K 1 (w) / 5)) + (u))) mm + ssum (fun u2 => if mm + K 1 w / 5 + u2 = (((mm) + (K 1 (w) / 5)) + (u)) then tku K w mm u2 else 0) u)) + (tku K w mm u))) = _ from rfl, tk_st (g := fun t => g0 t + ssum (fun m => tkc K w m t) mm + ssum (fun u => if mm + K 1 w / 5 + u = t then tku K w mm u else 0) u) (a := mm + K 1 w / 5 + u) (x := tku K w mm u) phB t ht, ssum_s]; exact congrArg nI (Nat.add_assoc _ _ _)) _ _ hP hS _ (lv_sub hl [2, 3, 4, 5, 6, 7, 8, 0] rfl)
        exact lp19 (2 - (0) + 1) (0) (by omega) (by omega) (gn) (fun t ht => by rw [ssum_0]; exact phA t ht) _ _ hP hS _ (lv_sub hl [1, 2, 3, 4, 5, 6, 7, 0] rfl)
  exact lp10 (E - (0) + 1) (0) (by omega) (by omega) (fn) (fun t ht => by rw [ssum_0]; exact hg t ht) _ _ hP hS _ (lv_sub hl [2, 3, 4, 5, 6, 1, 0] rfl)
set_option maxHeartbeats 4000000 in
set_option maxRecDepth 100000 in
/-- what a well takes, laid on a row of months -/
theorem l_takes1 (l : Launch) {D : va_G} {ad : Nat → Nat} {cI cJ cQ : ClassId} {M K : Mdl} {ts : Nat → Nat} {pu : Nat → Int64} {sz z0 : Nat} (hI : Inl K) (hnd : ndz 39 ad) (hAd : ∀ i, i < 39 → zA z0 (ad i)) (hz0 : z0 ≤ sz) {fn : Nat → Int32} {g0 : Nat → Nat} {bx : va_E} {w E : Nat} (hw : w < 5) (hE : E ≤ 36) (hg : ∀ t, t < 36 → fn t = nI (g0 t)) : Met l yL_takes wsL_takes (rmP 0) (va_Pc [.ref (ad 28), .ref (ad (32 + (w))), .int (nI (w)), .int (nI (E)), .ref (ad 38)] (KAS D 39 ad cI cJ cQ (wxE ad cI cJ cQ M ts pu K (X2 bx (.inl (cI, 36, .inl (fn))))) sz)) (va_Qv (fun (u_ : Nat → Int32) => ∀ t, t < 36 → u_ t = nI (g0 t + ssum (fun m => tkc K w m t) E)) (fun (u_ : Nat → Int32) t_ => KA D 39 ad cI cJ cQ (wxE ad cI cJ cQ M ts pu K (X2 bx (.inl (cI, 36, .inl (u_))))) t_) (zA z0)) 0 0 (zA z0) := by
  refine mk_Qv (S := Nat → Int32) (post := fun (u_ : Nat → Int32) => ∀ t, t < 36 → u_ t = nI (g0 t + ssum (fun m => tkc K w m t) E)) (BQ := fun (u_ : Nat → Int32) t_ => KA D 39 ad cI cJ cQ (wxE ad cI cJ cQ M ts pu K (X2 bx (.inl (cI, 36, .inl (u_))))) t_) (cc := cL_takes) (maxL := 9) (by decide) rfl (Nat.le_of_ble_eq_true rfl) ?_
  intro p e s m args below meth c Q C0 B0 hret ls hl
  obtain ⟨hx, hb, hr, hml, hown, hts, hlocks⟩ := C0
  have hown : s.vm.findClass RL = some m.cls := hown
  obtain ⟨hsz, hK, hP⟩ := B0
  have b_nw := hI.nw
  have b_nv := hI.nv
  subst hsz
  have hS : va_S (zA z0) s.heap s.heap [] := va_S.rf
  have hl : lv_has ls 9 [(0, .ref (ad 28)), (1, .ref (ad (32 + (w)))), (2, .int (nI (w))), (3, .int (nI (E))), (4, .ref (ad 38))] := hl
  refine lv_aload_n hx hb dL_takes_0 rfl (lv_at hl 0 rfl) ?_
  refine lv_iload_n hx hb dL_takes_1 rfl (lv_at hl 2 rfl) ?_
  have f_1 := hI.inv.pl (w)
  refine zi_ld hx hb hK hP 28 (by decide) 0 rfl rfl (by decide) (i := w) (by omega) (v := nI (K 1 (w))) (fw_1 (by omega)) dL_takes_2 ?_
  refine lv_iconst (v := nI 5) hx hb dL_takes_3 (by decide) ?_
  refine zr_idiv hx hb (by omega) (by omega) (by omega) dL_takes_4 ?_
  refine lv_istore (lv' := [(5, .int (nI ((K 1 (w)) / (5)))), (0, .ref (ad 28)), (1, .ref (ad (32 + (w)))), (2, .int (nI (w))), (3, .int (nI (E))), (4, .ref (ad 38))]) hx hb dL_takes_5 hl (by decide) rfl (fun ls hl => ?_)
  refine lv_iconst (v := nI 0) hx hb dL_takes_7 (by decide) ?_
  refine lv_istore (lv' := [(6, .int (nI (0))), (5, .int (nI ((K 1 (w)) / (5)))), (0, .ref (ad 28)), (1, .ref (ad (32 + (w)))), (2, .int (nI (w))), (3, .int (nI (E))), (4, .ref (ad 38))]) hx hb dL_takes_8 hl (by decide) rfl (fun ls hl => ?_)
  have lp10 : ∀ (n9 mm : Nat), mm ≤ E → E - mm < n9 → ∀ (gn : Nat → Int32), (∀ t, t < 36 → gn t = nI (g0 t + ssum (fun m => tkc K w m t) (mm))) → ∀ (H : Heap) (locs : List Loc), va_P D vwCl (wz 39 ad (wxE ad cI cJ cQ (M) (ts) (pu) (K) (X2 bx (.inl (cI, 36, .inl (gn)))))) H → va_S (zA z0) s.heap H locs → ∀ ls : Array Slot, lv_has ls 9 [(0, .ref (ad 28)), (1, .ref (ad (32 + (w)))), (2, .int (nI (w))), (3, .int (nI (E))), (4, .ref (ad 38)), (5, .int (nI (K 1 (w) / 5))), (6, .int (nI (mm)))] → W p l e (rmP 0) s m args below meth c H locs (0) (0) Q (F0 m 10 ls []) := by
    intro n9
    induction n9 with
    | zero => intro mm q1 q2; omega
    | succ n9 ih10 =>
      intro mm q1_10 q2_10 gn phA H locs hP hS ls hl
      refine lv_iload hx hb dL_takes_10 (lv_at hl 6 rfl) ?_
      refine lv_iload_n hx hb dL_takes_12 rfl (lv_at hl 3 rfl) ?_
      refine zb_ge (tgt := 84) hx hb (by omega) (by omega) dL_takes_13 (by decide) (fun c_2 => ?_) (fun c_2 => ?_)
      · skip
        have q_3 : mm = E := by omega
        subst q_3
        exact hret (u := gn) phA hS (fun t ht hA => ⟨va_K.moved hA hK, by rw [ht]; exact hP⟩) dL_takes_84
      · skip
        refine lv_iconst (v := nI 0) hx hb dL_takes_16 (by decide) ?_
        refine lv_istore (lv' := [(7, .int (nI (0))), (0, .ref (ad 28)), (1, .ref (ad (32 + (w)))), (2, .int (nI (w))), (3, .int (nI (E))), (4, .ref (ad 38)), (5, .int (nI (K 1 (w) / 5))), (6, .int (nI (mm)))]) hx hb dL_takes_17 hl (by decide) rfl (fun ls hl => ?_)
        have lp19 : ∀ (n9 u : Nat), u ≤ 2 → 2 - u < n9 → ∀ (hn : Nat → Int32), (∀ t, t < 36 → hn t = nI (g0 t + ssum (fun m => tkc K w m t) mm + ssum (fun u => if mm + K 1 w / 5 + u = t then tku K w mm u else 0) (u))) → ∀ (H : Heap) (locs : List Loc), va_P D vwCl (wz 39 ad (wxE ad cI cJ cQ (M) (ts) (pu) (K) (X2 bx (.inl (cI, 36, .inl (hn)))))) H → va_S (zA z0) s.heap H locs → ∀ ls : Array Slot, lv_has ls 9 [(0, .ref (ad 28)), (1, .ref (ad (32 + (w)))), (2, .int (nI (w))), (3, .int (nI (E))), (4, .ref (ad 38)), (5, .int (nI (K 1 (w) / 5))), (6, .int (nI (mm))), (7, .int (nI (u)))] → W p l e (rmP 0) s m args below meth c H locs (0) (0) Q (F0 m 19 ls []) := by
          intro n9
          induction n9 with
          | zero => intro u q1 q2; omega
          | succ n9 ih19 =>
            intro u q1_19 q2_19 hn phB H locs hP hS ls hl
            refine lv_iload hx hb dL_takes_19 (lv_at hl 7 rfl) ?_
            refine lv_iconst (v := nI 2) hx hb dL_takes_21 (by decide) ?_
            refine zb_ge (tgt := 78) hx hb (by omega) (by omega) dL_takes_22 (by decide) (fun c_4 => ?_) (fun c_4 => ?_)
            · skip
              have q_5 : u = 2 := by omega
              subst q_5
              refine lv_iinc (v := nI (mm + 1)) (lv' := [(6, .int (nI (mm + 1))), (0, .ref (ad 28)), (1, .ref (ad (32 + (w)))), (2, .int (nI (w))), (3, .int (nI (E))), (4, .ref (ad 38)), (5, .int (nI (K 1 (w) / 5))), (7, .int (nI (2)))]) hx hb dL_takes_78 hl (k := 6) rfl (zn_inc (mm)) (by decide) rfl (fun ls hl => ?_)
              refine lv_goto (tgt := 10) hx hb dL_takes_81 (by decide) ?_
              exact ih10 (mm + 1) (by omega) (by omega) (hn) (fun t ht => by rw [phB t ht, ssum_s]; exact congrArg nI (Nat.add_assoc _ _ _)) _ _ hP hS _ (lv_sub hl [1, 2, 3, 4, 5, 6, 0] rfl)
            · skip
              refine lv_iload hx hb dL_takes_25 (lv_at hl 6 rfl) ?_
              refine lv_iload hx hb dL_takes_27 (lv_at hl 5 rfl) ?_
              refine zr_iadd hx hb dL_takes_29 ?_
              refine lv_iload hx hb dL_takes_30 (lv_at hl 7 rfl) ?_
              refine zr_iadd hx hb dL_takes_32 ?_
              refine lv_istore (lv' := [(8, .int (nI (((mm) + (K 1 (w) / 5)) + (u)))), (0, .ref (ad 28)), (1, .ref (ad (32 + (w)))), (2, .int (nI (w))), (3, .int (nI (E))), (4, .ref (ad 38)), (5, .int (nI (K 1 (w) / 5))), (6, .int (nI (mm))), (7, .int (nI (u)))]) hx hb dL_takes_33 hl (by decide) rfl (fun ls hl => ?_)
              refine lv_iload hx hb dL_takes_35 (lv_at hl 0 rfl) ?_
              refine lv_bipush (v := nI 36) hx hb dL_takes_37 (by decide) ?_
              refine zb_ge (tgt := 72) hx hb (by omega) (by omega) dL_takes_39 (by decide) (fun c_6 => ?_) (fun c_6 => ?_)
              · skip
                refine lv_iinc (v := nI (u + 1)) (lv' := [(7, .int (nI (u + 1))), (8, .int (nI (((mm) + (K 1 (w) / 5)) + (u)))), (0, .ref (ad 28)), (1, .ref (ad (32 + (w)))), (2, .int (nI (w))), (3, .int (nI (E))), (4, .ref (ad 38)), (5, .int (nI (K 1 (w) / 5))), (6, .int (nI (mm)))]) hx hb dL_takes_72 hl (k := 8) rfl (zn_inc (u)) (by decide) rfl (fun ls hl => ?_)
                refine lv_goto (tgt := 19) hx hb dL_takes_75 (by decide) ?_
                exact ih19 (u + 1) (by omega) (by omega) (_) (fun t ht => by rw [tk_sn (g := fun t => g0 t + ssum (fun m => tkc K w m t) mm + ssum (fun u => if mm + K 1 w / 5 + u = t then tku K w mm u else 0) u) (a := mm + K 1 w / 5 + u) (x := tku K w mm u) phB (by omega) t ht, ssum_s]; exact congrArg nI (Nat.add_assoc _ _ _)) _ _ hP hS _ (lv_sub hl [2, 3, 4, 5, 6, 7, 8, 0] rfl)
              · skip
                refine lv_aload hx hb dL_takes_42 (lv_at hl 5 rfl) ?_
                refine lv_iload hx hb dL_takes_44 (lv_at hl 0 rfl) ?_
                refine lv_dup2_11 hx hb dL_takes_46 rfl rfl ?_
                refine zi_ld hx hb hK hP 38 (by decide) 0 rfl rfl (by decide) (i := ((mm) + (K 1 (w) / 5)) + (u)) (by omega) (v := hn (((mm) + (K 1 (w) / 5)) + (u))) rfl dL_takes_47 ?_
                refine zt_i (y := nI ((g0 (((mm) + (K 1 (w) / 5)) + (u)) + ssum (fun m => tkc K w m (((mm) + (K 1 (w) / 5)) + (u))) mm + ssum (fun u2 => if mm + K 1 w / 5 + u2 = (((mm) + (K 1 (w) / 5)) + (u)) then tku K w mm u2 else 0) u))) (phB (((mm) + (K 1 (w) / 5)) + (u)) (by omega)) ?_
                refine lv_aload_n hx hb dL_takes_48 rfl (lv_at hl 2 rfl) ?_
                refine lv_iload hx hb dL_takes_49 (lv_at hl 7 rfl) ?_
                have f_7 := hI.inv.un (w) (by omega) (mm)
                refine zi_ld hx hb hK hP (32 + (w)) (by omega) 0 (wx_p (by omega)) rfl (by decide) (i := mm) (by omega) (v := nI (K (10 + 3 * (w)) (mm))) rfl dL_takes_51 ?_
                refine lv_iconst (v := nI 2) hx hb dL_takes_52 (by decide) ?_
                refine zr_idiv hx hb (by omega) (by omega) (by omega) dL_takes_53 ?_
                refine lv_iload hx hb dL_takes_54 (lv_at hl 8 rfl) ?_
                refine zb_0ne (tgt := 68) hx hb (by omega) dL_takes_56 (by decide) (fun c_8 => ?_) (fun c_8 => ?_)
                · skip
                  refine lv_iconst (v := nI 0) hx hb dL_takes_68 (by decide) ?_
                  refine zr_iadd hx hb dL_takes_69 ?_
                  refine zt_i (y := nI (tku K w mm u)) (congrArg nI (by unfold tku; simp only [*, if_true, if_false]; try omega)) ?_
                  refine zr_iadd hx hb dL_takes_70 ?_
                  refine zi_st hx hb hK hP hnd hAd hS 38 (by decide) 0 rfl rfl (by decide) (i := ((mm) + (K 1 (w) / 5)) + (u)) (by omega) (wxE ad cI cJ cQ (M) (ts) (pu) (K) (X2 bx (.inl (cI, 36, .inl (upd hn (((mm) + (K 1 (w) / 5)) + (u)) (nI (((g0 (((mm) + (K 1 (w) / 5)) + (u)) + ssum (fun m => tkc K w m (((mm) + (K 1 (w) / 5)) + (u))) mm + ssum (fun u2 => if mm + K 1 w / 5 + u2 = (((mm) + (K 1 (w) / 5)) + (u)) then tku K w mm u2 else 0) u)) + (tku K w mm u)))))))) (wxS_x1) dL_takes_71 (fun H locs hP hS => ?_)
                  refine lv_iinc (v := nI (u + 1)) (lv' := [(7, .int (nI (u + 1))), (8, .int (nI (((mm) + (K 1 (w) / 5)) + (u)))), (0, .ref (ad 28)), (1, .ref (ad (32 + (w)))), (2, .int (nI (w))), (3, .int (nI (E))), (4, .ref (ad 38)), (5, .int (nI (K 1 (w) / 5))), (6, .int (nI (mm)))]) hx hb dL_takes_72 hl (k := 8) rfl (zn_inc (u)) (by decide) rfl (fun ls hl => ?_)
                  refine lv_goto (tgt := 19) hx hb dL_takes_75 (by decide) ?_
                  exact ih19 (u + 1) (by omega) (by omega) (_) (fun t ht => by rw [show upd hn (mm + K 1 w / 5 + u) (nI (((g0 (((mm) + (K 1 (w) / 5)) + (u)) + ssum (fun m => tkc K w m (((mm) + (K 1 (w) / 5)) + (u))) mm + ssum (fun u2 => if mm + K 1 w / 5 + u2 = (((mm) + (K 1 (w) / 5)) + (u)) then tku K w mm u2 else 0) u)) + (tku K w mm u))) = _ from rfl, tk_st (g := fun t => g0 t + ssum (fun m => tkc K w m t) mm + ssum (fun u => if mm + K 1 w / 5 + u = t then tku K w mm u else 0) u) (a := mm + K 1 w / 5 + u) (x := tku K w mm u) phB t ht, ssum_s]; exact congrArg nI (Nat.add_assoc _ _ _)) _ _ hP hS _ (lv_sub hl [2, 3, 4, 5, 6, 7, 8, 0] rfl)
                · skip
                  refine lv_aload_n hx hb dL_takes_59 rfl (lv_at hl 2 rfl) ?_
                  refine lv_iload hx hb dL_takes_60 (lv_at hl 7 rfl) ?_
                  have f_9 := hI.inv.un (w) (by omega) (mm)
                  refine zi_ld hx hb hK hP (32 + (w)) (by omega) 0 (wx_p (by omega)) rfl (by decide) (i := mm) (by omega) (v := nI (K (10 + 3 * (w)) (mm))) rfl dL_takes_62 ?_
                  refine lv_iconst (v := nI 2) hx hb dL_takes_63 (by decide) ?_
                  refine zr_irem hx hb (by omega) (by omega) (by omega) dL_takes_64 ?_
                  refine lv_goto (tgt := 69) hx hb dL_takes_65 (by decide) ?_
                  refine zr_iadd hx hb dL_takes_69 ?_
                  refine zt_i (y := nI (tku K w mm u)) (congrArg nI (by unfold tku; simp only [*, if_true, if_false]; try omega)) ?_
                  refine zr_iadd hx hb dL_takes_70 ?_
                  refine zi_st hx hb hK hP hnd hAd hS 38 (by decide) 0 rfl rfl (by decide) (i := ((mm) + (K 1 (w) / 5)) + (u)) (by omega) (wxE ad cI cJ cQ (M) (ts) (pu) (K) (X2 bx (.inl (cI, 36, .inl (upd hn (((mm) + (K 1 (w) / 5)) + (u)) (nI (((g0 (((mm) + (K 1 (w) / 5)) + (u)) + ssum (fun m => tkc K w m (((mm) + (K 1 (w) / 5)) + (u))) mm + ssum (fun u2 => if mm + K 1 w / 5 + u2 = (((mm) + (K 1 (w) / 5)) + (u)) then tku K w mm u2 else 0) u)) + (tku K w mm u)))))))) (wxS_x1) dL_takes_71 (fun H locs hP hS => ?_)
                  refine lv_iinc (v := nI (u + 1)) (lv' := [(7, .int (nI (u + 1))), (8, .int (nI (((mm) + (K 1 (w) / 5)) + (u)))), (0, .ref (ad 28)), (1, .ref (ad (32 + (w)))), (2, .int (nI (w))), (3, .int (nI (E))), (4, .ref (ad 38)), (5, .int (nI (K 1 (w) / 5))), (6, .int (nI (mm)))]) hx hb dL_takes_72 hl (k := 8) rfl (zn_inc (u)) (by decide) rfl (fun ls hl => ?_)
                  refine lv_goto (tgt := 19) hx hb dL_takes_75 (by decide) ?_
                  exact ih19 (u + 1) (by omega) (by omega) (_) (fun t ht => by rw [show upd hn (mm + K 1 w / 5 + u) (nI (((g0 (((mm) + (K 1 (w) / 5)) + (u)) + ssum (fun m => tkc K w m (((mm) + (K 1 (w) / 5)) + (u))) mm + ssum (fun u2 => if mm + K 1 w / 5 + u2 = (((mm) + (K 1 (w) / 5)) + (u)) then tku K w mm u2 else 0) u)) + (tku K w mm u))) = _ from rfl, tk_st (g := fun t => g0 t + ssum (fun m => tkc K w m t) mm + ssum (fun u => if mm + K 1 w / 5 + u = t then tku K w mm u else 0) u) (a := mm + K 1 w / 5 + u) (x := tku K w mm u) phB t ht, ssum_s]; exact congrArg nI (Nat.add_assoc _ _ _)) _ _ hP hS _ (lv_sub hl [2, 3, 4, 5, 6, 7, 8, 0] rfl)
        exact lp19 (2 - (0) + 1) (0) (by omega) (by omega) (gn) (fun t ht => by rw [ssum_0]; exact phA t ht) _ _ hP hS _ (lv_sub hl [1, 2, 3, 4, 5, 6, 7, 0] rfl)
  exact lp10 (E - (0) + 1) (0) (by omega) (by omega) (fn) (fun t ht => by rw [ssum_0]; exact hg t ht) _ _ hP hS _ (lv_sub hl [2, 3, 4, 5, 6, 1, 0] rfl)
set_option maxHeartbeats 4000000 in
set_option maxRecDepth 100000 in
/-- what a row has in a year -/
theorem l_year (l : Launch) {D : va_G} {n : Nat} {ad : Nat → Nat} {cI cJ cQ : ClassId} {M K : Mdl} {ts : Nat → Nat} {pu : Nat → Int64} {X : Nat → va_E} (hI : Inl K) (hn : 37 ≤ n) {k y : Nat} {f : Nat → Int32} {g0 : Nat → Nat} (hk : k < n) (hF : wxE ad cI cJ cQ M ts pu K X k = .inl (cI, 36, .inl f)) (hg : ∀ t, t < 36 → f t = nI (g0 t)) (hy : y < 2 ^ 31) : Met l yL_year wsL_year (rmP 0) (va_Pc [.ref (ad k), .int (nI (y))] (KA D n ad cI cJ cQ (wxE ad cI cJ cQ M ts pu K X))) (vp_Si (fun r_ => r_ = nI (ysm g0 y))) 0 0 (fun _ => False) := by
  refine mk_Si (post := fun r_ => r_ = nI (ysm g0 y)) (cc := cL_year) (maxL := 4) (by decide) rfl (Nat.le_of_ble_eq_true rfl) ?_
  intro p e s m args below meth c Q C0 B0 hret ls hl
  obtain ⟨hx, hb, hr, hml, hown, hts, hlocks⟩ := C0
  have hown : s.vm.findClass RL = some m.cls := hown
  obtain ⟨hK, hP⟩ := B0
  have b_nw := hI.nw
  have b_nv := hI.nv
  have hl : lv_has ls 4 [(0, .ref (ad k)), (1, .int (nI (y)))] := hl
  refine lv_iconst (v := nI 0) hx hb dL_year_0 (by decide) ?_
  refine lv_istore_n (lv' := [(2, .int (nI (0))), (0, .ref (ad k)), (1, .int (nI (y)))]) hx hb dL_year_1 rfl hl (by decide) rfl (fun ls hl => ?_)
  refine lv_iconst (v := nI 0) hx hb dL_year_2 (by decide) ?_
  refine lv_istore_n (lv' := [(3, .int (nI (0))), (2, .int (nI (0))), (0, .ref (ad k)), (1, .int (nI (y)))]) hx hb dL_year_3 rfl hl (by decide) rfl (fun ls hl => ?_)
  have lp4 : ∀ (n9 j : Nat), j ≤ 36 → 36 - j < n9 → ∀ ls : Array Slot, lv_has ls 4 [(0, .ref (ad k)), (1, .int (nI (y))), (2, .int (nI (ssum (fun m => if m / 12 = y then g0 m else 0) (j)))), (3, .int (nI (j)))] → W p l e (rmP 0) s m args below meth c s.heap [] (0) (0) Q (F0 m 4 ls []) := by
    intro n9
    induction n9 with
    | zero => intro j q1 q2; omega
    | succ n9 ih4 =>
      intro j q1_4 q2_4 ls hl
      refine lv_iload_n hx hb dL_year_4 rfl (lv_at hl 3 rfl) ?_
      refine lv_bipush (v := nI 36) hx hb dL_year_5 (by decide) ?_
      refine zb_ge (tgt := 34) hx hb (by omega) (by omega) dL_year_7 (by decide) (fun c_1 => ?_) (fun c_1 => ?_)
      · skip
        have q_2 : j = 36 := by omega
        subst q_2
        refine lv_iload_n hx hb dL_year_34 rfl (lv_at hl 2 rfl) ?_
        exact hret rfl dL_year_35
      · skip
        refine lv_iload_n hx hb dL_year_10 rfl (lv_at hl 2 rfl) ?_
        refine lv_iload_n hx hb dL_year_11 rfl (lv_at hl 3 rfl) ?_
        refine lv_bipush (v := nI 12) hx hb dL_year_12 (by decide) ?_
        refine zr_idiv hx hb (by omega) (by omega) (by omega) dL_year_14 ?_
        refine lv_iload_n hx hb dL_year_15 rfl (lv_at hl 1 rfl) ?_
        refine zb_ne (tgt := 25) hx hb (by omega) (by omega) dL_year_16 (by decide) (fun c_3 => ?_) (fun c_3 => ?_)
        · skip
          refine lv_iconst (v := nI 0) hx hb dL_year_25 (by decide) ?_
          refine zr_iadd hx hb dL_year_26 ?_
          refine zt_i (y := nI (ssum (fun m => if m / 12 = y then g0 m else 0) (j + 1))) (congrArg nI (by rw [ssum_s]; simp only [*, if_true, if_false])) ?_
          refine lv_istore_n (lv' := [(2, .int (nI (ssum (fun m => if m / 12 = y then g0 m else 0) (j + 1)))), (0, .ref (ad k)), (1, .int (nI (y))), (3, .int (nI (j)))]) hx hb dL_year_27 rfl hl (by decide) rfl (fun ls hl => ?_)
          refine lv_iinc (v := nI (j + 1)) (lv' := [(3, .int (nI (j + 1))), (2, .int (nI (ssum (fun m => if m / 12 = y then g0 m else 0) (j + 1)))), (0, .ref (ad k)), (1, .int (nI (y)))]) hx hb dL_year_28 hl (k := 3) rfl (zn_inc (j)) (by decide) rfl (fun ls hl => ?_)
          refine lv_goto (tgt := 4) hx hb dL_year_31 (by decide) ?_
          exact ih4 (j + 1) (by omega) (by omega) _ (lv_sub hl [2, 3, 1, 0] rfl)
        · skip
          refine lv_aload_n hx hb dL_year_19 rfl (lv_at hl 0 rfl) ?_
          refine lv_iload_n hx hb dL_year_20 rfl (lv_at hl 3 rfl) ?_
          refine zi_ld hx hb hK hP k hk 0 hF rfl (by decide) (i := j) (by omega) (v := nI (g0 (j))) (hg (j) (by omega)) dL_year_21 ?_
          refine lv_goto (tgt := 26) hx hb dL_year_22 (by decide) ?_
          refine zr_iadd hx hb dL_year_26 ?_
          refine zt_i (y := nI (ssum (fun m => if m / 12 = y then g0 m else 0) (j + 1))) (congrArg nI (by rw [ssum_s]; simp only [*, if_true, if_false])) ?_
          refine lv_istore_n (lv' := [(2, .int (nI (ssum (fun m => if m / 12 = y then g0 m else 0) (j + 1)))), (0, .ref (ad k)), (1, .int (nI (y))), (3, .int (nI (j)))]) hx hb dL_year_27 rfl hl (by decide) rfl (fun ls hl => ?_)
          refine lv_iinc (v := nI (j + 1)) (lv' := [(3, .int (nI (j + 1))), (2, .int (nI (ssum (fun m => if m / 12 = y then g0 m else 0) (j + 1)))), (0, .ref (ad k)), (1, .int (nI (y)))]) hx hb dL_year_28 hl (k := 3) rfl (zn_inc (j)) (by decide) rfl (fun ls hl => ?_)
          refine lv_goto (tgt := 4) hx hb dL_year_31 (by decide) ?_
          exact ih4 (j + 1) (by omega) (by omega) _ (lv_sub hl [2, 3, 1, 0] rfl)
  exact lp4 (36 - (0) + 1) (0) (by omega) (by omega) _ (lv_sub hl [2, 3, 1, 0] rfl)
set_option maxHeartbeats 4000000 in
set_option maxRecDepth 100000 in
/-- what a unit of a well lowers in all -/
theorem l_all (l : Launch) {D : va_G} {n : Nat} {ad : Nat → Nat} {cI cJ cQ : ClassId} {M K : Mdl} {ts : Nat → Nat} {pu : Nat → Int64} {X : Nat → va_E} (hI : Inl K) (hn : 37 ≤ n) {w v : Nat} (hw : w < 5) (hv : v < 3) : Met l yL_all wsL_all (rmP 1) (va_Pc [.ref (ad 28), .ref (ad 29), .ref (ad 30), .int (nI (w)), .int (nI (v))] (KA D n ad cI cJ cQ (wxE ad cI cJ cQ M ts pu K X))) (vp_Si (fun r_ => r_ = nI (als K w v))) 0 0 (fun _ => False) := by
  refine mk_Si (post := fun r_ => r_ = nI (als K w v)) (cc := cL_all) (maxL := 8) (by decide) rfl (Nat.le_of_ble_eq_true rfl) ?_
  intro p e s m args below meth c Q C0 B0 hret ls hl
  obtain ⟨hx, hb, hr, hml, hown, hts, hlocks⟩ := C0
  have hown : s.vm.findClass RL = some m.cls := hown
  obtain ⟨hK, hP⟩ := B0
  have b_nw := hI.nw
  have b_nv := hI.nv
  have hR := al5_s (rch K w v)
  have hl : lv_has ls 8 [(0, .ref (ad 28)), (1, .ref (ad 29)), (2, .ref (ad 30)), (3, .int (nI (w))), (4, .int (nI (v)))] := hl
  refine lv_iconst (v := nI 0) hx hb dL_all_0 (by decide) ?_
  refine lv_istore (lv' := [(5, .int (nI (0))), (0, .ref (ad 28)), (1, .ref (ad 29)), (2, .ref (ad 30)), (3, .int (nI (w))), (4, .int (nI (v)))]) hx hb dL_all_1 hl (by decide) rfl (fun ls hl => ?_)
  refine lv_aload_n hx hb dL_all_3 rfl (lv_at hl 1 rfl) ?_
  refine lv_aload_n hx hb dL_all_4 rfl (lv_at hl 2 rfl) ?_
  refine lv_iload_n hx hb dL_all_5 rfl (lv_at hl 4 rfl) ?_
  refine lv_iload hx hb dL_all_6 (lv_at hl 5 rfl) ?_
  refine vp_callSi (W.runS (As := [.ref (ad 28), .ref (ad 29), .int (nI (w)), .int (nI (v))]) (rest := []) ⟨hx, hb, hml, hown, hts⟩ (l_reach l hI (by omega) (w := w) (v := v) (by omega) (by omega)) (va_cwS 4 hts gL_all_L_reach rfl rfl rfl (by decide +kernel) (by decide)) (psA hK hP) rfl rfl hl.1 rfl (lv_room (Nat.le_of_ble_eq_true rfl)) dL_all_8 (by decide)) (fun r_1 hr_1 => ?_)
  subst hr_1
  have f_2 := rch_le hI.inv (w) (v)
  refine lv_istore (lv' := [(6, .int (nI (rch K (w) (v)))), (5, .int (nI (0))), (0, .ref (ad 28)), (1, .ref (ad 29)), (2, .ref (ad 30)), (3, .int (nI (w))), (4, .int (nI (v)))]) hx hb dL_all_11 hl (by decide) rfl (fun ls hl => ?_)
  refine lv_iconst (v := nI 0) hx hb dL_all_13 (by decide) ?_
  refine lv_istore (lv' := [(7, .int (nI (0))), (6, .int (nI (rch K (w) (v)))), (5, .int (nI (0))), (0, .ref (ad 28)), (1, .ref (ad 29)), (2, .ref (ad 30)), (3, .int (nI (w))), (4, .int (nI (v)))]) hx hb dL_all_14 hl (by decide) rfl (fun ls hl => ?_)
  have lp16 : ∀ (n9 d : Nat), d ≤ al5 (rch K w v) → al5 (rch K w v) - d < n9 → ∀ ls : Array Slot, lv_has ls 8 [(0, .ref (ad 28)), (1, .ref (ad 29)), (2, .ref (ad 30)), (3, .int (nI (w))), (4, .int (nI (v))), (5, .int (nI (ssum (fun d => ans K w v d) (d)))), (6, .int (nI (rch K (w) (v)))), (7, .int (nI (d)))] → W p l e (rmP 1) s m args below meth c s.heap [] (0) (0) Q (F0 m 16 ls []) := by
    intro n9
    induction n9 with
    | zero => intro d q1 q2; omega
    | succ n9 ih16 =>
      intro d q1_16 q2_16 ls hl
      refine lv_iload hx hb dL_all_16 (lv_at hl 7 rfl) ?_
      refine lv_bipush (v := nI 12) hx hb dL_all_18 (by decide) ?_
      refine zb_ge (tgt := 50) hx hb (by omega) (by omega) dL_all_20 (by decide) (fun c_3 => ?_) (fun c_3 => ?_)
      · skip
        have q_4 : d = al5 (rch K w v) := by omega
        subst q_4
        refine lv_iload hx hb dL_all_50 (lv_at hl 5 rfl) ?_
        refine zt_i (y := nI (als K w v)) (congrArg nI (by rcases hR with ⟨h1, h2⟩ | ⟨h1, h2⟩ <;> rw [h2]; rfl; exact (als_0 h1).symm)) ?_
        exact hret rfl dL_all_52
      · skip
        refine lv_iload hx hb dL_all_23 (lv_at hl 6 rfl) ?_
        refine lv_iconst (v := nI 5) hx hb dL_all_25 (by decide) ?_
        refine zb_ge (tgt := 50) hx hb (by omega) (by omega) dL_all_26 (by decide) (fun c_5 => ?_) (fun c_5 => ?_)
        · skip
          have q_6 : d = al5 (rch K w v) := by omega
          subst q_6
          refine lv_iload hx hb dL_all_50 (lv_at hl 5 rfl) ?_
          refine zt_i (y := nI (als K w v)) (congrArg nI (by rcases hR with ⟨h1, h2⟩ | ⟨h1, h2⟩ <;> rw [h2]; rfl; exact (als_0 h1).symm)) ?_
          exact hret rfl dL_all_52
        · skip
          refine lv_iload hx hb dL_all_29 (lv_at hl 5 rfl) ?_
          refine lv_aload_n hx hb dL_all_31 rfl (lv_at hl 2 rfl) ?_
          refine lv_bipush (v := nI 12) hx hb dL_all_32 (by decide) ?_
          refine lv_iload hx hb dL_all_34 (lv_at hl 6 rfl) ?_
          refine zr_imul hx hb dL_all_36 ?_
          refine lv_iload hx hb dL_all_37 (lv_at hl 7 rfl) ?_
          refine zr_iadd hx hb dL_all_39 ?_
          have f_7 := hI.inv.tb (rch K (w) (v)) (by omega) (d)
          refine zi_ld hx hb hK hP 30 (by omega) 0 rfl rfl (by decide) (i := ((12) * (rch K (w) (v))) + (d)) (by omega) (v := nI (K (11 + 3 * (rch K (w) (v))) (d))) (ft_1 (by omega)) dL_all_40 ?_
          refine zr_iadd hx hb dL_all_41 ?_
          refine zt_i (y := nI (ssum (fun d => ans K w v d) (d + 1))) (congrArg nI (by rw [ssum_s, ans_tb (by omega)]; unfold tbn; rw [if_pos (by omega)])) ?_
          refine lv_istore (lv' := [(5, .int (nI (ssum (fun d => ans K w v d) (d + 1)))), (0, .ref (ad 28)), (1, .ref (ad 29)), (2, .ref (ad 30)), (3, .int (nI (w))), (4, .int (nI (v))), (6, .int (nI (rch K (w) (v)))), (7, .int (nI (d)))]) hx hb dL_all_42 hl (by decide) rfl (fun ls hl => ?_)
          refine lv_iinc (v := nI (d + 1)) (lv' := [(7, .int (nI (d + 1))), (5, .int (nI (ssum (fun d => ans K w v d) (d + 1)))), (0, .ref (ad 28)), (1, .ref (ad 29)), (2, .ref (ad 30)), (3, .int (nI (w))), (4, .int (nI (v))), (6, .int (nI (rch K (w) (v))))]) hx hb dL_all_44 hl (k := 7) rfl (zn_inc (d)) (by decide) rfl (fun ls hl => ?_)
          refine lv_goto (tgt := 16) hx hb dL_all_47 (by decide) ?_
          exact ih16 (d + 1) (by omega) (by omega) _ (lv_sub hl [2, 3, 4, 5, 6, 1, 7, 0] rfl)
  exact lp16 (al5 (rch K w v) - (0) + 1) (0) (by omega) (by omega) _ (lv_sub hl [3, 4, 5, 6, 7, 2, 1, 0] rfl)
set_option maxHeartbeats 4000000 in
set_option maxRecDepth 100000 in
/-- the burden of a watch -/
theorem l_burden (l : Launch) {D : va_G} {n : Nat} {ad : Nat → Nat} {cI cJ cQ : ClassId} {M K : Mdl} {ts : Nat → Nat} {pu : Nat → Int64} {X : Nat → va_E} (hI : Inl K) (hn : 37 ≤ n) {v : Nat} (hv : v < 3) : Met l yL_burden wsL_burden (rmP 2) (va_Pc [.ref (ad 27), .ref (ad 28), .ref (ad 29), .ref (ad 30), .int (nI (v))] (KA D n ad cI cJ cQ (wxE ad cI cJ cQ M ts pu K X))) (vp_Sl (fun r_ => r_ = lN (bud K v))) 0 0 (fun _ => False) := by
  refine mk_Sl (post := fun r_ => r_ = lN (bud K v)) (cc := cL_burden) (maxL := 8) (by decide) rfl (Nat.le_of_ble_eq_true rfl) ?_
  intro p e s m args below meth c Q C0 B0 hret ls hl
  obtain ⟨hx, hb, hr, hml, hown, hts, hlocks⟩ := C0
  have hown : s.vm.findClass RL = some m.cls := hown
  obtain ⟨hK, hP⟩ := B0
  have b_nw := hI.nw
  have b_nv := hI.nv
  have hl : lv_has ls 8 [(0, .ref (ad 27)), (1, .ref (ad 28)), (2, .ref (ad 29)), (3, .ref (ad 30)), (4, .int (nI (v)))] := hl
  refine lv_lconst (v := lN 0) hx hb dL_burden_0 (by decide) ?_
  refine lv_lstore (lv' := [(5, .long (lN (0))), (0, .ref (ad 27)), (1, .ref (ad 28)), (2, .ref (ad 29)), (3, .ref (ad 30)), (4, .int (nI (v)))]) hx hb dL_burden_1 hl (by decide) rfl (fun ls hl => ?_)
  refine lv_iconst (v := nI 0) hx hb dL_burden_3 (by decide) ?_
  refine lv_istore (lv' := [(7, .int (nI (0))), (5, .long (lN (0))), (0, .ref (ad 27)), (1, .ref (ad 28)), (2, .ref (ad 29)), (3, .ref (ad 30)), (4, .int (nI (v)))]) hx hb dL_burden_4 hl (by decide) rfl (fun ls hl => ?_)
  have lp6 : ∀ (n9 w : Nat), w ≤ K 0 0 → K 0 0 - w < n9 → ∀ ls : Array Slot, lv_has ls 8 [(0, .ref (ad 27)), (1, .ref (ad 28)), (2, .ref (ad 29)), (3, .ref (ad 30)), (4, .int (nI (v))), (5, .long (lN (ssum (fun w => K 3 w * als K w v) (w)))), (7, .int (nI (w)))] → W p l e (rmP 2) s m args below meth c s.heap [] (0) (0) Q (F0 m 6 ls []) := by
    intro n9
    induction n9 with
    | zero => intro w q1 q2; omega
    | succ n9 ih6 =>
      intro w q1_6 q2_6 ls hl
      refine lv_iload hx hb dL_burden_6 (lv_at hl 6 rfl) ?_
      refine lv_aload_n hx hb dL_burden_8 rfl (lv_at hl 0 rfl) ?_
      refine lv_iconst (v := nI 0) hx hb dL_burden_9 (by decide) ?_
      refine zi_ld hx hb hK hP 27 (by omega) 0 rfl rfl (by decide) (i := 0) (by omega) (v := nI (K 0 0)) rfl dL_burden_10 ?_
      refine zb_ge (tgt := 45) hx hb (by omega) (by omega) dL_burden_11 (by decide) (fun c_1 => ?_) (fun c_1 => ?_)
      · skip
        have q_2 : w = K 0 0 := by omega
        subst q_2
        refine lv_lload hx hb dL_burden_45 (lv_at hl 5 rfl) ?_
        exact hret rfl dL_burden_47
      · skip
        refine lv_lload hx hb dL_burden_14 (lv_at hl 5 rfl) ?_
        refine lv_aload_n hx hb dL_burden_16 rfl (lv_at hl 1 rfl) ?_
        refine lv_bipush (v := nI 10) hx hb dL_burden_17 (by decide) ?_
        refine lv_iload hx hb dL_burden_19 (lv_at hl 6 rfl) ?_
        refine zr_iadd hx hb dL_burden_21 ?_
        have f_3 := hI.inv.li (w)
        refine zi_ld hx hb hK hP 28 (by omega) 0 rfl rfl (by decide) (i := 10 + (w)) (by omega) (v := nI (K 3 (w))) (fw_3 (by omega)) dL_burden_22 ?_
        refine zr_i2l hx hb (by omega) dL_burden_23 ?_
        refine lv_aload_n hx hb dL_burden_24 rfl (lv_at hl 1 rfl) ?_
        refine lv_aload_n hx hb dL_burden_25 rfl (lv_at hl 2 rfl) ?_
        refine lv_aload_n hx hb dL_burden_26 rfl (lv_at hl 3 rfl) ?_
        refine lv_iload hx hb dL_burden_27 (lv_at hl 6 rfl) ?_
        refine lv_iload hx hb dL_burden_29 (lv_at hl 4 rfl) ?_
        refine vp_callSi (W.runS (As := [.ref (ad 28), .ref (ad 29), .ref (ad 30), .int (nI (w)), .int (nI (v))]) (rest := [.long (lN (K 3 (w))), .long (lN (ssum (fun w => K 3 w * als K w v) (w)))]) ⟨hx, hb, hml, hown, hts⟩ (l_all l hI (by omega) (w := w) (v := v) (by omega) (by omega)) (va_cwS 5 hts gL_burden_L_all rfl rfl rfl (by decide +kernel) (by decide)) (psA hK hP) rfl rfl hl.1 rfl (lv_room (Nat.le_of_ble_eq_true rfl)) dL_burden_31 (by decide)) (fun r_4 hr_4 => ?_)
        subst hr_4
        have f_5 := als_le hI.inv (w) (v)
        refine zr_i2l hx hb (by omega) dL_burden_34 ?_
        refine zr_lmul hx hb dL_burden_35 ?_
        refine zr_ladd hx hb dL_burden_36 ?_
        refine lv_lstore (lv' := [(5, .long (lN ((ssum (fun w => K 3 w * als K w v) (w)) + ((K 3 (w)) * (als K (w) (v)))))), (0, .ref (ad 27)), (1, .ref (ad 28)), (2, .ref (ad 29)), (3, .ref (ad 30)), (4, .int (nI (v))), (7, .int (nI (w)))]) hx hb dL_burden_37 hl (by decide) rfl (fun ls hl => ?_)
        have hl := lv_cast (l2 := [(5, .long (lN (ssum (fun w => K 3 w * als K w v) (w + 1)))), (0, .ref (ad 27)), (1, .ref (ad 28)), (2, .ref (ad 29)), (3, .ref (ad 30)), (4, .int (nI (v))), (7, .int (nI (w)))]) hl (by rw [show lN ((ssum (fun w => K 3 w * als K w v) (w)) + ((K 3 (w)) * (als K (w) (v)))) = lN (ssum (fun w => K 3 w * als K w v) (w + 1)) from rfl])
        refine lv_iinc (v := nI (w + 1)) (lv' := [(7, .int (nI (w + 1))), (5, .long (lN (ssum (fun w => K 3 w * als K w v) (w + 1)))), (0, .ref (ad 27)), (1, .ref (ad 28)), (2, .ref (ad 29)), (3, .ref (ad 30)), (4, .int (nI (v)))]) hx hb dL_burden_39 hl (k := 6) rfl (zn_inc (w)) (by decide) rfl (fun ls hl => ?_)
        refine lv_goto (tgt := 6) hx hb dL_burden_42 (by decide) ?_
        exact ih6 (w + 1) (by omega) (by omega) _ (lv_sub hl [2, 3, 4, 5, 6, 1, 0] rfl)
  exact lp6 (K 0 0 - (0) + 1) (0) (by omega) (by omega) _ (lv_sub hl [2, 3, 4, 5, 6, 1, 0] rfl)
