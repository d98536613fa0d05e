set_option maxHeartbeats 4000000 in
set_option maxRecDepth 100000 in
/-- the watches are looked at -/
theorem l_watches (l : Launch) (hfl : l.stackTraces = false) {D : va_G} {ad0 : Nat → Nat} {cI cJ cQ : ClassId} {K : Mdl} {ts : Nat → Nat} {pu : Nat → Int64} {X : Nat → va_E} {sa : Nat → Nat} {sz z0 : Nat} (hI : Inl K) (hnd0 : ndz 37 ad0) (hAd0 : ∀ i, i < 37 → zA z0 (ad0 i)) (hz0 : z0 ≤ sz) (hT : hTs K ts) (g : Int32)  : Met l yL_watches wsL_watches (rmX 4 100) (va_Pc [.ref (ad0 0), .int (g), .ref (ad0 27), .ref (ad0 28), .ref (ad0 29), .ref (ad0 30), .ref (ad0 32), .ref (ad0 33), .ref (ad0 34), .ref (ad0 35), .ref (ad0 36)] (KV D 37 ad0 cI cJ cQ (wxE ad0 cI cJ cQ K ts pu K X) sa (zA z0) sz)) (va_Qi (fun r_ (u_ : (Nat → Nat) × (Nat → Int64)) => ∃ b : Bool, r_ = bB b ∧ (b = true ∧ hTs K u_.1)) (fun (u_ : (Nat → Nat) × (Nat → Int64)) t_ => KA D 37 ad0 cI cJ cQ (wxE ad0 cI cJ cQ K u_.1 u_.2 K X) t_) (zA z0)) 100 600 (zA z0) := by
  refine mkW_Qz (S := (Nat → Nat) × (Nat → Int64)) (post := fun b (u_ : (Nat → Nat) × (Nat → Int64)) => b = true ∧ hTs K u_.1) (BQ := fun (u_ : (Nat → Nat) × (Nat → Int64)) t_ => KA D 37 ad0 cI cJ cQ (wxE ad0 cI cJ cQ K u_.1 u_.2 K X) t_) (cc := cL_watches) (maxL := 28) (by decide) rfl (Nat.le_of_ble_eq_true rfl) ?_
  intro p e s m args below meth c Q C0 B0 hret ls hl
  obtain ⟨hx, hb, hr, hml, hown, hts, hlocks⟩ := C0
  have hown : s.vm.findClass RL = some m.cls := hown
  obtain ⟨hsz, hX, hK, hP⟩ := B0
  subst hsz
  have b_nw := hI.nw
  have b_nv := hI.nv
  have hS : va_S (zA z0) s.heap s.heap [] := va_S.rf
  have hl : lv_has ls 28 [(0, .ref (ad0 0)), (1, .int (g)), (2, .ref (ad0 27)), (3, .ref (ad0 28)), (4, .ref (ad0 29)), (5, .ref (ad0 30)), (6, .ref (ad0 32)), (7, .ref (ad0 33)), (8, .ref (ad0 34)), (9, .ref (ad0 35)), (10, .ref (ad0 36))] := hl
  refine lv_bipush (v := nI 36) hx hb dL_watches_0 (by decide) ?_
  refine zn_L hx hb (hts (.arrayClass .long) (by decide +kernel)) hK hP hnd0 hAd0 hS hz0 (by decide) (show 0 + 1 ≤ 100 by omega) (show 0 + 36 ≤ 600 by omega) dL_watches_2 (fun ad1 H he1 hnd1 hAd1 hP hS => ?_)
  refine lv_astore (lv' := [(11, .ref (ad1 37)), (0, .ref (ad0 0)), (1, .int (g)), (2, .ref (ad0 27)), (3, .ref (ad0 28)), (4, .ref (ad0 29)), (5, .ref (ad0 30)), (6, .ref (ad0 32)), (7, .ref (ad0 33)), (8, .ref (ad0 34)), (9, .ref (ad0 35)), (10, .ref (ad0 36))]) hx hb dL_watches_4 hl (by decide) rfl (fun ls hl => ?_)
  refine lv_bipush (v := nI 36) hx hb dL_watches_6 (by decide) ?_
  refine zn_L hx hb (hts (.arrayClass .long) (by decide +kernel)) hK hP hnd1 hAd1 hS hz0 (by decide) (show 0 + 1 + 1 ≤ 100 by omega) (show 0 + 36 + 36 ≤ 600 by omega) dL_watches_8 (fun ad H he2 hnd hAd hP hS => ?_)
  refine lv_astore (lv' := [(12, .ref (ad 38)), (11, .ref (ad1 37)), (0, .ref (ad0 0)), (1, .int (g)), (2, .ref (ad0 27)), (3, .ref (ad0 28)), (4, .ref (ad0 29)), (5, .ref (ad0 30)), (6, .ref (ad0 32)), (7, .ref (ad0 33)), (8, .ref (ad0 34)), (9, .ref (ad0 35)), (10, .ref (ad0 36))]) hx hb dL_watches_10 hl (by decide) rfl (fun ls hl => ?_)
  have he : ∀ k, k < 37 → ad k = ad0 k := fun k hk => (he2 k (by omega)).trans (he1 k hk)
  have hP := wx_mk he hP
  have hl := lv_cast (l2 := [(12, .ref (ad 38)), (11, .ref (ad 37)), (0, .ref (ad 0)), (1, .int (g)), (2, .ref (ad 27)), (3, .ref (ad 28)), (4, .ref (ad 29)), (5, .ref (ad 30)), (6, .ref (ad 32)), (7, .ref (ad 33)), (8, .ref (ad 34)), (9, .ref (ad 35)), (10, .ref (ad 36))]) hl (by rw [he 0 (by omega), he 27 (by omega), he 28 (by omega), he 29 (by omega), he 30 (by omega), he 32 (by omega), he 33 (by omega), he 34 (by omega), he 35 (by omega), he 36 (by omega), he2 37 (by omega)])
  clear hnd1 hAd1 he1 he2
  generalize ([] : List Loc) = locs at hS ⊢
  suffices mg36 : ∀ (mo9 : Nat), (mo9 ≤ 36) → ∀ ls : Array Slot, lv_has ls 28 [(12, .ref (ad 38)), (11, .ref (ad 37)), (0, .ref (ad 0)), (1, .int (g)), (2, .ref (ad 27)), (3, .ref (ad 28)), (4, .ref (ad 29)), (5, .ref (ad 30)), (6, .ref (ad 32)), (7, .ref (ad 33)), (8, .ref (ad 34)), (9, .ref (ad 35)), (10, .ref (ad 36))] → W p l e (rmX 4 100) s m args below meth c H locs (0 + 1 + 1) (0 + 36 + 36) Q (F0 m 36 ls [.int (nI (mo9))]) by
    refine lv_iload_n hx hb dL_watches_12 rfl (lv_at hl 3 rfl) ?_
    refine lv_iconst (v := nI 5) hx hb dL_watches_13 (by decide) ?_
    refine lv_ishr hx hb dL_watches_14 ?_
    refine lv_bipush (v := nI 40) hx hb dL_watches_15 (by decide) ?_
    refine vp_callSi (W.runS (As := [.int ((g) >>> (nI (5) &&& 31)), .int (nI (40))]) (rest := []) ⟨hx, hb, hml, hown, hts⟩ (l_some l (((g) >>> (nI (5) &&& 31))) (N := 40) (by omega) (by omega)) (va_cwS 2 hts gL_watches_L_some rfl rfl rfl (by decide +kernel) (by decide)) (psN) rfl rfl hl.1 rfl (lv_room (Nat.le_of_ble_eq_true rfl)) dL_watches_17 ⟨show 0 + 1 + 1 + 0 ≤ 100 by omega, show 0 + 36 + 36 + 0 ≤ 600 by omega⟩) (fun r_2 hr_2 => ?_)
    obtain ⟨r_2j, br_2, rfl⟩ := hr_2
    refine zb_0ne (tgt := 28) hx hb (by omega) dL_watches_20 (by decide) (fun c_3 => ?_) (fun c_3 => ?_)
    · skip
      refine lv_iload_n hx hb dL_watches_28 rfl (lv_at hl 3 rfl) ?_
      refine lv_iconst (v := nI 5) hx hb dL_watches_29 (by decide) ?_
      refine lv_ishr hx hb dL_watches_30 ?_
      refine lv_bipush (v := nI 36) hx hb dL_watches_31 (by decide) ?_
      refine vp_callSi (W.runS (As := [.int ((g) >>> (nI (5) &&& 31)), .int (nI (36))]) (rest := []) ⟨hx, hb, hml, hown, hts⟩ (l_some l (((g) >>> (nI (5) &&& 31))) (N := 36) (by omega) (by omega)) (va_cwS 2 hts gL_watches_L_some rfl rfl rfl (by decide +kernel) (by decide)) (psN) rfl rfl hl.1 rfl (lv_room (Nat.le_of_ble_eq_true rfl)) dL_watches_33 ⟨show 0 + 1 + 1 + 0 ≤ 100 by omega, show 0 + 36 + 36 + 0 ≤ 600 by omega⟩) (fun r_5 hr_5 => ?_)
      obtain ⟨r_5j, br_5, rfl⟩ := hr_5
      exact mg36 (r_5j) (by omega) _ (lv_sub hl [0, 1, 2, 3, 4, 5, 6, 7, 8, 9, 10, 11, 12] rfl)
    · skip
      refine lv_bipush (v := nI 36) hx hb dL_watches_23 (by decide) ?_
      refine lv_goto (tgt := 36) hx hb dL_watches_25 (by decide) ?_
      exact mg36 (36) (by omega) _ (lv_sub hl [0, 1, 2, 3, 4, 5, 6, 7, 8, 9, 10, 11, 12] rfl)
  intro mo9 hmo ls hl
  refine lv_istore (lv' := [(13, .int (nI (mo9))), (12, .ref (ad 38)), (11, .ref (ad 37)), (0, .ref (ad 0)), (1, .int (g)), (2, .ref (ad 27)), (3, .ref (ad 28)), (4, .ref (ad 29)), (5, .ref (ad 30)), (6, .ref (ad 32)), (7, .ref (ad 33)), (8, .ref (ad 34)), (9, .ref (ad 35)), (10, .ref (ad 36))]) hx hb dL_watches_36 hl (by decide) rfl (fun ls hl => ?_)
  refine lv_iconst (v := nI 0) hx hb dL_watches_38 (by decide) ?_
  refine lv_istore (lv' := [(14, .int (nI (0))), (13, .int (nI (mo9))), (12, .ref (ad 38)), (11, .ref (ad 37)), (0, .ref (ad 0)), (1, .int (g)), (2, .ref (ad 27)), (3, .ref (ad 28)), (4, .ref (ad 29)), (5, .ref (ad 30)), (6, .ref (ad 32)), (7, .ref (ad 33)), (8, .ref (ad 34)), (9, .ref (ad 35)), (10, .ref (ad 36))]) hx hb dL_watches_39 hl (by decide) rfl (fun ls hl => ?_)
  have lp41 : ∀ (n9 k : Nat), k ≤ K 5 0 + 1 → K 5 0 + 1 - k < n9 → ∀ (ts1 : Nat → Nat) (pu1 : Nat → Int64) (rw : Nat → Int64), (hTs K ts1) → ∀ (H : Heap) (locs : List Loc), va_P D vwCl (wz 39 ad (wxE ad cI cJ cQ (K) (ts1) (pu1) (K) (X2 (.inl (cJ, 36, .inr (.inl (rw)))) (.inl (cJ, 36, .inr (.inl (fun _ => lN 0))))))) H → va_S (zA z0) s.heap H locs → ∀ ls : Array Slot, lv_has ls 28 [(0, .ref (ad 0)), (1, .int (g)), (2, .ref (ad 27)), (3, .ref (ad 28)), (4, .ref (ad 29)), (5, .ref (ad 30)), (6, .ref (ad 32)), (7, .ref (ad 33)), (8, .ref (ad 34)), (9, .ref (ad 35)), (10, .ref (ad 36)), (11, .ref (ad 37)), (12, .ref (ad 38)), (13, .int (nI (mo9))), (14, .int (nI (k)))] → W p l e (rmX 4 100) s m args below meth c H locs (2 + 9 * (k)) (72 + 54 * (k)) Q (F0 m 41 ls []) := by
    intro n9
    induction n9 with
    | zero => intro k q1 q2; omega
    | succ n9 ih41 =>
      intro k q1_41 q2_41 ts1 pu1 rw hT H locs hP hS ls hl
      refine lv_iload hx hb dL_watches_41 (lv_at hl 14 rfl) ?_
      refine lv_aload_n hx hb dL_watches_43 rfl (lv_at hl 2 rfl) ?_
      refine lv_iconst (v := nI 1) hx hb dL_watches_44 (by decide) ?_
      refine zi_ld hx hb hK hP 27 (by decide) 0 rfl rfl (by decide) (i := 1) (by omega) (v := nI (K 5 0)) rfl dL_watches_45 ?_
      refine zb_gt (tgt := 544) hx hb (by omega) (by omega) dL_watches_46 (by decide) (fun c_6 => ?_) (fun c_6 => ?_)
      · skip
        have q_7 : k = K 5 0 + 1 := by omega
        subst q_7
        suffices mg553 : ∀ (we9 : Nat), (we9 ≤ K 0 0) → ∀ ls : Array Slot, lv_has ls 28 [(0, .ref (ad 0)), (1, .int (g)), (2, .ref (ad 27)), (3, .ref (ad 28)), (4, .ref (ad 29)), (5, .ref (ad 30)), (6, .ref (ad 32)), (7, .ref (ad 33)), (8, .ref (ad 34)), (9, .ref (ad 35)), (10, .ref (ad 36)), (11, .ref (ad 37)), (12, .ref (ad 38)), (13, .int (nI (mo9))), (14, .int (nI (K 5 0 + 1)))] → W p l e (rmX 4 100) s m args below meth c H locs (2 + 9 * (K 5 0 + 1)) (72 + 54 * (K 5 0 + 1)) Q (F0 m 553 ls [.int (nI (we9))]) by
          refine lv_iload_n hx hb dL_watches_544 rfl (lv_at hl 1 rfl) ?_
          refine lv_aload_n hx hb dL_watches_545 rfl (lv_at hl 2 rfl) ?_
          refine lv_iconst (v := nI 0) hx hb dL_watches_546 (by decide) ?_
          refine zi_ld hx hb hK hP 27 (by decide) 0 rfl rfl (by decide) (i := 0) (by omega) (v := nI (K 0 0)) rfl dL_watches_547 ?_
          refine lv_iconst (v := nI 1) hx hb dL_watches_548 (by decide) ?_
          refine zr_iadd hx hb dL_watches_549 ?_
          refine vp_callSi (W.runS (As := [.int (g), .int (nI ((K 0 0) + (1)))]) (rest := []) ⟨hx, hb, hml, hown, hts⟩ (l_some l ((g)) (N := (K 0 0) + (1)) (by omega) (by omega)) (va_cwS 2 hts gL_watches_L_some rfl rfl rfl (by decide +kernel) (by decide)) (psN) rfl rfl hl.1 rfl (lv_room (Nat.le_of_ble_eq_true rfl)) dL_watches_550 ⟨show 2 + 9 * (K 5 0 + 1) + 0 ≤ 100 by omega, show 72 + 54 * (K 5 0 + 1) + 0 ≤ 600 by omega⟩) (fun r_8 hr_8 => ?_)
          obtain ⟨r_8j, br_8, rfl⟩ := hr_8
          exact mg553 (r_8j) (by omega) _ (lv_sub hl [0, 1, 2, 3, 4, 5, 6, 7, 8, 9, 10, 11, 12, 13, 14] rfl)
        intro we9 hwe ls hl
        refine lv_istore (lv' := [(14, .int (nI (we9))), (0, .ref (ad 0)), (1, .int (g)), (2, .ref (ad 27)), (3, .ref (ad 28)), (4, .ref (ad 29)), (5, .ref (ad 30)), (6, .ref (ad 32)), (7, .ref (ad 33)), (8, .ref (ad 34)), (9, .ref (ad 35)), (10, .ref (ad 36)), (11, .ref (ad 37)), (12, .ref (ad 38)), (13, .int (nI (mo9)))]) hx hb dL_watches_553 hl (by decide) rfl (fun ls hl => ?_)
        suffices mg575 : ∀ (b29 : Bool), (b29 = true ↔ (we9 < K 0 0 ∧ mo9 < 36)) → ∀ ls : Array Slot, lv_has ls 28 [(14, .int (nI (we9))), (0, .ref (ad 0)), (1, .int (g)), (2, .ref (ad 27)), (3, .ref (ad 28)), (4, .ref (ad 29)), (5, .ref (ad 30)), (6, .ref (ad 32)), (7, .ref (ad 33)), (8, .ref (ad 34)), (9, .ref (ad 35)), (10, .ref (ad 36)), (11, .ref (ad 37)), (12, .ref (ad 38)), (13, .int (nI (mo9)))] → W p l e (rmX 4 100) s m args below meth c H locs (2 + 9 * (K 5 0 + 1)) (72 + 54 * (K 5 0 + 1)) Q (F0 m 575 ls [.int (bB (b29))]) by
          refine lv_iload hx hb dL_watches_555 (lv_at hl 0 rfl) ?_
          refine lv_aload_n hx hb dL_watches_557 rfl (lv_at hl 3 rfl) ?_
          refine lv_iconst (v := nI 0) hx hb dL_watches_558 (by decide) ?_
          refine zi_ld hx hb hK hP 27 (by decide) 0 rfl rfl (by decide) (i := 0) (by omega) (v := nI (K 0 0)) rfl dL_watches_559 ?_
          refine zb_ge (tgt := 574) hx hb (by omega) (by omega) dL_watches_560 (by decide) (fun c_9 => ?_) (fun c_9 => ?_)
          · skip
            refine lv_iconst (v := nI 0) hx hb dL_watches_574 (by decide) ?_
            refine zt_i (y := bB (false)) rfl ?_
            exact mg575 (false) (iff_of_false (by decide) (by omega)) _ (lv_sub hl [0, 1, 2, 3, 4, 5, 6, 7, 8, 9, 10, 11, 12, 13, 14] rfl)
          · skip
            refine lv_iload hx hb dL_watches_563 (lv_at hl 14 rfl) ?_
            refine lv_bipush (v := nI 36) hx hb dL_watches_565 (by decide) ?_
            refine zb_ge (tgt := 574) hx hb (by omega) (by omega) dL_watches_567 (by decide) (fun c_10 => ?_) (fun c_10 => ?_)
            · skip
              refine lv_iconst (v := nI 0) hx hb dL_watches_574 (by decide) ?_
              refine zt_i (y := bB (false)) rfl ?_
              exact mg575 (false) (iff_of_false (by decide) (by omega)) _ (lv_sub hl [0, 1, 2, 3, 4, 5, 6, 7, 8, 9, 10, 11, 12, 13, 14] rfl)
            · skip
              refine lv_iconst (v := nI 1) hx hb dL_watches_570 (by decide) ?_
              refine lv_goto (tgt := 575) hx hb dL_watches_571 (by decide) ?_
              refine zt_i (y := bB (true)) rfl ?_
              exact mg575 (true) (iff_of_true rfl (by omega)) _ (lv_sub hl [0, 1, 2, 3, 4, 5, 6, 7, 8, 9, 10, 11, 12, 13, 14] rfl)
        intro b29 hb2 ls hl
        refine lv_istore (lv' := [(15, .int (bB (b29))), (14, .int (nI (we9))), (0, .ref (ad 0)), (1, .int (g)), (2, .ref (ad 27)), (3, .ref (ad 28)), (4, .ref (ad 29)), (5, .ref (ad 30)), (6, .ref (ad 32)), (7, .ref (ad 33)), (8, .ref (ad 34)), (9, .ref (ad 35)), (10, .ref (ad 36)), (11, .ref (ad 37)), (12, .ref (ad 38)), (13, .int (nI (mo9)))]) hx hb dL_watches_575 hl (by decide) rfl (fun ls hl => ?_)
        suffices mg622 : ∀ ls : Array Slot, lv_has ls 28 [(15, .int (bB (b29))), (14, .int (nI (we9))), (0, .ref (ad 0)), (1, .int (g)), (2, .ref (ad 27)), (3, .ref (ad 28)), (4, .ref (ad 29)), (5, .ref (ad 30)), (6, .ref (ad 32)), (7, .ref (ad 33)), (8, .ref (ad 34)), (9, .ref (ad 35)), (10, .ref (ad 36)), (11, .ref (ad 37)), (12, .ref (ad 38)), (13, .int (nI (mo9)))] → W p l e (rmX 4 100) s m args below meth c H locs (2 + 9 * (K 5 0 + 1)) (72 + 54 * (K 5 0 + 1)) Q (F0 m 622 ls [.ref (ad (32 + (by5 (we9))))]) by
          refine lv_iload hx hb dL_watches_577 (lv_at hl 1 rfl) ?_
          refine zb_0ne (tgt := 587) hx hb (by omega) dL_watches_579 (by decide) (fun c_11 => ?_) (fun c_11 => ?_)
          · skip
            refine lv_iload hx hb dL_watches_587 (lv_at hl 1 rfl) ?_
            refine lv_iconst (v := nI 1) hx hb dL_watches_589 (by decide) ?_
            refine zb_ne (tgt := 598) hx hb (by omega) (by omega) dL_watches_590 (by decide) (fun c_12 => ?_) (fun c_12 => ?_)
            · skip
              refine lv_iload hx hb dL_watches_598 (lv_at hl 1 rfl) ?_
              refine lv_iconst (v := nI 2) hx hb dL_watches_600 (by decide) ?_
              refine zb_ne (tgt := 609) hx hb (by omega) (by omega) dL_watches_601 (by decide) (fun c_13 => ?_) (fun c_13 => ?_)
              · skip
                refine lv_iload hx hb dL_watches_609 (lv_at hl 1 rfl) ?_
                refine lv_iconst (v := nI 3) hx hb dL_watches_611 (by decide) ?_
                refine zb_ne (tgt := 620) hx hb (by omega) (by omega) dL_watches_612 (by decide) (fun c_14 => ?_) (fun c_14 => ?_)
                · skip
                  refine lv_aload hx hb dL_watches_620 (lv_at hl 12 rfl) ?_
                  refine zt_r (show ad 36 = ad (32 + (by5 (we9))) from congrArg ad (by have hb5 := by5_s (we9); omega)) ?_
                  exact mg622 _ (lv_sub hl [0, 1, 2, 3, 4, 5, 6, 7, 8, 9, 10, 11, 12, 13, 14, 15] rfl)
                · skip
                  refine lv_aload hx hb dL_watches_615 (lv_at hl 11 rfl) ?_
                  refine lv_goto (tgt := 622) hx hb dL_watches_617 (by decide) ?_
                  refine zt_r (show ad 35 = ad (32 + (by5 (we9))) from congrArg ad (by have hb5 := by5_s (we9); omega)) ?_
                  exact mg622 _ (lv_sub hl [0, 1, 2, 3, 4, 5, 6, 7, 8, 9, 10, 11, 12, 13, 14, 15] rfl)
              · skip
                refine lv_aload hx hb dL_watches_604 (lv_at hl 10 rfl) ?_
                refine lv_goto (tgt := 622) hx hb dL_watches_606 (by decide) ?_
                refine zt_r (show ad 34 = ad (32 + (by5 (we9))) from congrArg ad (by have hb5 := by5_s (we9); omega)) ?_
                exact mg622 _ (lv_sub hl [0, 1, 2, 3, 4, 5, 6, 7, 8, 9, 10, 11, 12, 13, 14, 15] rfl)
            · skip
              refine lv_aload hx hb dL_watches_593 (lv_at hl 9 rfl) ?_
              refine lv_goto (tgt := 622) hx hb dL_watches_595 (by decide) ?_
              refine zt_r (show ad 33 = ad (32 + (by5 (we9))) from congrArg ad (by have hb5 := by5_s (we9); omega)) ?_
              exact mg622 _ (lv_sub hl [0, 1, 2, 3, 4, 5, 6, 7, 8, 9, 10, 11, 12, 13, 14, 15] rfl)
          · skip
            refine lv_aload hx hb dL_watches_582 (lv_at hl 8 rfl) ?_
            refine lv_goto (tgt := 622) hx hb dL_watches_584 (by decide) ?_
            refine zt_r (show ad 32 = ad (32 + (by5 (we9))) from congrArg ad (by have hb5 := by5_s (we9); omega)) ?_
            exact mg622 _ (lv_sub hl [0, 1, 2, 3, 4, 5, 6, 7, 8, 9, 10, 11, 12, 13, 14, 15] rfl)
        intro ls hl
        refine lv_astore (lv' := [(16, .ref (ad (32 + (by5 (we9))))), (15, .int (bB (b29))), (14, .int (nI (we9))), (0, .ref (ad 0)), (1, .int (g)), (2, .ref (ad 27)), (3, .ref (ad 28)), (4, .ref (ad 29)), (5, .ref (ad 30)), (6, .ref (ad 32)), (7, .ref (ad 33)), (8, .ref (ad 34)), (9, .ref (ad 35)), (10, .ref (ad 36)), (11, .ref (ad 37)), (12, .ref (ad 38)), (13, .int (nI (mo9)))]) hx hb dL_watches_622 hl (by decide) rfl (fun ls hl => ?_)
        cases b29
        · skip
          have hbq : ¬ (we9 < K 0 0 ∧ mo9 < 36) := fun z => absurd (hb2.mpr z) (by decide)
          refine lv_iload hx hb dL_watches_624 (lv_at hl 1 rfl) ?_
          refine zb_Beq (tgt := 641) hx hb dL_watches_626 (by decide) (fun _ => ?_) (fun c_15 => False.elim (by revert c_15; decide))
          refine lv_bipush (v := (-101)) hx hb dL_watches_641 (by decide) ?_
          refine lv_istore (lv' := [(17, .int (-101)), (16, .ref (ad (32 + (by5 (we9))))), (15, .int (bB (false))), (14, .int (nI (we9))), (0, .ref (ad 0)), (1, .int (g)), (2, .ref (ad 27)), (3, .ref (ad 28)), (4, .ref (ad 29)), (5, .ref (ad 30)), (6, .ref (ad 32)), (7, .ref (ad 33)), (8, .ref (ad 34)), (9, .ref (ad 35)), (10, .ref (ad 36)), (11, .ref (ad 37)), (12, .ref (ad 38)), (13, .int (nI (mo9)))]) hx hb dL_watches_643 hl (by decide) rfl (fun ls hl => ?_)
          refine lv_iconst (v := nI 0) hx hb dL_watches_645 (by decide) ?_
          refine lv_istore (lv' := [(18, .int (nI (0))), (17, .int (-101)), (16, .ref (ad (32 + (by5 (we9))))), (15, .int (bB (false))), (14, .int (nI (we9))), (0, .ref (ad 0)), (1, .int (g)), (2, .ref (ad 27)), (3, .ref (ad 28)), (4, .ref (ad 29)), (5, .ref (ad 30)), (6, .ref (ad 32)), (7, .ref (ad 33)), (8, .ref (ad 34)), (9, .ref (ad 35)), (10, .ref (ad 36)), (11, .ref (ad 37)), (12, .ref (ad 38)), (13, .int (nI (mo9)))]) hx hb dL_watches_646 hl (by decide) rfl (fun ls hl => ?_)
          suffices mg844 : ∀ ls : Array Slot, lv_has ls 28 [(18, .int (nI (0))), (17, .int (-101)), (16, .ref (ad (32 + (by5 (we9))))), (15, .int (bB (false))), (14, .int (nI (we9))), (0, .ref (ad 0)), (1, .int (g)), (2, .ref (ad 27)), (3, .ref (ad 28)), (4, .ref (ad 29)), (5, .ref (ad 30)), (6, .ref (ad 32)), (7, .ref (ad 33)), (8, .ref (ad 34)), (9, .ref (ad 35)), (10, .ref (ad 36)), (11, .ref (ad 37)), (12, .ref (ad 38)), (13, .int (nI (mo9)))] → W p l e (rmX 4 100) s m args below meth c H locs (2 + 9 * (K 5 0 + 1)) (72 + 54 * (K 5 0 + 1)) Q (F0 m 844 ls []) by
            refine lv_iload hx hb dL_watches_648 (lv_at hl 0 rfl) ?_
            refine lv_aload_n hx hb dL_watches_650 rfl (lv_at hl 7 rfl) ?_
            refine lv_iconst (v := nI 1) hx hb dL_watches_651 (by decide) ?_
            refine zi_ld hx hb hK hP 27 (by decide) 0 rfl rfl (by decide) (i := 1) (by omega) (v := nI (K 5 0)) rfl dL_watches_652 ?_
            refine zb_ge (tgt := 844) hx hb (by omega) (by omega) dL_watches_653 (by decide) (fun c_16 => ?_) (fun c_16 => ?_)
            · skip
              exact mg844 _ (lv_sub hl [0, 1, 2, 3, 4, 5, 6, 7, 8, 9, 10, 11, 12, 13, 14, 15, 16, 17, 18] rfl)
            · skip
              refine lv_iload hx hb dL_watches_656 (lv_at hl 3 rfl) ?_
              refine zb_Beq (tgt := 844) hx hb dL_watches_658 (by decide) (fun _ => ?_) (fun c_17 => False.elim (by revert c_17; decide))
              exact mg844 _ (lv_sub hl [0, 1, 2, 3, 4, 5, 6, 7, 8, 9, 10, 11, 12, 13, 14, 15, 16, 17, 18] rfl)
          intro ls hl
          refine lv_aload_n hx hb dL_watches_844 rfl (lv_at hl 5 rfl) ?_
          refine lv_iconst (v := nI 1) hx hb dL_watches_845 (by decide) ?_
          refine lv_iload hx hb dL_watches_846 (lv_at hl 4 rfl) ?_
          refine lv_iload hx hb dL_watches_848 (lv_at hl 18 rfl) ?_
          refine zz_i (vx_runSX (As := [.ref (ad 0), .int (nI (1)), .int (nI (we9)), .int (nI (mo9))]) (rest := []) ⟨hx, hb, hml, hown, hts⟩ (q_of1 l hfl hI.inv (by decide) hnd hAd (Nat.le_trans hz0 hS.1) hT  (nI (we9)) (nI (mo9))) (vx_cwSW 4 hts gL_watches_L_of rfl rfl rfl (by decide +kernel) (by decide)) (psV hK hP hX (fun a h1 h2 => hS.2.1 a h1 h2)) rfl rfl hl.1 rfl (lv_room (Nat.le_of_ble_eq_true rfl)) dL_watches_850 ⟨show 2 + 9 * (K 5 0 + 1) + 2 ≤ 100 by omega, show 72 + 54 * (K 5 0 + 1) + 12 ≤ 600 by omega⟩) hS (fun q _ h => h) (fun q h => h) (fun r9 u_18 t9 H locs ht9 hv9 hp9 hB9 hz1 hk1 hS => ?_)
          obtain ⟨e_18, hT⟩ := hp9
          have hP := hB9.2
          rw [ht9] at hP
          clear hB9 ht9 hv9 hz1 hk1
          have hcd_18 : cd1 (ixB (nI (we9)) (K 0 0) && ixB (nI (mo9)) 36) = 1 := cd1_1 (ix2_f (by omega) (by omega) (by omega) (by omega) (by decide))
          have e_18 := e_18.trans (rsc_1 hcd_18)
          subst e_18
          refine lv_iload hx hb dL_watches_853 (lv_at hl 1 rfl) ?_
          refine lv_icmp_ne (tgt := 862) hx hb dL_watches_855 (by decide) (fun c_19 => False.elim (by revert c_19; decide)) (fun _ => ?_)
          refine lv_iconst (v := nI 1) hx hb dL_watches_858 (by decide) ?_
          refine lv_goto (tgt := 863) hx hb dL_watches_859 (by decide) ?_
          exact hret (b := true) (u := (u_18.1, u_18.2)) (show 2 + 9 * (K 5 0 + 1) + 2 ≤ 100 by omega) (show 72 + 54 * (K 5 0 + 1) + 12 ≤ 600 by omega) ⟨rfl, hT⟩ rfl hS (fun t ht hA => ⟨va_K.moved hA hK, by rw [ht]; exact wx_drop he hP⟩) dL_watches_863
        · skip
          have hbq := hb2.mp rfl
          have e5 := by5_w (show we9 < 5 by omega)
          rw [e5] at hl
          refine lv_iload hx hb dL_watches_624 (lv_at hl 1 rfl) ?_
          refine zb_Beq (tgt := 641) hx hb dL_watches_626 (by decide) (fun c_20 => False.elim (by revert c_20; decide)) (fun _ => ?_)
          refine lv_sipush (v := nI 1000) hx hb dL_watches_629 (by decide) ?_
          refine lv_aload hx hb dL_watches_632 (lv_at hl 0 rfl) ?_
          refine lv_iload hx hb dL_watches_634 (lv_at hl 16 rfl) ?_
          have f_21 := hI.inv.un (we9) (by omega) (mo9)
          refine zi_ld hx hb hK hP (32 + (we9)) (by omega) 0 (wx_p (by omega)) rfl (by decide) (i := mo9) (by omega) (v := nI (K (10 + 3 * (we9)) (mo9))) rfl dL_watches_636 ?_
          refine zr_isub hx hb (by omega) dL_watches_637 ?_
          refine lv_goto (tgt := 643) hx hb dL_watches_638 (by decide) ?_
          refine lv_istore (lv' := [(17, .int (nI ((1000) - (K (10 + 3 * (we9)) (mo9))))), (16, .ref (ad (32 + (we9)))), (15, .int (bB (true))), (14, .int (nI (we9))), (0, .ref (ad 0)), (1, .int (g)), (2, .ref (ad 27)), (3, .ref (ad 28)), (4, .ref (ad 29)), (5, .ref (ad 30)), (6, .ref (ad 32)), (7, .ref (ad 33)), (8, .ref (ad 34)), (9, .ref (ad 35)), (10, .ref (ad 36)), (11, .ref (ad 37)), (12, .ref (ad 38)), (13, .int (nI (mo9)))]) hx hb dL_watches_643 hl (by decide) rfl (fun ls hl => ?_)
          refine lv_iconst (v := nI 0) hx hb dL_watches_645 (by decide) ?_
          refine lv_istore (lv' := [(18, .int (nI (0))), (17, .int (nI ((1000) - (K (10 + 3 * (we9)) (mo9))))), (16, .ref (ad (32 + (we9)))), (15, .int (bB (true))), (14, .int (nI (we9))), (0, .ref (ad 0)), (1, .int (g)), (2, .ref (ad 27)), (3, .ref (ad 28)), (4, .ref (ad 29)), (5, .ref (ad 30)), (6, .ref (ad 32)), (7, .ref (ad 33)), (8, .ref (ad 34)), (9, .ref (ad 35)), (10, .ref (ad 36)), (11, .ref (ad 37)), (12, .ref (ad 38)), (13, .int (nI (mo9)))]) hx hb dL_watches_646 hl (by decide) rfl (fun ls hl => ?_)
          have lp648 : ∀ (n9 k : Nat), k ≤ K 5 0 → K 5 0 - k < n9 → ∀ (rw : Nat → Int64) (on : Nat → Int64), ∀ (H : Heap) (locs : List Loc), va_P D vwCl (wz 39 ad (wxE ad cI cJ cQ (K) (ts1) (pu1) (K) (X2 (.inl (cJ, 36, .inr (.inl (rw)))) (.inl (cJ, 36, .inr (.inl (on))))))) H → va_S (zA z0) s.heap H locs → ∀ ls : Array Slot, lv_has ls 28 [(0, .ref (ad 0)), (1, .int (g)), (2, .ref (ad 27)), (3, .ref (ad 28)), (4, .ref (ad 29)), (5, .ref (ad 30)), (6, .ref (ad 32)), (7, .ref (ad 33)), (8, .ref (ad 34)), (9, .ref (ad 35)), (10, .ref (ad 36)), (11, .ref (ad 37)), (12, .ref (ad 38)), (13, .int (nI (mo9))), (14, .int (nI (we9))), (15, .int (bB (true))), (16, .ref (ad (32 + (we9)))), (17, .int (nI (hdr K we9 mo9 (k)))), (18, .int (nI (k)))] → W p l e (rmX 4 100) s m args below meth c H locs (2 + 9 * (K 5 0 + 1)) (72 + 54 * (K 5 0 + 1)) Q (F0 m 648 ls []) := by
            intro n9
            induction n9 with
            | zero => intro k q1 q2; omega
            | succ n9 ih648 =>
              intro k q1_648 q2_648 rw on H locs hP hS ls hl
              have fhd := hdr_le K we9 mo9 k
              have hR := rl5_s (rch K we9 k) mo9
              have hD := d12_s (36 - mo9)
              refine lv_iload hx hb dL_watches_648 (lv_at hl 18 rfl) ?_
              refine lv_aload_n hx hb dL_watches_650 rfl (lv_at hl 2 rfl) ?_
              refine lv_iconst (v := nI 1) hx hb dL_watches_651 (by decide) ?_
              refine zi_ld hx hb hK hP 27 (by decide) 0 rfl rfl (by decide) (i := 1) (by omega) (v := nI (K 5 0)) rfl dL_watches_652 ?_
              refine zb_ge (tgt := 844) hx hb (by omega) (by omega) dL_watches_653 (by decide) (fun c_22 => ?_) (fun c_22 => ?_)
              · skip
                have q_23 : k = K 5 0 := by omega
                subst q_23
                refine lv_aload_n hx hb dL_watches_844 rfl (lv_at hl 0 rfl) ?_
                refine lv_iconst (v := nI 1) hx hb dL_watches_845 (by decide) ?_
                refine lv_iload hx hb dL_watches_846 (lv_at hl 14 rfl) ?_
                refine lv_iload hx hb dL_watches_848 (lv_at hl 13 rfl) ?_
                have fhd := hdr_le K we9 mo9 (K 5 0)
                refine zz_i (vx_runSX (As := [.ref (ad 0), .int (nI (1)), .int (nI (we9)), .int (nI (mo9))]) (rest := []) ⟨hx, hb, hml, hown, hts⟩ (q_of1 l hfl hI.inv (by decide) hnd hAd (Nat.le_trans hz0 hS.1) hT  (nI (we9)) (nI (mo9))) (vx_cwSW 4 hts gL_watches_L_of rfl rfl rfl (by decide +kernel) (by decide)) (psV hK hP hX (fun a h1 h2 => hS.2.1 a h1 h2)) rfl rfl hl.1 rfl (lv_room (Nat.le_of_ble_eq_true rfl)) dL_watches_850 ⟨show 2 + 9 * (K 5 0 + 1) + 2 ≤ 100 by omega, show 72 + 54 * (K 5 0 + 1) + 12 ≤ 600 by omega⟩) hS (fun q _ h => h) (fun q h => h) (fun r9 u_24 t9 H locs ht9 hv9 hp9 hB9 hz1 hk1 hS => ?_)
                obtain ⟨e_24, hT⟩ := hp9
                have hP := hB9.2
                rw [ht9] at hP
                clear hB9 ht9 hv9 hz1 hk1
                have hcd_24 : cd1 (ixB (nI (we9)) (K 0 0) && ixB (nI (mo9)) 36) = 0 := cd1_0 (ix2_t (by omega) (by omega) (by omega) (by decide))
                have e_24 := e_24.trans ((rsc_0 hcd_24).trans (show nI (hdr K (clN (nI (we9))) (clN (nI (mo9))) (K 5 0)) = nI (hdr K ((we9)) ((mo9)) (K 5 0)) by first | rfl | simp only [clN_nI (show we9 < 2 ^ 31 by omega), clN_nI (show mo9 < 2 ^ 31 by omega)]))
                subst e_24
                refine lv_iload hx hb dL_watches_853 (lv_at hl 17 rfl) ?_
                refine zb_ne (tgt := 862) hx hb (by omega) (by omega) dL_watches_855 (by decide) (fun c_25 => ?_) (fun c_25 => ?_)
                · skip
                  exact False.elim (by omega)
                · skip
                  refine lv_iconst (v := nI 1) hx hb dL_watches_858 (by decide) ?_
                  refine lv_goto (tgt := 863) hx hb dL_watches_859 (by decide) ?_
                  exact hret (b := true) (u := (u_24.1, u_24.2)) (show 2 + 9 * (K 5 0 + 1) + 2 ≤ 100 by omega) (show 72 + 54 * (K 5 0 + 1) + 12 ≤ 600 by omega) ⟨rfl, hT⟩ rfl hS (fun t ht hA => ⟨va_K.moved hA hK, by rw [ht]; exact wx_drop he hP⟩) dL_watches_863
              · skip
                refine lv_iload hx hb dL_watches_656 (lv_at hl 15 rfl) ?_
                refine zb_Beq (tgt := 844) hx hb dL_watches_658 (by decide) (fun c_26 => False.elim (by revert c_26; decide)) (fun _ => ?_)
                refine lv_aload_n hx hb dL_watches_661 rfl (lv_at hl 2 rfl) ?_
                refine lv_aload_n hx hb dL_watches_662 rfl (lv_at hl 3 rfl) ?_
                refine lv_aload hx hb dL_watches_663 (lv_at hl 4 rfl) ?_
                refine lv_aload hx hb dL_watches_665 (lv_at hl 5 rfl) ?_
                refine lv_aload hx hb dL_watches_667 (lv_at hl 6 rfl) ?_
                refine lv_aload hx hb dL_watches_669 (lv_at hl 7 rfl) ?_
                refine lv_aload hx hb dL_watches_671 (lv_at hl 8 rfl) ?_
                refine lv_aload hx hb dL_watches_673 (lv_at hl 9 rfl) ?_
                refine lv_aload hx hb dL_watches_675 (lv_at hl 10 rfl) ?_
                refine lv_iload hx hb dL_watches_677 (lv_at hl 18 rfl) ?_
                refine lv_aload hx hb dL_watches_679 (lv_at hl 11 rfl) ?_
                refine va_callv (va_runS (As := [.ref (ad 27), .ref (ad 28), .ref (ad 29), .ref (ad 30), .ref (ad 32), .ref (ad 33), .ref (ad 34), .ref (ad 35), .ref (ad 36), .int (nI (k)), .ref (ad 37)]) (rest := []) ⟨hx, hb, hml, hown, hts⟩ (l_lowers l hI hnd hAd (Nat.le_trans hz0 hS.1) (v := k) (by omega)) (va_cwS 11 hts gL_watches_L_lowers rfl rfl rfl (by decide +kernel) (by decide)) (psAS hK hP) rfl rfl hl.1 rfl (lv_room (Nat.le_of_ble_eq_true rfl)) dL_watches_681 ⟨show 2 + 9 * (K 5 0 + 1) + 0 ≤ 100 by omega, show 72 + 54 * (K 5 0 + 1) + 0 ≤ 600 by omega⟩) hS (fun q _ h => h) (fun q h => h) (fun u9 t9 H locs ht9 hv9 hp9 hB9 hz1 hk1 hS => ?_)
                have hP := hB9.2
                rw [ht9] at hP
                have hrw := hp9
                refine lv_iconst (v := nI 0) hx hb dL_watches_684 (by decide) ?_
                refine lv_istore (lv' := [(19, .int (nI (0))), (0, .ref (ad 0)), (1, .int (g)), (2, .ref (ad 27)), (3, .ref (ad 28)), (4, .ref (ad 29)), (5, .ref (ad 30)), (6, .ref (ad 32)), (7, .ref (ad 33)), (8, .ref (ad 34)), (9, .ref (ad 35)), (10, .ref (ad 36)), (11, .ref (ad 37)), (12, .ref (ad 38)), (13, .int (nI (mo9))), (14, .int (nI (we9))), (15, .int (bB (true))), (16, .ref (ad (32 + (we9)))), (17, .int (nI (hdr K we9 mo9 (k)))), (18, .int (nI (k)))]) hx hb dL_watches_685 hl (by decide) rfl (fun ls hl => ?_)
                have lp687 : ∀ (n9 j : Nat), j ≤ 36 → 36 - j < n9 → ∀ (on : Nat → Int64), (∀ t, t < (j) → on t = lN 0) → ∀ (H : Heap) (locs : List Loc), va_P D vwCl (wz 39 ad (wxE ad cI cJ cQ (K) (ts1) (pu1) (K) (X2 (.inl (cJ, 36, .inr (.inl (u9)))) (.inl (cJ, 36, .inr (.inl (on))))))) H → va_S (zA z0) s.heap H locs → ∀ ls : Array Slot, lv_has ls 28 [(0, .ref (ad 0)), (1, .int (g)), (2, .ref (ad 27)), (3, .ref (ad 28)), (4, .ref (ad 29)), (5, .ref (ad 30)), (6, .ref (ad 32)), (7, .ref (ad 33)), (8, .ref (ad 34)), (9, .ref (ad 35)), (10, .ref (ad 36)), (11, .ref (ad 37)), (12, .ref (ad 38)), (13, .int (nI (mo9))), (14, .int (nI (we9))), (15, .int (bB (true))), (16, .ref (ad (32 + (we9)))), (17, .int (nI (hdr K we9 mo9 (k)))), (18, .int (nI (k))), (19, .int (nI (j)))] → W p l e (rmX 4 100) s m args below meth c H locs (2 + 9 * (K 5 0 + 1)) (72 + 54 * (K 5 0 + 1)) Q (F0 m 687 ls []) := by
                  intro n9
                  induction n9 with
                  | zero => intro j q1 q2; omega
                  | succ n9 ih687 =>
                    intro j q1_687 q2_687 on hz H locs hP hS ls hl
                    refine lv_iload hx hb dL_watches_687 (lv_at hl 19 rfl) ?_
                    refine lv_bipush (v := nI 36) hx hb dL_watches_689 (by decide) ?_
                    refine zb_ge (tgt := 706) hx hb (by omega) (by omega) dL_watches_691 (by decide) (fun c_27 => ?_) (fun c_27 => ?_)
                    · skip
                      have q_28 : j = 36 := by omega
                      subst q_28
                      refine lv_aload_n hx hb dL_watches_706 rfl (lv_at hl 3 rfl) ?_
                      refine lv_aload hx hb dL_watches_707 (lv_at hl 4 rfl) ?_
                      refine lv_iload hx hb dL_watches_709 (lv_at hl 14 rfl) ?_
                      refine lv_iload hx hb dL_watches_711 (lv_at hl 18 rfl) ?_
                      refine vp_callSi (W.runS (As := [.ref (ad 28), .ref (ad 29), .int (nI (we9)), .int (nI (k))]) (rest := []) ⟨hx, hb, hml, hown, hts⟩ (l_reach l hI (by omega) (w := we9) (v := k) (by omega) (by omega)) (va_cwS 4 hts gL_watches_L_reach rfl rfl rfl (by decide +kernel) (by decide)) (psA hK hP) rfl rfl hl.1 rfl (lv_room (Nat.le_of_ble_eq_true rfl)) dL_watches_713 ⟨show 2 + 9 * (K 5 0 + 1) + 0 ≤ 100 by omega, show 72 + 54 * (K 5 0 + 1) + 0 ≤ 600 by omega⟩) (fun r_29 hr_29 => ?_)
                      subst hr_29
                      have f_30 := rch_le hI.inv (we9) (k)
                      refine lv_istore (lv' := [(19, .int (nI (rch K (we9) (k)))), (0, .ref (ad 0)), (1, .int (g)), (2, .ref (ad 27)), (3, .ref (ad 28)), (4, .ref (ad 29)), (5, .ref (ad 30)), (6, .ref (ad 32)), (7, .ref (ad 33)), (8, .ref (ad 34)), (9, .ref (ad 35)), (10, .ref (ad 36)), (11, .ref (ad 37)), (12, .ref (ad 38)), (13, .int (nI (mo9))), (14, .int (nI (we9))), (15, .int (bB (true))), (16, .ref (ad (32 + (we9)))), (17, .int (nI (hdr K we9 mo9 (k)))), (18, .int (nI (k)))]) hx hb dL_watches_716 hl (by decide) rfl (fun ls hl => ?_)
                      refine lv_iconst (v := nI 0) hx hb dL_watches_718 (by decide) ?_
                      refine lv_istore (lv' := [(20, .int (nI (0))), (19, .int (nI (rch K (we9) (k)))), (0, .ref (ad 0)), (1, .int (g)), (2, .ref (ad 27)), (3, .ref (ad 28)), (4, .ref (ad 29)), (5, .ref (ad 30)), (6, .ref (ad 32)), (7, .ref (ad 33)), (8, .ref (ad 34)), (9, .ref (ad 35)), (10, .ref (ad 36)), (11, .ref (ad 37)), (12, .ref (ad 38)), (13, .int (nI (mo9))), (14, .int (nI (we9))), (15, .int (bB (true))), (16, .ref (ad (32 + (we9)))), (17, .int (nI (hdr K we9 mo9 (k)))), (18, .int (nI (k)))]) hx hb dL_watches_719 hl (by decide) rfl (fun ls hl => ?_)
                      have lp721 : ∀ (n9 d : Nat), d ≤ rl5 (rch K we9 k) mo9 → rl5 (rch K we9 k) mo9 - d < n9 → ∀ (on2 : Nat → Int64), (∀ t, t < 36 → on2 t = lN (if mo9 ≤ t ∧ t < mo9 + (d) then (fun d => K (11 + 3 * rch K we9 k) d) (t - mo9) else 0)) → ∀ (H : Heap) (locs : List Loc), va_P D vwCl (wz 39 ad (wxE ad cI cJ cQ (K) (ts1) (pu1) (K) (X2 (.inl (cJ, 36, .inr (.inl (u9)))) (.inl (cJ, 36, .inr (.inl (on2))))))) H → va_S (zA z0) s.heap H locs → ∀ ls : Array Slot, lv_has ls 28 [(0, .ref (ad 0)), (1, .int (g)), (2, .ref (ad 27)), (3, .ref (ad 28)), (4, .ref (ad 29)), (5, .ref (ad 30)), (6, .ref (ad 32)), (7, .ref (ad 33)), (8, .ref (ad 34)), (9, .ref (ad 35)), (10, .ref (ad 36)), (11, .ref (ad 37)), (12, .ref (ad 38)), (13, .int (nI (mo9))), (14, .int (nI (we9))), (15, .int (bB (true))), (16, .ref (ad (32 + (we9)))), (17, .int (nI (hdr K we9 mo9 (k)))), (18, .int (nI (k))), (19, .int (nI (rch K (we9) (k)))), (20, .int (nI (d)))] → W p l e (rmX 4 100) s m args below meth c H locs (2 + 9 * (K 5 0 + 1)) (72 + 54 * (K 5 0 + 1)) Q (F0 m 721 ls []) := by
                        intro n9
                        induction n9 with
                        | zero => intro d q1 q2; omega
                        | succ n9 ih721 =>
                          intro d q1_721 q2_721 on2 hon H locs hP hS ls hl
                          refine lv_iload hx hb dL_watches_721 (lv_at hl 20 rfl) ?_
                          refine lv_bipush (v := nI 12) hx hb dL_watches_723 (by decide) ?_
                          refine zb_ge (tgt := 770) hx hb (by omega) (by omega) dL_watches_725 (by decide) (fun c_31 => ?_) (fun c_31 => ?_)
                          · skip
                            have q_32 : d = rl5 (rch K we9 k) mo9 := by omega
                            subst q_32
                            refine lv_iconst (v := nI 0) hx hb dL_watches_770 (by decide) ?_
                            refine lv_istore (lv' := [(20, .int (nI (0))), (0, .ref (ad 0)), (1, .int (g)), (2, .ref (ad 27)), (3, .ref (ad 28)), (4, .ref (ad 29)), (5, .ref (ad 30)), (6, .ref (ad 32)), (7, .ref (ad 33)), (8, .ref (ad 34)), (9, .ref (ad 35)), (10, .ref (ad 36)), (11, .ref (ad 37)), (12, .ref (ad 38)), (13, .int (nI (mo9))), (14, .int (nI (we9))), (15, .int (bB (true))), (16, .ref (ad (32 + (we9)))), (17, .int (nI (hdr K we9 mo9 (k)))), (18, .int (nI (k))), (19, .int (nI (rch K (we9) (k))))]) hx hb dL_watches_771 hl (by decide) rfl (fun ls hl => ?_)
                            have lp773 : ∀ (n9 t : Nat), t ≤ 36 → 36 - t < n9 → ∀ ls : Array Slot, lv_has ls 28 [(0, .ref (ad 0)), (1, .int (g)), (2, .ref (ad 27)), (3, .ref (ad 28)), (4, .ref (ad 29)), (5, .ref (ad 30)), (6, .ref (ad 32)), (7, .ref (ad 33)), (8, .ref (ad 34)), (9, .ref (ad 35)), (10, .ref (ad 36)), (11, .ref (ad 37)), (12, .ref (ad 38)), (13, .int (nI (mo9))), (14, .int (nI (we9))), (15, .int (bB (true))), (16, .ref (ad (32 + (we9)))), (18, .int (nI (k))), (19, .int (nI (rch K (we9) (k)))), (17, .int (nI (rmf K we9 k mo9 (hdr K we9 mo9 k) (t)))), (20, .int (nI (t)))] → W p l e (rmX 4 100) s m args below meth c H locs (2 + 9 * (K 5 0 + 1)) (72 + 54 * (K 5 0 + 1)) Q (F0 m 773 ls []) := by
                              intro n9
                              induction n9 with
                              | zero => intro t q1 q2; omega
                              | succ n9 ih773 =>
                                intro t q1_773 q2_773 ls hl
                                have frm := rmf_le K we9 k mo9 (hdr K we9 mo9 k) t
                                have fon := onf_le hI.inv we9 k mo9 t
                                have fdd := dd_le hI.inv k t
                                refine lv_iload hx hb dL_watches_773 (lv_at hl 20 rfl) ?_
                                refine lv_bipush (v := nI 36) hx hb dL_watches_775 (by decide) ?_
                                refine zb_ge (tgt := 838) hx hb (by omega) (by omega) dL_watches_777 (by decide) (fun c_33 => ?_) (fun c_33 => ?_)
                                · skip
                                  have q_34 : t = 36 := by omega
                                  subst q_34
                                  have hl := lv_cast (l2 := [(0, .ref (ad 0)), (1, .int (g)), (2, .ref (ad 27)), (3, .ref (ad 28)), (4, .ref (ad 29)), (5, .ref (ad 30)), (6, .ref (ad 32)), (7, .ref (ad 33)), (8, .ref (ad 34)), (9, .ref (ad 35)), (10, .ref (ad 36)), (11, .ref (ad 37)), (12, .ref (ad 38)), (13, .int (nI (mo9))), (14, .int (nI (we9))), (15, .int (bB (true))), (16, .ref (ad (32 + (we9)))), (18, .int (nI (k))), (19, .int (nI (rch K (we9) (k)))), (17, .int (nI (hdr K we9 mo9 (k + 1)))), (20, .int (nI (36)))]) hl (by rw [show nI (rmf K we9 k mo9 (hdr K we9 mo9 k) (36)) = nI (hdr K we9 mo9 (k + 1)) from congrArg nI (hdr_s K we9 mo9 k hbq.2)])
                                  refine lv_iinc (v := nI (k + 1)) (lv' := [(18, .int (nI (k + 1))), (0, .ref (ad 0)), (1, .int (g)), (2, .ref (ad 27)), (3, .ref (ad 28)), (4, .ref (ad 29)), (5, .ref (ad 30)), (6, .ref (ad 32)), (7, .ref (ad 33)), (8, .ref (ad 34)), (9, .ref (ad 35)), (10, .ref (ad 36)), (11, .ref (ad 37)), (12, .ref (ad 38)), (13, .int (nI (mo9))), (14, .int (nI (we9))), (15, .int (bB (true))), (16, .ref (ad (32 + (we9)))), (19, .int (nI (rch K (we9) (k)))), (17, .int (nI (hdr K we9 mo9 (k + 1)))), (20, .int (nI (36)))]) hx hb dL_watches_838 hl (k := 17) rfl (zn_inc (k)) (by decide) rfl (fun ls hl => ?_)
                                  refine lv_goto (tgt := 648) hx hb dL_watches_841 (by decide) ?_
                                  exact ih648 (k + 1) (by omega) (by omega) (_) (_) _ _ hP hS _ (lv_sub hl [1, 2, 3, 4, 5, 6, 7, 8, 9, 10, 11, 12, 13, 14, 15, 16, 17, 19, 0] rfl)
                                · skip
                                  have fwl := wrm_le (rmf K we9 k mo9 (hdr K we9 mo9 k) (t)) (dd K k t) (onf K we9 k mo9 t) (1000 * K 7 k)
                                  have lp780 : ∀ (n9 y : Nat), y < n9 → wrm (rmf K we9 k mo9 (hdr K we9 mo9 k) (t)) (dd K k t) (onf K we9 k mo9 t) (1000 * K 7 k) ≤ y → y ≤ rmf K we9 k mo9 (hdr K we9 mo9 k) (t) → ∀ ls : Array Slot, lv_has ls 28 [(0, .ref (ad 0)), (1, .int (g)), (2, .ref (ad 27)), (3, .ref (ad 28)), (4, .ref (ad 29)), (5, .ref (ad 30)), (6, .ref (ad 32)), (7, .ref (ad 33)), (8, .ref (ad 34)), (9, .ref (ad 35)), (10, .ref (ad 36)), (11, .ref (ad 37)), (12, .ref (ad 38)), (13, .int (nI (mo9))), (14, .int (nI (we9))), (15, .int (bB (true))), (16, .ref (ad (32 + (we9)))), (18, .int (nI (k))), (19, .int (nI (rch K (we9) (k)))), (17, .int (nI (y))), (20, .int (nI (t)))] → W p l e (rmX 4 100) s m args below meth c H locs (2 + 9 * (K 5 0 + 1)) (72 + 54 * (K 5 0 + 1)) Q (F0 m 780 ls []) := by
                                    intro n9
                                    induction n9 with
                                    | zero => intro y q1; omega
                                    | succ n9 ih780 =>
                                      intro y q1 q2 q3 ls hl
                                      have fyo : y * onf K we9 k mo9 t ≤ 1000 * 1000 := Nat.mul_le_mul (by omega) fon
                                      refine lv_iload hx hb dL_watches_780 (lv_at hl 19 rfl) ?_
                                      refine zb_0le (tgt := 832) hx hb (by omega) dL_watches_782 (by decide) (fun c_35 => ?_) (fun c_35 => ?_)
                                      · skip
                                        have e9 : y = rmf K we9 k mo9 (hdr K we9 mo9 k) (t + 1) := wrm_eq q3 q2 (by omega)
                                        have hl := lv_cast (l2 := [(0, .ref (ad 0)), (1, .int (g)), (2, .ref (ad 27)), (3, .ref (ad 28)), (4, .ref (ad 29)), (5, .ref (ad 30)), (6, .ref (ad 32)), (7, .ref (ad 33)), (8, .ref (ad 34)), (9, .ref (ad 35)), (10, .ref (ad 36)), (11, .ref (ad 37)), (12, .ref (ad 38)), (13, .int (nI (mo9))), (14, .int (nI (we9))), (15, .int (bB (true))), (16, .ref (ad (32 + (we9)))), (18, .int (nI (k))), (19, .int (nI (rch K (we9) (k)))), (17, .int (nI (rmf K we9 k mo9 (hdr K we9 mo9 k) (t + 1)))), (20, .int (nI (t)))]) hl (by rw [show nI (y) = nI (rmf K we9 k mo9 (hdr K we9 mo9 k) (t + 1)) from congrArg nI e9])
                                        refine lv_iinc (v := nI (t + 1)) (lv' := [(20, .int (nI (t + 1))), (0, .ref (ad 0)), (1, .int (g)), (2, .ref (ad 27)), (3, .ref (ad 28)), (4, .ref (ad 29)), (5, .ref (ad 30)), (6, .ref (ad 32)), (7, .ref (ad 33)), (8, .ref (ad 34)), (9, .ref (ad 35)), (10, .ref (ad 36)), (11, .ref (ad 37)), (12, .ref (ad 38)), (13, .int (nI (mo9))), (14, .int (nI (we9))), (15, .int (bB (true))), (16, .ref (ad (32 + (we9)))), (18, .int (nI (k))), (19, .int (nI (rch K (we9) (k)))), (17, .int (nI (rmf K we9 k mo9 (hdr K we9 mo9 k) (t + 1))))]) hx hb dL_watches_832 hl (k := 20) rfl (zn_inc (t)) (by decide) rfl (fun ls hl => ?_)
                                        refine lv_goto (tgt := 773) hx hb dL_watches_835 (by decide) ?_
                                        exact ih773 (t + 1) (by omega) (by omega) _ (lv_sub hl [1, 2, 3, 4, 5, 6, 7, 8, 9, 10, 11, 12, 13, 14, 15, 16, 17, 18, 19, 20, 0] rfl)
                                      · skip
                                        refine lv_aload hx hb dL_watches_785 (lv_at hl 12 rfl) ?_
                                        refine lv_iload hx hb dL_watches_787 (lv_at hl 20 rfl) ?_
                                        refine zl_ld hx hb hK hP 38 (by decide) 1 rfl rfl (by decide) (i := t) (by omega) (v := on2 (t)) rfl dL_watches_789 ?_
                                        refine zt_l (y := lN (onf K we9 k mo9 (t))) (hon (t) (by omega)) ?_
                                        refine lv_lconst (v := lN 0) hx hb dL_watches_790 (by decide) ?_
                                        refine zbL_le (tgt := 832) hx hb (by omega) (by omega) dL_watches_791 dL_watches_792 (by decide) (fun c_36 => ?_) (fun c_36 => ?_)
                                        · skip
                                          have e9 : y = rmf K we9 k mo9 (hdr K we9 mo9 k) (t + 1) := wrm_eq q3 q2 (by omega)
                                          have hl := lv_cast (l2 := [(0, .ref (ad 0)), (1, .int (g)), (2, .ref (ad 27)), (3, .ref (ad 28)), (4, .ref (ad 29)), (5, .ref (ad 30)), (6, .ref (ad 32)), (7, .ref (ad 33)), (8, .ref (ad 34)), (9, .ref (ad 35)), (10, .ref (ad 36)), (11, .ref (ad 37)), (12, .ref (ad 38)), (13, .int (nI (mo9))), (14, .int (nI (we9))), (15, .int (bB (true))), (16, .ref (ad (32 + (we9)))), (18, .int (nI (k))), (19, .int (nI (rch K (we9) (k)))), (17, .int (nI (rmf K we9 k mo9 (hdr K we9 mo9 k) (t + 1)))), (20, .int (nI (t)))]) hl (by rw [show nI (y) = nI (rmf K we9 k mo9 (hdr K we9 mo9 k) (t + 1)) from congrArg nI e9])
                                          refine lv_iinc (v := nI (t + 1)) (lv' := [(20, .int (nI (t + 1))), (0, .ref (ad 0)), (1, .int (g)), (2, .ref (ad 27)), (3, .ref (ad 28)), (4, .ref (ad 29)), (5, .ref (ad 30)), (6, .ref (ad 32)), (7, .ref (ad 33)), (8, .ref (ad 34)), (9, .ref (ad 35)), (10, .ref (ad 36)), (11, .ref (ad 37)), (12, .ref (ad 38)), (13, .int (nI (mo9))), (14, .int (nI (we9))), (15, .int (bB (true))), (16, .ref (ad (32 + (we9)))), (18, .int (nI (k))), (19, .int (nI (rch K (we9) (k)))), (17, .int (nI (rmf K we9 k mo9 (hdr K we9 mo9 k) (t + 1))))]) hx hb dL_watches_832 hl (k := 20) rfl (zn_inc (t)) (by decide) rfl (fun ls hl => ?_)
                                          refine lv_goto (tgt := 773) hx hb dL_watches_835 (by decide) ?_
                                          exact ih773 (t + 1) (by omega) (by omega) _ (lv_sub hl [1, 2, 3, 4, 5, 6, 7, 8, 9, 10, 11, 12, 13, 14, 15, 16, 17, 18, 19, 20, 0] rfl)
                                        · skip
                                          refine lv_aload hx hb dL_watches_795 (lv_at hl 11 rfl) ?_
                                          refine lv_iload hx hb dL_watches_797 (lv_at hl 20 rfl) ?_
                                          refine zl_ld hx hb hK hP 37 (by decide) 1 rfl rfl (by decide) (i := t) (by omega) (v := u9 (t)) rfl dL_watches_799 ?_
                                          refine zt_l (y := lN (dd K k (t))) (hrw (t) (by omega)) ?_
                                          refine lv_iload hx hb dL_watches_800 (lv_at hl 19 rfl) ?_
                                          refine zr_i2l hx hb (by omega) dL_watches_802 ?_
                                          refine lv_aload hx hb dL_watches_803 (lv_at hl 12 rfl) ?_
                                          refine lv_iload hx hb dL_watches_805 (lv_at hl 20 rfl) ?_
                                          refine zl_ld hx hb hK hP 38 (by decide) 1 rfl rfl (by decide) (i := t) (by omega) (v := on2 (t)) rfl dL_watches_807 ?_
                                          refine zt_l (y := lN (onf K we9 k mo9 (t))) (hon (t) (by omega)) ?_
                                          refine zr_lmul hx hb dL_watches_808 ?_
                                          refine zr_ladd hx hb dL_watches_809 ?_
                                          refine lv_ldc2 (own := RL) (v := 1000) hx hb hown (hts (.constantLong RL 130 (1000)) (by decide +kernel)) dL_watches_810 ?_
                                          refine zt_l (y := lN 1000) rfl ?_
                                          refine lv_aload hx hb dL_watches_813 (lv_at hl 4 rfl) ?_
                                          refine lv_iconst (v := nI 3) hx hb dL_watches_815 (by decide) ?_
                                          refine lv_iload hx hb dL_watches_816 (lv_at hl 17 rfl) ?_
                                          refine zr_iadd hx hb dL_watches_818 ?_
                                          have f_37 := hI.inv.lm (k)
                                          refine zi_ld hx hb hK hP 29 (by decide) 0 rfl rfl (by decide) (i := 3 + (k)) (by omega) (v := nI (K 7 (k))) (fv_2 (by omega)) dL_watches_819 ?_
                                          refine zr_i2l hx hb (by omega) dL_watches_820 ?_
                                          refine zr_lmul hx hb dL_watches_821 ?_
                                          refine zbL_le (tgt := 832) hx hb (by omega) (by omega) dL_watches_822 dL_watches_823 (by decide) (fun c_38 => ?_) (fun c_38 => ?_)
                                          · skip
                                            have e9 : y = rmf K we9 k mo9 (hdr K we9 mo9 k) (t + 1) := wrm_eq q3 q2 (by omega)
                                            have hl := lv_cast (l2 := [(0, .ref (ad 0)), (1, .int (g)), (2, .ref (ad 27)), (3, .ref (ad 28)), (4, .ref (ad 29)), (5, .ref (ad 30)), (6, .ref (ad 32)), (7, .ref (ad 33)), (8, .ref (ad 34)), (9, .ref (ad 35)), (10, .ref (ad 36)), (11, .ref (ad 37)), (12, .ref (ad 38)), (13, .int (nI (mo9))), (14, .int (nI (we9))), (15, .int (bB (true))), (16, .ref (ad (32 + (we9)))), (18, .int (nI (k))), (19, .int (nI (rch K (we9) (k)))), (17, .int (nI (rmf K we9 k mo9 (hdr K we9 mo9 k) (t + 1)))), (20, .int (nI (t)))]) hl (by rw [show nI (y) = nI (rmf K we9 k mo9 (hdr K we9 mo9 k) (t + 1)) from congrArg nI e9])
                                            refine lv_iinc (v := nI (t + 1)) (lv' := [(20, .int (nI (t + 1))), (0, .ref (ad 0)), (1, .int (g)), (2, .ref (ad 27)), (3, .ref (ad 28)), (4, .ref (ad 29)), (5, .ref (ad 30)), (6, .ref (ad 32)), (7, .ref (ad 33)), (8, .ref (ad 34)), (9, .ref (ad 35)), (10, .ref (ad 36)), (11, .ref (ad 37)), (12, .ref (ad 38)), (13, .int (nI (mo9))), (14, .int (nI (we9))), (15, .int (bB (true))), (16, .ref (ad (32 + (we9)))), (18, .int (nI (k))), (19, .int (nI (rch K (we9) (k)))), (17, .int (nI (rmf K we9 k mo9 (hdr K we9 mo9 k) (t + 1))))]) hx hb dL_watches_832 hl (k := 20) rfl (zn_inc (t)) (by decide) rfl (fun ls hl => ?_)
                                            refine lv_goto (tgt := 773) hx hb dL_watches_835 (by decide) ?_
                                            exact ih773 (t + 1) (by omega) (by omega) _ (lv_sub hl [1, 2, 3, 4, 5, 6, 7, 8, 9, 10, 11, 12, 13, 14, 15, 16, 17, 18, 19, 20, 0] rfl)
                                          · skip
                                            have h9 := wrm_lt (x := rmf K we9 k mo9 (hdr K we9 mo9 k) (t)) (y := y) (r := dd K k t) (o := onf K we9 k mo9 t) (L := 1000 * K 7 k) (by omega) (by omega) (by omega)
                                            obtain ⟨y2, rfl⟩ : ∃ y2, y = y2 + 1 := ⟨y - 1, by omega⟩
                                            refine lv_iinc (v := nI (y2)) (lv' := [(17, .int (nI (y2))), (0, .ref (ad 0)), (1, .int (g)), (2, .ref (ad 27)), (3, .ref (ad 28)), (4, .ref (ad 29)), (5, .ref (ad 30)), (6, .ref (ad 32)), (7, .ref (ad 33)), (8, .ref (ad 34)), (9, .ref (ad 35)), (10, .ref (ad 36)), (11, .ref (ad 37)), (12, .ref (ad 38)), (13, .int (nI (mo9))), (14, .int (nI (we9))), (15, .int (bB (true))), (16, .ref (ad (32 + (we9)))), (18, .int (nI (k))), (19, .int (nI (rch K (we9) (k)))), (20, .int (nI (t)))]) hx hb dL_watches_826 hl (k := 19) rfl (zn_dec (y2)) (by decide) rfl (fun ls hl => ?_)
                                            refine lv_goto (tgt := 780) hx hb dL_watches_829 (by decide) ?_
                                            exact ih780 y2 (by omega) (by omega) (by omega) _ (lv_sub hl [1, 2, 3, 4, 5, 6, 7, 8, 9, 10, 11, 12, 13, 14, 15, 16, 17, 18, 19, 0, 20] rfl)
                                  exact lp780 (rmf K we9 k mo9 (hdr K we9 mo9 k) (t) + 1) (rmf K we9 k mo9 (hdr K we9 mo9 k) (t)) (by omega) fwl (Nat.le_refl _) _ (lv_sub hl [0, 1, 2, 3, 4, 5, 6, 7, 8, 9, 10, 11, 12, 13, 14, 15, 16, 17, 18, 19, 20] rfl)
                            exact lp773 (36 - (0) + 1) (0) (by omega) (by omega) _ (lv_sub hl [1, 2, 3, 4, 5, 6, 7, 8, 9, 10, 11, 12, 13, 14, 15, 16, 17, 19, 20, 18, 0] rfl)
                          · skip
                            refine lv_iload hx hb dL_watches_728 (lv_at hl 13 rfl) ?_
                            refine lv_iload hx hb dL_watches_730 (lv_at hl 20 rfl) ?_
                            refine zr_iadd hx hb dL_watches_732 ?_
                            refine lv_bipush (v := nI 36) hx hb dL_watches_733 (by decide) ?_
                            refine zb_ge (tgt := 770) hx hb (by omega) (by omega) dL_watches_735 (by decide) (fun c_39 => ?_) (fun c_39 => ?_)
                            · skip
                              have q_40 : d = rl5 (rch K we9 k) mo9 := by omega
                              subst q_40
                              refine lv_iconst (v := nI 0) hx hb dL_watches_770 (by decide) ?_
                              refine lv_istore (lv' := [(20, .int (nI (0))), (0, .ref (ad 0)), (1, .int (g)), (2, .ref (ad 27)), (3, .ref (ad 28)), (4, .ref (ad 29)), (5, .ref (ad 30)), (6, .ref (ad 32)), (7, .ref (ad 33)), (8, .ref (ad 34)), (9, .ref (ad 35)), (10, .ref (ad 36)), (11, .ref (ad 37)), (12, .ref (ad 38)), (13, .int (nI (mo9))), (14, .int (nI (we9))), (15, .int (bB (true))), (16, .ref (ad (32 + (we9)))), (17, .int (nI (hdr K we9 mo9 (k)))), (18, .int (nI (k))), (19, .int (nI (rch K (we9) (k))))]) hx hb dL_watches_771 hl (by decide) rfl (fun ls hl => ?_)
                              have lp773 : ∀ (n9 t : Nat), t ≤ 36 → 36 - t < n9 → ∀ ls : Array Slot, lv_has ls 28 [(0, .ref (ad 0)), (1, .int (g)), (2, .ref (ad 27)), (3, .ref (ad 28)), (4, .ref (ad 29)), (5, .ref (ad 30)), (6, .ref (ad 32)), (7, .ref (ad 33)), (8, .ref (ad 34)), (9, .ref (ad 35)), (10, .ref (ad 36)), (11, .ref (ad 37)), (12, .ref (ad 38)), (13, .int (nI (mo9))), (14, .int (nI (we9))), (15, .int (bB (true))), (16, .ref (ad (32 + (we9)))), (18, .int (nI (k))), (19, .int (nI (rch K (we9) (k)))), (17, .int (nI (rmf K we9 k mo9 (hdr K we9 mo9 k) (t)))), (20, .int (nI (t)))] → W p l e (rmX 4 100) s m args below meth c H locs (2 + 9 * (K 5 0 + 1)) (72 + 54 * (K 5 0 + 1)) Q (F0 m 773 ls []) := by
                                intro n9
                                induction n9 with
                                | zero => intro t q1 q2; omega
                                | succ n9 ih773 =>
                                  intro t q1_773 q2_773 ls hl
                                  have frm := rmf_le K we9 k mo9 (hdr K we9 mo9 k) t
                                  have fon := onf_le hI.inv we9 k mo9 t
                                  have fdd := dd_le hI.inv k t
                                  refine lv_iload hx hb dL_watches_773 (lv_at hl 20 rfl) ?_
                                  refine lv_bipush (v := nI 36) hx hb dL_watches_775 (by decide) ?_
                                  refine zb_ge (tgt := 838) hx hb (by omega) (by omega) dL_watches_777 (by decide) (fun c_41 => ?_) (fun c_41 => ?_)
                                  · skip
                                    have q_42 : t = 36 := by omega
                                    subst q_42
                                    have hl := lv_cast (l2 := [(0, .ref (ad 0)), (1, .int (g)), (2, .ref (ad 27)), (3, .ref (ad 28)), (4, .ref (ad 29)), (5, .ref (ad 30)), (6, .ref (ad 32)), (7, .ref (ad 33)), (8, .ref (ad 34)), (9, .ref (ad 35)), (10, .ref (ad 36)), (11, .ref (ad 37)), (12, .ref (ad 38)), (13, .int (nI (mo9))), (14, .int (nI (we9))), (15, .int (bB (true))), (16, .ref (ad (32 + (we9)))), (18, .int (nI (k))), (19, .int (nI (rch K (we9) (k)))), (17, .int (nI (hdr K we9 mo9 (k + 1)))), (20, .int (nI (36)))]) hl (by rw [show nI (rmf K we9 k mo9 (hdr K we9 mo9 k) (36)) = nI (hdr K we9 mo9 (k + 1)) from congrArg nI (hdr_s K we9 mo9 k hbq.2)])
                                    refine lv_iinc (v := nI (k + 1)) (lv' := [(18, .int (nI (k + 1))), (0, .ref (ad 0)), (1, .int (g)), (2, .ref (ad 27)), (3, .ref (ad 28)), (4, .ref (ad 29)), (5, .ref (ad 30)), (6, .ref (ad 32)), (7, .ref (ad 33)), (8, .ref (ad 34)), (9, .ref (ad 35)), (10, .ref (ad 36)), (11, .ref (ad 37)), (12, .ref (ad 38)), (13, .int (nI (mo9))), (14, .int (nI (we9))), (15, .int (bB (true))), (16, .ref (ad (32 + (we9)))), (19, .int (nI (rch K (we9) (k)))), (17, .int (nI (hdr K we9 mo9 (k + 1)))), (20, .int (nI (36)))]) hx hb dL_watches_838 hl (k := 17) rfl (zn_inc (k)) (by decide) rfl (fun ls hl => ?_)
                                    refine lv_goto (tgt := 648) hx hb dL_watches_841 (by decide) ?_
                                    exact ih648 (k + 1) (by omega) (by omega) (_) (_) _ _ hP hS _ (lv_sub hl [1, 2, 3, 4, 5, 6, 7, 8, 9, 10, 11, 12, 13, 14, 15, 16, 17, 19, 0] rfl)
                                  · skip
                                    have fwl := wrm_le (rmf K we9 k mo9 (hdr K we9 mo9 k) (t)) (dd K k t) (onf K we9 k mo9 t) (1000 * K 7 k)
                                    have lp780 : ∀ (n9 y : Nat), y < n9 → wrm (rmf K we9 k mo9 (hdr K we9 mo9 k) (t)) (dd K k t) (onf K we9 k mo9 t) (1000 * K 7 k) ≤ y → y ≤ rmf K we9 k mo9 (hdr K we9 mo9 k) (t) → ∀ ls : Array Slot, lv_has ls 28 [(0, .ref (ad 0)), (1, .int (g)), (2, .ref (ad 27)), (3, .ref (ad 28)), (4, .ref (ad 29)), (5, .ref (ad 30)), (6, .ref (ad 32)), (7, .ref (ad 33)), (8, .ref (ad 34)), (9, .ref (ad 35)), (10, .ref (ad 36)), (11, .ref (ad 37)), (12, .ref (ad 38)), (13, .int (nI (mo9))), (14, .int (nI (we9))), (15, .int (bB (true))), (16, .ref (ad (32 + (we9)))), (18, .int (nI (k))), (19, .int (nI (rch K (we9) (k)))), (17, .int (nI (y))), (20, .int (nI (t)))] → W p l e (rmX 4 100) s m args below meth c H locs (2 + 9 * (K 5 0 + 1)) (72 + 54 * (K 5 0 + 1)) Q (F0 m 780 ls []) := by
                                      intro n9
                                      induction n9 with
                                      | zero => intro y q1; omega
                                      | succ n9 ih780 =>
                                        intro y q1 q2 q3 ls hl
                                        have fyo : y * onf K we9 k mo9 t ≤ 1000 * 1000 := Nat.mul_le_mul (by omega) fon
                                        refine lv_iload hx hb dL_watches_780 (lv_at hl 19 rfl) ?_
                                        refine zb_0le (tgt := 832) hx hb (by omega) dL_watches_782 (by decide) (fun c_43 => ?_) (fun c_43 => ?_)
                                        · skip
                                          have e9 : y = rmf K we9 k mo9 (hdr K we9 mo9 k) (t + 1) := wrm_eq q3 q2 (by omega)
                                          have hl := lv_cast (l2 := [(0, .ref (ad 0)), (1, .int (g)), (2, .ref (ad 27)), (3, .ref (ad 28)), (4, .ref (ad 29)), (5, .ref (ad 30)), (6, .ref (ad 32)), (7, .ref (ad 33)), (8, .ref (ad 34)), (9, .ref (ad 35)), (10, .ref (ad 36)), (11, .ref (ad 37)), (12, .ref (ad 38)), (13, .int (nI (mo9))), (14, .int (nI (we9))), (15, .int (bB (true))), (16, .ref (ad (32 + (we9)))), (18, .int (nI (k))), (19, .int (nI (rch K (we9) (k)))), (17, .int (nI (rmf K we9 k mo9 (hdr K we9 mo9 k) (t + 1)))), (20, .int (nI (t)))]) hl (by rw [show nI (y) = nI (rmf K we9 k mo9 (hdr K we9 mo9 k) (t + 1)) from congrArg nI e9])
                                          refine lv_iinc (v := nI (t + 1)) (lv' := [(20, .int (nI (t + 1))), (0, .ref (ad 0)), (1, .int (g)), (2, .ref (ad 27)), (3, .ref (ad 28)), (4, .ref (ad 29)), (5, .ref (ad 30)), (6, .ref (ad 32)), (7, .ref (ad 33)), (8, .ref (ad 34)), (9, .ref (ad 35)), (10, .ref (ad 36)), (11, .ref (ad 37)), (12, .ref (ad 38)), (13, .int (nI (mo9))), (14, .int (nI (we9))), (15, .int (bB (true))), (16, .ref (ad (32 + (we9)))), (18, .int (nI (k))), (19, .int (nI (rch K (we9) (k)))), (17, .int (nI (rmf K we9 k mo9 (hdr K we9 mo9 k) (t + 1))))]) hx hb dL_watches_832 hl (k := 20) rfl (zn_inc (t)) (by decide) rfl (fun ls hl => ?_)
                                          refine lv_goto (tgt := 773) hx hb dL_watches_835 (by decide) ?_
                                          exact ih773 (t + 1) (by omega) (by omega) _ (lv_sub hl [1, 2, 3, 4, 5, 6, 7, 8, 9, 10, 11, 12, 13, 14, 15, 16, 17, 18, 19, 20, 0] rfl)
                                        · skip
                                          refine lv_aload hx hb dL_watches_785 (lv_at hl 12 rfl) ?_
                                          refine lv_iload hx hb dL_watches_787 (lv_at hl 20 rfl) ?_
                                          refine zl_ld hx hb hK hP 38 (by decide) 1 rfl rfl (by decide) (i := t) (by omega) (v := on2 (t)) rfl dL_watches_789 ?_
                                          refine zt_l (y := lN (onf K we9 k mo9 (t))) (hon (t) (by omega)) ?_
                                          refine lv_lconst (v := lN 0) hx hb dL_watches_790 (by decide) ?_
                                          refine zbL_le (tgt := 832) hx hb (by omega) (by omega) dL_watches_791 dL_watches_792 (by decide) (fun c_44 => ?_) (fun c_44 => ?_)
                                          · skip
                                            have e9 : y = rmf K we9 k mo9 (hdr K we9 mo9 k) (t + 1) := wrm_eq q3 q2 (by omega)
                                            have hl := lv_cast (l2 := [(0, .ref (ad 0)), (1, .int (g)), (2, .ref (ad 27)), (3, .ref (ad 28)), (4, .ref (ad 29)), (5, .ref (ad 30)), (6, .ref (ad 32)), (7, .ref (ad 33)), (8, .ref (ad 34)), (9, .ref (ad 35)), (10, .ref (ad 36)), (11, .ref (ad 37)), (12, .ref (ad 38)), (13, .int (nI (mo9))), (14, .int (nI (we9))), (15, .int (bB (true))), (16, .ref (ad (32 + (we9)))), (18, .int (nI (k))), (19, .int (nI (rch K (we9) (k)))), (17, .int (nI (rmf K we9 k mo9 (hdr K we9 mo9 k) (t + 1)))), (20, .int (nI (t)))]) hl (by rw [show nI (y) = nI (rmf K we9 k mo9 (hdr K we9 mo9 k) (t + 1)) from congrArg nI e9])
                                            refine lv_iinc (v := nI (t + 1)) (lv' := [(20, .int (nI (t + 1))), (0, .ref (ad 0)), (1, .int (g)), (2, .ref (ad 27)), (3, .ref (ad 28)), (4, .ref (ad 29)), (5, .ref (ad 30)), (6, .ref (ad 32)), (7, .ref (ad 33)), (8, .ref (ad 34)), (9, .ref (ad 35)), (10, .ref (ad 36)), (11, .ref (ad 37)), (12, .ref (ad 38)), (13, .int (nI (mo9))), (14, .int (nI (we9))), (15, .int (bB (true))), (16, .ref (ad (32 + (we9)))), (18, .int (nI (k))), (19, .int (nI (rch K (we9) (k)))), (17, .int (nI (rmf K we9 k mo9 (hdr K we9 mo9 k) (t + 1))))]) hx hb dL_watches_832 hl (k := 20) rfl (zn_inc (t)) (by decide) rfl (fun ls hl => ?_)
                                            refine lv_goto (tgt := 773) hx hb dL_watches_835 (by decide) ?_
                                            exact ih773 (t + 1) (by omega) (by omega) _ (lv_sub hl [1, 2, 3, 4, 5, 6, 7, 8, 9, 10, 11, 12, 13, 14, 15, 16, 17, 18, 19, 20, 0] rfl)
                                          · skip
                                            refine lv_aload hx hb dL_watches_795 (lv_at hl 11 rfl) ?_
                                            refine lv_iload hx hb dL_watches_797 (lv_at hl 20 rfl) ?_
                                            refine zl_ld hx hb hK hP 37 (by decide) 1 rfl rfl (by decide) (i := t) (by omega) (v := u9 (t)) rfl dL_watches_799 ?_
                                            refine zt_l (y := lN (dd K k (t))) (hrw (t) (by omega)) ?_
                                            refine lv_iload hx hb dL_watches_800 (lv_at hl 19 rfl) ?_
                                            refine zr_i2l hx hb (by omega) dL_watches_802 ?_
                                            refine lv_aload hx hb dL_watches_803 (lv_at hl 12 rfl) ?_
                                            refine lv_iload hx hb dL_watches_805 (lv_at hl 20 rfl) ?_
                                            refine zl_ld hx hb hK hP 38 (by decide) 1 rfl rfl (by decide) (i := t) (by omega) (v := on2 (t)) rfl dL_watches_807 ?_
                                            refine zt_l (y := lN (onf K we9 k mo9 (t))) (hon (t) (by omega)) ?_
                                            refine zr_lmul hx hb dL_watches_808 ?_
                                            refine zr_ladd hx hb dL_watches_809 ?_
                                            refine lv_ldc2 (own := RL) (v := 1000) hx hb hown (hts (.constantLong RL 130 (1000)) (by decide +kernel)) dL_watches_810 ?_
                                            refine zt_l (y := lN 1000) rfl ?_
                                            refine lv_aload hx hb dL_watches_813 (lv_at hl 4 rfl) ?_
                                            refine lv_iconst (v := nI 3) hx hb dL_watches_815 (by decide) ?_
                                            refine lv_iload hx hb dL_watches_816 (lv_at hl 17 rfl) ?_
                                            refine zr_iadd hx hb dL_watches_818 ?_
                                            have f_45 := hI.inv.lm (k)
                                            refine zi_ld hx hb hK hP 29 (by decide) 0 rfl rfl (by decide) (i := 3 + (k)) (by omega) (v := nI (K 7 (k))) (fv_2 (by omega)) dL_watches_819 ?_
                                            refine zr_i2l hx hb (by omega) dL_watches_820 ?_
                                            refine zr_lmul hx hb dL_watches_821 ?_
                                            refine zbL_le (tgt := 832) hx hb (by omega) (by omega) dL_watches_822 dL_watches_823 (by decide) (fun c_46 => ?_) (fun c_46 => ?_)
                                            · skip
                                              have e9 : y = rmf K we9 k mo9 (hdr K we9 mo9 k) (t + 1) := wrm_eq q3 q2 (by omega)
                                              have hl := lv_cast (l2 := [(0, .ref (ad 0)), (1, .int (g)), (2, .ref (ad 27)), (3, .ref (ad 28)), (4, .ref (ad 29)), (5, .ref (ad 30)), (6, .ref (ad 32)), (7, .ref (ad 33)), (8, .ref (ad 34)), (9, .ref (ad 35)), (10, .ref (ad 36)), (11, .ref (ad 37)), (12, .ref (ad 38)), (13, .int (nI (mo9))), (14, .int (nI (we9))), (15, .int (bB (true))), (16, .ref (ad (32 + (we9)))), (18, .int (nI (k))), (19, .int (nI (rch K (we9) (k)))), (17, .int (nI (rmf K we9 k mo9 (hdr K we9 mo9 k) (t + 1)))), (20, .int (nI (t)))]) hl (by rw [show nI (y) = nI (rmf K we9 k mo9 (hdr K we9 mo9 k) (t + 1)) from congrArg nI e9])
                                              refine lv_iinc (v := nI (t + 1)) (lv' := [(20, .int (nI (t + 1))), (0, .ref (ad 0)), (1, .int (g)), (2, .ref (ad 27)), (3, .ref (ad 28)), (4, .ref (ad 29)), (5, .ref (ad 30)), (6, .ref (ad 32)), (7, .ref (ad 33)), (8, .ref (ad 34)), (9, .ref (ad 35)), (10, .ref (ad 36)), (11, .ref (ad 37)), (12, .ref (ad 38)), (13, .int (nI (mo9))), (14, .int (nI (we9))), (15, .int (bB (true))), (16, .ref (ad (32 + (we9)))), (18, .int (nI (k))), (19, .int (nI (rch K (we9) (k)))), (17, .int (nI (rmf K we9 k mo9 (hdr K we9 mo9 k) (t + 1))))]) hx hb dL_watches_832 hl (k := 20) rfl (zn_inc (t)) (by decide) rfl (fun ls hl => ?_)
                                              refine lv_goto (tgt := 773) hx hb dL_watches_835 (by decide) ?_
                                              exact ih773 (t + 1) (by omega) (by omega) _ (lv_sub hl [1, 2, 3, 4, 5, 6, 7, 8, 9, 10, 11, 12, 13, 14, 15, 16, 17, 18, 19, 20, 0] rfl)
                                            · skip
                                              have h9 := wrm_lt (x := rmf K we9 k mo9 (hdr K we9 mo9 k) (t)) (y := y) (r := dd K k t) (o := onf K we9 k mo9 t) (L := 1000 * K 7 k) (by omega) (by omega) (by omega)
                                              obtain ⟨y2, rfl⟩ : ∃ y2, y = y2 + 1 := ⟨y - 1, by omega⟩
                                              refine lv_iinc (v := nI (y2)) (lv' := [(17, .int (nI (y2))), (0, .ref (ad 0)), (1, .int (g)), (2, .ref (ad 27)), (3, .ref (ad 28)), (4, .ref (ad 29)), (5, .ref (ad 30)), (6, .ref (ad 32)), (7, .ref (ad 33)), (8, .ref (ad 34)), (9, .ref (ad 35)), (10, .ref (ad 36)), (11, .ref (ad 37)), (12, .ref (ad 38)), (13, .int (nI (mo9))), (14, .int (nI (we9))), (15, .int (bB (true))), (16, .ref (ad (32 + (we9)))), (18, .int (nI (k))), (19, .int (nI (rch K (we9) (k)))), (20, .int (nI (t)))]) hx hb dL_watches_826 hl (k := 19) rfl (zn_dec (y2)) (by decide) rfl (fun ls hl => ?_)
                                              refine lv_goto (tgt := 780) hx hb dL_watches_829 (by decide) ?_
                                              exact ih780 y2 (by omega) (by omega) (by omega) _ (lv_sub hl [1, 2, 3, 4, 5, 6, 7, 8, 9, 10, 11, 12, 13, 14, 15, 16, 17, 18, 19, 0, 20] rfl)
                                    exact lp780 (rmf K we9 k mo9 (hdr K we9 mo9 k) (t) + 1) (rmf K we9 k mo9 (hdr K we9 mo9 k) (t)) (by omega) fwl (Nat.le_refl _) _ (lv_sub hl [0, 1, 2, 3, 4, 5, 6, 7, 8, 9, 10, 11, 12, 13, 14, 15, 16, 17, 18, 19, 20] rfl)
                              exact lp773 (36 - (0) + 1) (0) (by omega) (by omega) _ (lv_sub hl [1, 2, 3, 4, 5, 6, 7, 8, 9, 10, 11, 12, 13, 14, 15, 16, 17, 19, 20, 18, 0] rfl)
                            · skip
                              refine lv_iload hx hb dL_watches_738 (lv_at hl 19 rfl) ?_
                              refine lv_iconst (v := nI 5) hx hb dL_watches_740 (by decide) ?_
                              refine zb_ge (tgt := 770) hx hb (by omega) (by omega) dL_watches_741 (by decide) (fun c_47 => ?_) (fun c_47 => ?_)
                              · skip
                                have q_48 : d = rl5 (rch K we9 k) mo9 := by omega
                                subst q_48
                                refine lv_iconst (v := nI 0) hx hb dL_watches_770 (by decide) ?_
                                refine lv_istore (lv' := [(20, .int (nI (0))), (0, .ref (ad 0)), (1, .int (g)), (2, .ref (ad 27)), (3, .ref (ad 28)), (4, .ref (ad 29)), (5, .ref (ad 30)), (6, .ref (ad 32)), (7, .ref (ad 33)), (8, .ref (ad 34)), (9, .ref (ad 35)), (10, .ref (ad 36)), (11, .ref (ad 37)), (12, .ref (ad 38)), (13, .int (nI (mo9))), (14, .int (nI (we9))), (15, .int (bB (true))), (16, .ref (ad (32 + (we9)))), (17, .int (nI (hdr K we9 mo9 (k)))), (18, .int (nI (k))), (19, .int (nI (rch K (we9) (k))))]) hx hb dL_watches_771 hl (by decide) rfl (fun ls hl => ?_)
                                have lp773 : ∀ (n9 t : Nat), t ≤ 36 → 36 - t < n9 → ∀ ls : Array Slot, lv_has ls 28 [(0, .ref (ad 0)), (1, .int (g)), (2, .ref (ad 27)), (3, .ref (ad 28)), (4, .ref (ad 29)), (5, .ref (ad 30)), (6, .ref (ad 32)), (7, .ref (ad 33)), (8, .ref (ad 34)), (9, .ref (ad 35)), (10, .ref (ad 36)), (11, .ref (ad 37)), (12, .ref (ad 38)), (13, .int (nI (mo9))), (14, .int (nI (we9))), (15, .int (bB (true))), (16, .ref (ad (32 + (we9)))), (18, .int (nI (k))), (19, .int (nI (rch K (we9) (k)))), (17, .int (nI (rmf K we9 k mo9 (hdr K we9 mo9 k) (t)))), (20, .int (nI (t)))] → W p l e (rmX 4 100) s m args below meth c H locs (2 + 9 * (K 5 0 + 1)) (72 + 54 * (K 5 0 + 1)) Q (F0 m 773 ls []) := by
                                  intro n9
                                  induction n9 with
                                  | zero => intro t q1 q2; omega
                                  | succ n9 ih773 =>
                                    intro t q1_773 q2_773 ls hl
                                    have frm := rmf_le K we9 k mo9 (hdr K we9 mo9 k) t
                                    have fon := onf_le hI.inv we9 k mo9 t
                                    have fdd := dd_le hI.inv k t
                                    refine lv_iload hx hb dL_watches_773 (lv_at hl 20 rfl) ?_
                                    refine lv_bipush (v := nI 36) hx hb dL_watches_775 (by decide) ?_
                                    refine zb_ge (tgt := 838) hx hb (by omega) (by omega) dL_watches_777 (by decide) (fun c_49 => ?_) (fun c_49 => ?_)
                                    · skip
                                      have q_50 : t = 36 := by omega
                                      subst q_50
                                      have hl := lv_cast (l2 := [(0, .ref (ad 0)), (1, .int (g)), (2, .ref (ad 27)), (3, .ref (ad 28)), (4, .ref (ad 29)), (5, .ref (ad 30)), (6, .ref (ad 32)), (7, .ref (ad 33)), (8, .ref (ad 34)), (9, .ref (ad 35)), (10, .ref (ad 36)), (11, .ref (ad 37)), (12, .ref (ad 38)), (13, .int (nI (mo9))), (14, .int (nI (we9))), (15, .int (bB (true))), (16, .ref (ad (32 + (we9)))), (18, .int (nI (k))), (19, .int (nI (rch K (we9) (k)))), (17, .int (nI (hdr K we9 mo9 (k + 1)))), (20, .int (nI (36)))]) hl (by rw [show nI (rmf K we9 k mo9 (hdr K we9 mo9 k) (36)) = nI (hdr K we9 mo9 (k + 1)) from congrArg nI (hdr_s K we9 mo9 k hbq.2)])
                                      refine lv_iinc (v := nI (k + 1)) (lv' := [(18, .int (nI (k + 1))), (0, .ref (ad 0)), (1, .int (g)), (2, .ref (ad 27)), (3, .ref (ad 28)), (4, .ref (ad 29)), (5, .ref (ad 30)), (6, .ref (ad 32)), (7, .ref (ad 33)), (8, .ref (ad 34)), (9, .ref (ad 35)), (10, .ref (ad 36)), (11, .ref (ad 37)), (12, .ref (ad 38)), (13, .int (nI (mo9))), (14, .int (nI (we9))), (15, .int (bB (true))), (16, .ref (ad (32 + (we9)))), (19, .int (nI (rch K (we9) (k)))), (17, .int (nI (hdr K we9 mo9 (k + 1)))), (20, .int (nI (36)))]) hx hb dL_watches_838 hl (k := 17) rfl (zn_inc (k)) (by decide) rfl (fun ls hl => ?_)
                                      refine lv_goto (tgt := 648) hx hb dL_watches_841 (by decide) ?_
                                      exact ih648 (k + 1) (by omega) (by omega) (_) (_) _ _ hP hS _ (lv_sub hl [1, 2, 3, 4, 5, 6, 7, 8, 9, 10, 11, 12, 13, 14, 15, 16, 17, 19, 0] rfl)
                                    · skip
                                      have fwl := wrm_le (rmf K we9 k mo9 (hdr K we9 mo9 k) (t)) (dd K k t) (onf K we9 k mo9 t) (1000 * K 7 k)
                                      have lp780 : ∀ (n9 y : Nat), y < n9 → wrm (rmf K we9 k mo9 (hdr K we9 mo9 k) (t)) (dd K k t) (onf K we9 k mo9 t) (1000 * K 7 k) ≤ y → y ≤ rmf K we9 k mo9 (hdr K we9 mo9 k) (t) → ∀ ls : Array Slot, lv_has ls 28 [(0, .ref (ad 0)), (1, .int (g)), (2, .ref (ad 27)), (3, .ref (ad 28)), (4, .ref (ad 29)), (5, .ref (ad 30)), (6, .ref (ad 32)), (7, .ref (ad 33)), (8, .ref (ad 34)), (9, .ref (ad 35)), (10, .ref (ad 36)), (11, .ref (ad 37)), (12, .ref (ad 38)), (13, .int (nI (mo9))), (14, .int (nI (we9))), (15, .int (bB (true))), (16, .ref (ad (32 + (we9)))), (18, .int (nI (k))), (19, .int (nI (rch K (we9) (k)))), (17, .int (nI (y))), (20, .int (nI (t)))] → W p l e (rmX 4 100) s m args below meth c H locs (2 + 9 * (K 5 0 + 1)) (72 + 54 * (K 5 0 + 1)) Q (F0 m 780 ls []) := by
                                        intro n9
                                        induction n9 with
                                        | zero => intro y q1; omega
                                        | succ n9 ih780 =>
                                          intro y q1 q2 q3 ls hl
                                          have fyo : y * onf K we9 k mo9 t ≤ 1000 * 1000 := Nat.mul_le_mul (by omega) fon
                                          refine lv_iload hx hb dL_watches_780 (lv_at hl 19 rfl) ?_
                                          refine zb_0le (tgt := 832) hx hb (by omega) dL_watches_782 (by decide) (fun c_51 => ?_) (fun c_51 => ?_)
                                          · skip
                                            have e9 : y = rmf K we9 k mo9 (hdr K we9 mo9 k) (t + 1) := wrm_eq q3 q2 (by omega)
                                            have hl := lv_cast (l2 := [(0, .ref (ad 0)), (1, .int (g)), (2, .ref (ad 27)), (3, .ref (ad 28)), (4, .ref (ad 29)), (5, .ref (ad 30)), (6, .ref (ad 32)), (7, .ref (ad 33)), (8, .ref (ad 34)), (9, .ref (ad 35)), (10, .ref (ad 36)), (11, .ref (ad 37)), (12, .ref (ad 38)), (13, .int (nI (mo9))), (14, .int (nI (we9))), (15, .int (bB (true))), (16, .ref (ad (32 + (we9)))), (18, .int (nI (k))), (19, .int (nI (rch K (we9) (k)))), (17, .int (nI (rmf K we9 k mo9 (hdr K we9 mo9 k) (t + 1)))), (20, .int (nI (t)))]) hl (by rw [show nI (y) = nI (rmf K we9 k mo9 (hdr K we9 mo9 k) (t + 1)) from congrArg nI e9])
                                            refine lv_iinc (v := nI (t + 1)) (lv' := [(20, .int (nI (t + 1))), (0, .ref (ad 0)), (1, .int (g)), (2, .ref (ad 27)), (3, .ref (ad 28)), (4, .ref (ad 29)), (5, .ref (ad 30)), (6, .ref (ad 32)), (7, .ref (ad 33)), (8, .ref (ad 34)), (9, .ref (ad 35)), (10, .ref (ad 36)), (11, .ref (ad 37)), (12, .ref (ad 38)), (13, .int (nI (mo9))), (14, .int (nI (we9))), (15, .int (bB (true))), (16, .ref (ad (32 + (we9)))), (18, .int (nI (k))), (19, .int (nI (rch K (we9) (k)))), (17, .int (nI (rmf K we9 k mo9 (hdr K we9 mo9 k) (t + 1))))]) hx hb dL_watches_832 hl (k := 20) rfl (zn_inc (t)) (by decide) rfl (fun ls hl => ?_)
                                            refine lv_goto (tgt := 773) hx hb dL_watches_835 (by decide) ?_
                                            exact ih773 (t + 1) (by omega) (by omega) _ (lv_sub hl [1, 2, 3, 4, 5, 6, 7, 8, 9, 10, 11, 12, 13, 14, 15, 16, 17, 18, 19, 20, 0] rfl)
                                          · skip
                                            refine lv_aload hx hb dL_watches_785 (lv_at hl 12 rfl) ?_
                                            refine lv_iload hx hb dL_watches_787 (lv_at hl 20 rfl) ?_
                                            refine zl_ld hx hb hK hP 38 (by decide) 1 rfl rfl (by decide) (i := t) (by omega) (v := on2 (t)) rfl dL_watches_789 ?_
                                            refine zt_l (y := lN (onf K we9 k mo9 (t))) (hon (t) (by omega)) ?_
                                            refine lv_lconst (v := lN 0) hx hb dL_watches_790 (by decide) ?_
                                            refine zbL_le (tgt := 832) hx hb (by omega) (by omega) dL_watches_791 dL_watches_792 (by decide) (fun c_52 => ?_) (fun c_52 => ?_)
                                            · skip
                                              have e9 : y = rmf K we9 k mo9 (hdr K we9 mo9 k) (t + 1) := wrm_eq q3 q2 (by omega)
                                              have hl := lv_cast (l2 := [(0, .ref (ad 0)), (1, .int (g)), (2, .ref (ad 27)), (3, .ref (ad 28)), (4, .ref (ad 29)), (5, .ref (ad 30)), (6, .ref (ad 32)), (7, .ref (ad 33)), (8, .ref (ad 34)), (9, .ref (ad 35)), (10, .ref (ad 36)), (11, .ref (ad 37)), (12, .ref (ad 38)), (13, .int (nI (mo9))), (14, .int (nI (we9))), (15, .int (bB (true))), (16, .ref (ad (32 + (we9)))), (18, .int (nI (k))), (19, .int (nI (rch K (we9) (k)))), (17, .int (nI (rmf K we9 k mo9 (hdr K we9 mo9 k) (t + 1)))), (20, .int (nI (t)))]) hl (by rw [show nI (y) = nI (rmf K we9 k mo9 (hdr K we9 mo9 k) (t + 1)) from congrArg nI e9])
                                              refine lv_iinc (v := nI (t + 1)) (lv' := [(20, .int (nI (t + 1))), (0, .ref (ad 0)), (1, .int (g)), (2, .ref (ad 27)), (3, .ref (ad 28)), (4, .ref (ad 29)), (5, .ref (ad 30)), (6, .ref (ad 32)), (7, .ref (ad 33)), (8, .ref (ad 34)), (9, .ref (ad 35)), (10, .ref (ad 36)), (11, .ref (ad 37)), (12, .ref (ad 38)), (13, .int (nI (mo9))), (14, .int (nI (we9))), (15, .int (bB (true))), (16, .ref (ad (32 + (we9)))), (18, .int (nI (k))), (19, .int (nI (rch K (we9) (k)))), (17, .int (nI (rmf K we9 k mo9 (hdr K we9 mo9 k) (t + 1))))]) hx hb dL_watches_832 hl (k := 20) rfl (zn_inc (t)) (by decide) rfl (fun ls hl => ?_)
                                              refine lv_goto (tgt := 773) hx hb dL_watches_835 (by decide) ?_
                                              exact ih773 (t + 1) (by omega) (by omega) _ (lv_sub hl [1, 2, 3, 4, 5, 6, 7, 8, 9, 10, 11, 12, 13, 14, 15, 16, 17, 18, 19, 20, 0] rfl)
                                            · skip
                                              refine lv_aload hx hb dL_watches_795 (lv_at hl 11 rfl) ?_
                                              refine lv_iload hx hb dL_watches_797 (lv_at hl 20 rfl) ?_
                                              refine zl_ld hx hb hK hP 37 (by decide) 1 rfl rfl (by decide) (i := t) (by omega) (v := u9 (t)) rfl dL_watches_799 ?_
                                              refine zt_l (y := lN (dd K k (t))) (hrw (t) (by omega)) ?_
                                              refine lv_iload hx hb dL_watches_800 (lv_at hl 19 rfl) ?_
                                              refine zr_i2l hx hb (by omega) dL_watches_802 ?_
                                              refine lv_aload hx hb dL_watches_803 (lv_at hl 12 rfl) ?_
                                              refine lv_iload hx hb dL_watches_805 (lv_at hl 20 rfl) ?_
                                              refine zl_ld hx hb hK hP 38 (by decide) 1 rfl rfl (by decide) (i := t) (by omega) (v := on2 (t)) rfl dL_watches_807 ?_
                                              refine zt_l (y := lN (onf K we9 k mo9 (t))) (hon (t) (by omega)) ?_
                                              refine zr_lmul hx hb dL_watches_808 ?_
                                              refine zr_ladd hx hb dL_watches_809 ?_
                                              refine lv_ldc2 (own := RL) (v := 1000) hx hb hown (hts (.constantLong RL 130 (1000)) (by decide +kernel)) dL_watches_810 ?_
                                              refine zt_l (y := lN 1000) rfl ?_
                                              refine lv_aload hx hb dL_watches_813 (lv_at hl 4 rfl) ?_
                                              refine lv_iconst (v := nI 3) hx hb dL_watches_815 (by decide) ?_
                                              refine lv_iload hx hb dL_watches_816 (lv_at hl 17 rfl) ?_
                                              refine zr_iadd hx hb dL_watches_818 ?_
                                              have f_53 := hI.inv.lm (k)
                                              refine zi_ld hx hb hK hP 29 (by decide) 0 rfl rfl (by decide) (i := 3 + (k)) (by omega) (v := nI (K 7 (k))) (fv_2 (by omega)) dL_watches_819 ?_
                                              refine zr_i2l hx hb (by omega) dL_watches_820 ?_
                                              refine zr_lmul hx hb dL_watches_821 ?_
                                              refine zbL_le (tgt := 832) hx hb (by omega) (by omega) dL_watches_822 dL_watches_823 (by decide) (fun c_54 => ?_) (fun c_54 => ?_)
                                              · skip
                                                have e9 : y = rmf K we9 k mo9 (hdr K we9 mo9 k) (t + 1) := wrm_eq q3 q2 (by omega)
                                                have hl := lv_cast (l2 := [(0, .ref (ad 0)), (1, .int (g)), (2, .ref (ad 27)), (3, .ref (ad 28)), (4, .ref (ad 29)), (5, .ref (ad 30)), (6, .ref (ad 32)), (7, .ref (ad 33)), (8, .ref (ad 34)), (9, .ref (ad 35)), (10, .ref (ad 36)), (11, .ref (ad 37)), (12, .ref (ad 38)), (13, .int (nI (mo9))), (14, .int (nI (we9))), (15, .int (bB (true))), (16, .ref (ad (32 + (we9)))), (18, .int (nI (k))), (19, .int (nI (rch K (we9) (k)))), (17, .int (nI (rmf K we9 k mo9 (hdr K we9 mo9 k) (t + 1)))), (20, .int (nI (t)))]) hl (by rw [show nI (y) = nI (rmf K we9 k mo9 (hdr K we9 mo9 k) (t + 1)) from congrArg nI e9])
                                                refine lv_iinc (v := nI (t + 1)) (lv' := [(20, .int (nI (t + 1))), (0, .ref (ad 0)), (1, .int (g)), (2, .ref (ad 27)), (3, .ref (ad 28)), (4, .ref (ad 29)), (5, .ref (ad 30)), (6, .ref (ad 32)), (7, .ref (ad 33)), (8, .ref (ad 34)), (9, .ref (ad 35)), (10, .ref (ad 36)), (11, .ref (ad 37)), (12, .ref (ad 38)), (13, .int (nI (mo9))), (14, .int (nI (we9))), (15, .int (bB (true))), (16, .ref (ad (32 + (we9)))), (18, .int (nI (k))), (19, .int (nI (rch K (we9) (k)))), (17, .int (nI (rmf K we9 k mo9 (hdr K we9 mo9 k) (t + 1))))]) hx hb dL_watches_832 hl (k := 20) rfl (zn_inc (t)) (by decide) rfl (fun ls hl => ?_)
                                                refine lv_goto (tgt := 773) hx hb dL_watches_835 (by decide) ?_
                                                exact ih773 (t + 1) (by omega) (by omega) _ (lv_sub hl [1, 2, 3, 4, 5, 6, 7, 8, 9, 10, 11, 12, 13, 14, 15, 16, 17, 18, 19, 20, 0] rfl)
                                              · skip
                                                have h9 := wrm_lt (x := rmf K we9 k mo9 (hdr K we9 mo9 k) (t)) (y := y) (r := dd K k t) (o := onf K we9 k mo9 t) (L := 1000 * K 7 k) (by omega) (by omega) (by omega)
                                                obtain ⟨y2, rfl⟩ : ∃ y2, y = y2 + 1 := ⟨y - 1, by omega⟩
                                                refine lv_iinc (v := nI (y2)) (lv' := [(17, .int (nI (y2))), (0, .ref (ad 0)), (1, .int (g)), (2, .ref (ad 27)), (3, .ref (ad 28)), (4, .ref (ad 29)), (5, .ref (ad 30)), (6, .ref (ad 32)), (7, .ref (ad 33)), (8, .ref (ad 34)), (9, .ref (ad 35)), (10, .ref (ad 36)), (11, .ref (ad 37)), (12, .ref (ad 38)), (13, .int (nI (mo9))), (14, .int (nI (we9))), (15, .int (bB (true))), (16, .ref (ad (32 + (we9)))), (18, .int (nI (k))), (19, .int (nI (rch K (we9) (k)))), (20, .int (nI (t)))]) hx hb dL_watches_826 hl (k := 19) rfl (zn_dec (y2)) (by decide) rfl (fun ls hl => ?_)
                                                refine lv_goto (tgt := 780) hx hb dL_watches_829 (by decide) ?_
                                                exact ih780 y2 (by omega) (by omega) (by omega) _ (lv_sub hl [1, 2, 3, 4, 5, 6, 7, 8, 9, 10, 11, 12, 13, 14, 15, 16, 17, 18, 19, 0, 20] rfl)
                                      exact lp780 (rmf K we9 k mo9 (hdr K we9 mo9 k) (t) + 1) (rmf K we9 k mo9 (hdr K we9 mo9 k) (t)) (by omega) fwl (Nat.le_refl _) _ (lv_sub hl [0, 1, 2, 3, 4, 5, 6, 7, 8, 9, 10, 11, 12, 13, 14, 15, 16, 17, 18, 19, 20] rfl)
                                exact lp773 (36 - (0) + 1) (0) (by omega) (by omega) _ (lv_sub hl [1, 2, 3, 4, 5, 6, 7, 8, 9, 10, 11, 12, 13, 14, 15, 16, 17, 19, 20, 18, 0] rfl)
                              · skip
                                refine lv_aload hx hb dL_watches_744 (lv_at hl 12 rfl) ?_
                                refine lv_iload hx hb dL_watches_746 (lv_at hl 13 rfl) ?_
                                refine lv_iload hx hb dL_watches_748 (lv_at hl 20 rfl) ?_
                                refine zr_iadd hx hb dL_watches_750 ?_
                                refine lv_aload hx hb dL_watches_751 (lv_at hl 5 rfl) ?_
                                refine lv_bipush (v := nI 12) hx hb dL_watches_753 (by decide) ?_
                                refine lv_iload hx hb dL_watches_755 (lv_at hl 19 rfl) ?_
                                refine zr_imul hx hb dL_watches_757 ?_
                                refine lv_iload hx hb dL_watches_758 (lv_at hl 20 rfl) ?_
                                refine zr_iadd hx hb dL_watches_760 ?_
                                have f_55 := hI.inv.tb (rch K (we9) (k)) (by omega) (d)
                                refine zi_ld hx hb hK hP 30 (by decide) 0 rfl rfl (by decide) (i := ((12) * (rch K (we9) (k))) + (d)) (by omega) (v := nI (K (11 + 3 * (rch K (we9) (k))) (d))) (ft_1 (by omega)) dL_watches_761 ?_
                                refine zr_i2l hx hb (by omega) dL_watches_762 ?_
                                refine zl_st hx hb hK hP hnd hAd hS 38 (by decide) 1 rfl rfl (by decide) (i := (mo9) + (d)) (by omega) (wxE ad cI cJ cQ (K) (ts1) (pu1) (K) (X2 (.inl (cJ, 36, .inr (.inl (u9)))) (.inl (cJ, 36, .inr (.inl (vp_updL on2 ((mo9) + (d)) (lN (K (11 + 3 * (rch K (we9) (k))) (d))))))))) (wxS_x1) dL_watches_763 (fun H locs hP hS => ?_)
                                refine lv_iinc (v := nI (d + 1)) (lv' := [(20, .int (nI (d + 1))), (0, .ref (ad 0)), (1, .int (g)), (2, .ref (ad 27)), (3, .ref (ad 28)), (4, .ref (ad 29)), (5, .ref (ad 30)), (6, .ref (ad 32)), (7, .ref (ad 33)), (8, .ref (ad 34)), (9, .ref (ad 35)), (10, .ref (ad 36)), (11, .ref (ad 37)), (12, .ref (ad 38)), (13, .int (nI (mo9))), (14, .int (nI (we9))), (15, .int (bB (true))), (16, .ref (ad (32 + (we9)))), (17, .int (nI (hdr K we9 mo9 (k)))), (18, .int (nI (k))), (19, .int (nI (rch K (we9) (k))))]) hx hb dL_watches_764 hl (k := 20) rfl (zn_inc (d)) (by decide) rfl (fun ls hl => ?_)
                                refine lv_goto (tgt := 721) hx hb dL_watches_767 (by decide) ?_
                                exact ih721 (d + 1) (by omega) (by omega) (_) (one_k rfl hon) _ _ hP hS _ (lv_sub hl [1, 2, 3, 4, 5, 6, 7, 8, 9, 10, 11, 12, 13, 14, 15, 16, 17, 18, 19, 20, 0] rfl)
                      exact lp721 (rl5 (rch K we9 k) mo9 - (0) + 1) (0) (by omega) (by omega) (on) (fun t ht => by rw [if_neg (by omega)]; exact hz t ht) _ _ hP hS _ (lv_sub hl [2, 3, 4, 5, 6, 7, 8, 9, 10, 11, 12, 13, 14, 15, 16, 17, 18, 19, 20, 1, 0] rfl)
                    · skip
                      refine lv_aload hx hb dL_watches_694 (lv_at hl 12 rfl) ?_
                      refine lv_iload hx hb dL_watches_696 (lv_at hl 19 rfl) ?_
                      refine lv_lconst (v := lN 0) hx hb dL_watches_698 (by decide) ?_
                      refine zl_st hx hb hK hP hnd hAd hS 38 (by decide) 1 rfl rfl (by decide) (i := j) (by omega) (wxE ad cI cJ cQ (K) (ts1) (pu1) (K) (X2 (.inl (cJ, 36, .inr (.inl (u9)))) (.inl (cJ, 36, .inr (.inl (vp_updL on (j) (lN (0)))))))) (wxS_x1) dL_watches_699 (fun H locs hP hS => ?_)
                      refine lv_iinc (v := nI (j + 1)) (lv' := [(19, .int (nI (j + 1))), (0, .ref (ad 0)), (1, .int (g)), (2, .ref (ad 27)), (3, .ref (ad 28)), (4, .ref (ad 29)), (5, .ref (ad 30)), (6, .ref (ad 32)), (7, .ref (ad 33)), (8, .ref (ad 34)), (9, .ref (ad 35)), (10, .ref (ad 36)), (11, .ref (ad 37)), (12, .ref (ad 38)), (13, .int (nI (mo9))), (14, .int (nI (we9))), (15, .int (bB (true))), (16, .ref (ad (32 + (we9)))), (17, .int (nI (hdr K we9 mo9 (k)))), (18, .int (nI (k)))]) hx hb dL_watches_700 hl (k := 19) rfl (zn_inc (j)) (by decide) rfl (fun ls hl => ?_)
                      refine lv_goto (tgt := 687) hx hb dL_watches_703 (by decide) ?_
                      exact ih687 (j + 1) (by omega) (by omega) (_) (zer_k hz) _ _ hP hS _ (lv_sub hl [1, 2, 3, 4, 5, 6, 7, 8, 9, 10, 11, 12, 13, 14, 15, 16, 17, 18, 19, 0] rfl)
                exact lp687 (36 - (0) + 1) (0) (by omega) (by omega) (on) (fun t ht => by omega) _ _ hP hS _ (lv_sub hl [1, 2, 3, 4, 5, 6, 7, 8, 9, 10, 11, 12, 13, 14, 15, 16, 17, 18, 19, 0] rfl)
          exact lp648 (K 5 0 - (0) + 1) (0) (by omega) (by omega) (rw) ((fun _ => lN 0)) _ _ hP hS _ (lv_sub hl [5, 6, 7, 8, 9, 10, 11, 12, 13, 14, 15, 16, 17, 18, 4, 3, 2, 1, 0] rfl)
      · skip
        suffices mg62 : ∀ (is9 : Bool), (is9 = true ↔ (k < K 5 0)) → ∀ ls : Array Slot, lv_has ls 28 [(0, .ref (ad 0)), (1, .int (g)), (2, .ref (ad 27)), (3, .ref (ad 28)), (4, .ref (ad 29)), (5, .ref (ad 30)), (6, .ref (ad 32)), (7, .ref (ad 33)), (8, .ref (ad 34)), (9, .ref (ad 35)), (10, .ref (ad 36)), (11, .ref (ad 37)), (12, .ref (ad 38)), (13, .int (nI (mo9))), (14, .int (nI (k)))] → W p l e (rmX 4 100) s m args below meth c H locs (2 + 9 * (k)) (72 + 54 * (k)) Q (F0 m 62 ls [.int (bB (is9))]) by
          refine lv_iload hx hb dL_watches_49 (lv_at hl 14 rfl) ?_
          refine lv_aload_n hx hb dL_watches_51 rfl (lv_at hl 2 rfl) ?_
          refine lv_iconst (v := nI 1) hx hb dL_watches_52 (by decide) ?_
          refine zi_ld hx hb hK hP 27 (by decide) 0 rfl rfl (by decide) (i := 1) (by omega) (v := nI (K 5 0)) rfl dL_watches_53 ?_
          refine zb_ge (tgt := 61) hx hb (by omega) (by omega) dL_watches_54 (by decide) (fun c_56 => ?_) (fun c_56 => ?_)
          · skip
            refine lv_iconst (v := nI 0) hx hb dL_watches_61 (by decide) ?_
            refine zt_i (y := bB (false)) rfl ?_
            exact mg62 (false) (iff_of_false (by decide) (by omega)) _ (lv_sub hl [0, 1, 2, 3, 4, 5, 6, 7, 8, 9, 10, 11, 12, 13, 14] rfl)
          · skip
            refine lv_iconst (v := nI 1) hx hb dL_watches_57 (by decide) ?_
            refine lv_goto (tgt := 62) hx hb dL_watches_58 (by decide) ?_
            refine zt_i (y := bB (true)) rfl ?_
            exact mg62 (true) (iff_of_true rfl (by omega)) _ (lv_sub hl [0, 1, 2, 3, 4, 5, 6, 7, 8, 9, 10, 11, 12, 13, 14] rfl)
        intro is9 his ls hl
        refine lv_istore (lv' := [(15, .int (bB (is9))), (0, .ref (ad 0)), (1, .int (g)), (2, .ref (ad 27)), (3, .ref (ad 28)), (4, .ref (ad 29)), (5, .ref (ad 30)), (6, .ref (ad 32)), (7, .ref (ad 33)), (8, .ref (ad 34)), (9, .ref (ad 35)), (10, .ref (ad 36)), (11, .ref (ad 37)), (12, .ref (ad 38)), (13, .int (nI (mo9))), (14, .int (nI (k)))]) hx hb dL_watches_62 hl (by decide) rfl (fun ls hl => ?_)
        cases is9
        · skip
          have hip : ¬ (k < K 5 0) := fun z => absurd (his.mpr z) (by decide)
          refine lv_iload hx hb dL_watches_64 (lv_at hl 0 rfl) ?_
          refine zb_Beq (tgt := 92) hx hb dL_watches_66 (by decide) (fun _ => ?_) (fun c_57 => False.elim (by revert c_57; decide))
          refine lv_iload hx hb dL_watches_92 (lv_at hl 0 rfl) ?_
          refine zb_Beq (tgt := 108) hx hb dL_watches_94 (by decide) (fun _ => ?_) (fun c_58 => False.elim (by revert c_58; decide))
          refine lv_iconst (v := nI 0) hx hb dL_watches_108 (by decide) ?_
          refine zt_i (y := bB false) rfl ?_
          refine lv_istore (lv' := [(16, .int (bB (false))), (15, .int (bB (false))), (0, .ref (ad 0)), (1, .int (g)), (2, .ref (ad 27)), (3, .ref (ad 28)), (4, .ref (ad 29)), (5, .ref (ad 30)), (6, .ref (ad 32)), (7, .ref (ad 33)), (8, .ref (ad 34)), (9, .ref (ad 35)), (10, .ref (ad 36)), (11, .ref (ad 37)), (12, .ref (ad 38)), (13, .int (nI (mo9))), (14, .int (nI (k)))]) hx hb dL_watches_109 hl (by decide) rfl (fun ls hl => ?_)
          refine lv_iconst (v := nI 0) hx hb dL_watches_111 (by decide) ?_
          refine lv_istore (lv' := [(17, .int (nI (0))), (16, .int (bB (false))), (15, .int (bB (false))), (0, .ref (ad 0)), (1, .int (g)), (2, .ref (ad 27)), (3, .ref (ad 28)), (4, .ref (ad 29)), (5, .ref (ad 30)), (6, .ref (ad 32)), (7, .ref (ad 33)), (8, .ref (ad 34)), (9, .ref (ad 35)), (10, .ref (ad 36)), (11, .ref (ad 37)), (12, .ref (ad 38)), (13, .int (nI (mo9))), (14, .int (nI (k)))]) hx hb dL_watches_112 hl (by decide) rfl (fun ls hl => ?_)
          refine lv_iconst (v := nI 0) hx hb dL_watches_114 (by decide) ?_
          refine lv_istore (lv' := [(18, .int (nI (0))), (17, .int (nI (0))), (16, .int (bB (false))), (15, .int (bB (false))), (0, .ref (ad 0)), (1, .int (g)), (2, .ref (ad 27)), (3, .ref (ad 28)), (4, .ref (ad 29)), (5, .ref (ad 30)), (6, .ref (ad 32)), (7, .ref (ad 33)), (8, .ref (ad 34)), (9, .ref (ad 35)), (10, .ref (ad 36)), (11, .ref (ad 37)), (12, .ref (ad 38)), (13, .int (nI (mo9))), (14, .int (nI (k)))]) hx hb dL_watches_115 hl (by decide) rfl (fun ls hl => ?_)
          refine lv_iconst (v := nI 0) hx hb dL_watches_117 (by decide) ?_
          refine lv_istore (lv' := [(19, .int (nI (0))), (18, .int (nI (0))), (17, .int (nI (0))), (16, .int (bB (false))), (15, .int (bB (false))), (0, .ref (ad 0)), (1, .int (g)), (2, .ref (ad 27)), (3, .ref (ad 28)), (4, .ref (ad 29)), (5, .ref (ad 30)), (6, .ref (ad 32)), (7, .ref (ad 33)), (8, .ref (ad 34)), (9, .ref (ad 35)), (10, .ref (ad 36)), (11, .ref (ad 37)), (12, .ref (ad 38)), (13, .int (nI (mo9))), (14, .int (nI (k)))]) hx hb dL_watches_118 hl (by decide) rfl (fun ls hl => ?_)
          have lp120 : ∀ (n9 mm : Nat), mm ≤ 36 → 36 - mm < n9 → ∀ (ws9 : Nat), (ws9 < 36) → ∀ ls : Array Slot, lv_has ls 28 [(0, .ref (ad 0)), (1, .int (g)), (2, .ref (ad 27)), (3, .ref (ad 28)), (4, .ref (ad 29)), (5, .ref (ad 30)), (6, .ref (ad 32)), (7, .ref (ad 33)), (8, .ref (ad 34)), (9, .ref (ad 35)), (10, .ref (ad 36)), (11, .ref (ad 37)), (12, .ref (ad 38)), (13, .int (nI (mo9))), (14, .int (nI (k))), (15, .int (bB (false))), (16, .int (bB (false))), (17, .int (nI (ws9))), (18, .int (nI (0))), (19, .int (nI (mm)))] → W p l e (rmX 4 100) s m args below meth c H locs (2 + 9 * (k)) (72 + 54 * (k)) Q (F0 m 120 ls []) := by
            intro n9
            induction n9 with
            | zero => intro mm q1 q2; omega
            | succ n9 ih120 =>
              intro mm q1_120 q2_120 ws9 hws ls hl
              refine lv_iload hx hb dL_watches_120 (lv_at hl 19 rfl) ?_
              refine lv_bipush (v := nI 36) hx hb dL_watches_122 (by decide) ?_
              refine zb_ge (tgt := 192) hx hb (by omega) (by omega) dL_watches_124 (by decide) (fun c_59 => ?_) (fun c_59 => ?_)
              · skip
                have q_60 : mm = 36 := by omega
                subst q_60
                refine lv_iconst (v := (-1)) hx hb dL_watches_192 (by decide) ?_
                refine lv_istore (lv' := [(19, .int (-1)), (0, .ref (ad 0)), (1, .int (g)), (2, .ref (ad 27)), (3, .ref (ad 28)), (4, .ref (ad 29)), (5, .ref (ad 30)), (6, .ref (ad 32)), (7, .ref (ad 33)), (8, .ref (ad 34)), (9, .ref (ad 35)), (10, .ref (ad 36)), (11, .ref (ad 37)), (12, .ref (ad 38)), (13, .int (nI (mo9))), (14, .int (nI (k))), (15, .int (bB (false))), (16, .int (bB (false))), (17, .int (nI (ws9))), (18, .int (nI (0)))]) hx hb dL_watches_193 hl (by decide) rfl (fun ls hl => ?_)
                refine lv_lconst (v := lN 0) hx hb dL_watches_195 (by decide) ?_
                refine lv_lstore (lv' := [(20, .long (lN (0))), (19, .int (-1)), (0, .ref (ad 0)), (1, .int (g)), (2, .ref (ad 27)), (3, .ref (ad 28)), (4, .ref (ad 29)), (5, .ref (ad 30)), (6, .ref (ad 32)), (7, .ref (ad 33)), (8, .ref (ad 34)), (9, .ref (ad 35)), (10, .ref (ad 36)), (11, .ref (ad 37)), (12, .ref (ad 38)), (13, .int (nI (mo9))), (14, .int (nI (k))), (15, .int (bB (false))), (16, .int (bB (false))), (17, .int (nI (ws9))), (18, .int (nI (0)))]) hx hb dL_watches_196 hl (by decide) rfl (fun ls hl => ?_)
                refine lv_iconst (v := nI 0) hx hb dL_watches_198 (by decide) ?_
                refine lv_istore (lv' := [(22, .int (nI (0))), (20, .long (lN (0))), (19, .int (-1)), (0, .ref (ad 0)), (1, .int (g)), (2, .ref (ad 27)), (3, .ref (ad 28)), (4, .ref (ad 29)), (5, .ref (ad 30)), (6, .ref (ad 32)), (7, .ref (ad 33)), (8, .ref (ad 34)), (9, .ref (ad 35)), (10, .ref (ad 36)), (11, .ref (ad 37)), (12, .ref (ad 38)), (13, .int (nI (mo9))), (14, .int (nI (k))), (15, .int (bB (false))), (16, .int (bB (false))), (17, .int (nI (ws9))), (18, .int (nI (0)))]) hx hb dL_watches_199 hl (by decide) rfl (fun ls hl => ?_)
                suffices mg372 : ∀ ls : Array Slot, lv_has ls 28 [(22, .int (nI (0))), (20, .long (lN (0))), (19, .int (-1)), (0, .ref (ad 0)), (1, .int (g)), (2, .ref (ad 27)), (3, .ref (ad 28)), (4, .ref (ad 29)), (5, .ref (ad 30)), (6, .ref (ad 32)), (7, .ref (ad 33)), (8, .ref (ad 34)), (9, .ref (ad 35)), (10, .ref (ad 36)), (11, .ref (ad 37)), (12, .ref (ad 38)), (13, .int (nI (mo9))), (14, .int (nI (k))), (15, .int (bB (false))), (16, .int (bB (false))), (17, .int (nI (ws9))), (18, .int (nI (0)))] → W p l e (rmX 4 100) s m args below meth c H locs (2 + 9 * (k)) (72 + 54 * (k)) Q (F0 m 372 ls []) by
                  refine lv_iload hx hb dL_watches_201 (lv_at hl 0 rfl) ?_
                  refine lv_aload_n hx hb dL_watches_203 rfl (lv_at hl 5 rfl) ?_
                  refine lv_iconst (v := nI 0) hx hb dL_watches_204 (by decide) ?_
                  refine zi_ld hx hb hK hP 27 (by decide) 0 rfl rfl (by decide) (i := 0) (by omega) (v := nI (K 0 0)) rfl dL_watches_205 ?_
                  refine zb_ge (tgt := 372) hx hb (by omega) (by omega) dL_watches_206 (by decide) (fun c_61 => ?_) (fun c_61 => ?_)
                  · skip
                    exact mg372 _ (lv_sub hl [0, 1, 2, 3, 4, 5, 6, 7, 8, 9, 10, 11, 12, 13, 14, 15, 16, 17, 18, 19, 20, 21] rfl)
                  · skip
                    refine lv_iload hx hb dL_watches_209 (lv_at hl 19 rfl) ?_
                    refine zb_Beq (tgt := 372) hx hb dL_watches_211 (by decide) (fun _ => ?_) (fun c_62 => False.elim (by revert c_62; decide))
                    exact mg372 _ (lv_sub hl [0, 1, 2, 3, 4, 5, 6, 7, 8, 9, 10, 11, 12, 13, 14, 15, 16, 17, 18, 19, 20, 21] rfl)
                intro ls hl
                refine lv_aload_n hx hb dL_watches_372 rfl (lv_at hl 3 rfl) ?_
                refine lv_iconst (v := nI 0) hx hb dL_watches_373 (by decide) ?_
                refine lv_iload hx hb dL_watches_374 (lv_at hl 17 rfl) ?_
                refine lv_iload hx hb dL_watches_376 (lv_at hl 16 rfl) ?_
                refine zz_l (vx_runSX (As := [.ref (ad 0), .int (nI (0)), .int (nI (k)), .int (nI (mo9))]) (rest := []) ⟨hx, hb, hml, hown, hts⟩ (q_down0 l hfl hI.inv (by decide) hnd hAd (Nat.le_trans hz0 hS.1) hT  (nI (k)) (nI (mo9))) (vx_cwSW 4 hts gL_watches_L_down rfl rfl rfl (by decide +kernel) (by decide)) (psV hK hP hX (fun a h1 h2 => hS.2.1 a h1 h2)) rfl rfl hl.1 rfl (lv_room (Nat.le_of_ble_eq_true rfl)) dL_watches_378 ⟨show 2 + 9 * (k) + 2 ≤ 100 by omega, show 72 + 54 * (k) + 12 ≤ 600 by omega⟩) hS (fun q _ h => h) (fun q h => h) (fun r9 u_63 t9 H locs ht9 hv9 hp9 hB9 hz1 hk1 hS => ?_)
                obtain ⟨e_63, hT⟩ := hp9
                have hP := hB9.2
                rw [ht9] at hP
                clear hB9 ht9 hv9 hz1 hk1
                have hcd_63 : cd1 (ixB (nI (k)) (K 5 0) && ixB (nI (mo9)) 36) = 1 := cd1_1 (ix2_f (by omega) (by omega) (by omega) (by omega) (by decide))
                have e_63 := e_63.trans (rsl_1 hcd_63)
                subst e_63
                refine lv_iload hx hb dL_watches_381 (lv_at hl 19 rfl) ?_
                refine zb_Beq (tgt := 394) hx hb dL_watches_383 (by decide) (fun _ => ?_) (fun c_64 => False.elim (by revert c_64; decide))
                refine lv_ldc2 (own := RL) (v := (-101)) hx hb hown (hts (.constantLong RL 91 (-101)) (by decide +kernel)) dL_watches_394 ?_
                refine zb_same_ne (tgt := 536) hx hb dL_watches_397 dL_watches_398 (by decide) ?_
                refine lv_aload_n hx hb dL_watches_401 rfl (lv_at hl 3 rfl) ?_
                refine lv_iconst (v := nI 1) hx hb dL_watches_402 (by decide) ?_
                refine lv_iload hx hb dL_watches_403 (lv_at hl 17 rfl) ?_
                refine lv_iload hx hb dL_watches_405 (lv_at hl 16 rfl) ?_
                refine zz_l (vx_runSX (As := [.ref (ad 0), .int (nI (1)), .int (nI (k)), .int (nI (mo9))]) (rest := []) ⟨hx, hb, hml, hown, hts⟩ (q_down1 l hfl hI.inv (by decide) hnd hAd (Nat.le_trans hz0 hS.1) hT  (nI (k)) (nI (mo9))) (vx_cwSW 4 hts gL_watches_L_down rfl rfl rfl (by decide +kernel) (by decide)) (psV hK hP hX (fun a h1 h2 => hS.2.1 a h1 h2)) rfl rfl hl.1 rfl (lv_room (Nat.le_of_ble_eq_true rfl)) dL_watches_407 ⟨show 2 + 9 * (k) + 2 + 2 ≤ 100 by omega, show 72 + 54 * (k) + 12 + 12 ≤ 600 by omega⟩) hS (fun q _ h => h) (fun q h => h) (fun r9 u_66 t9 H locs ht9 hv9 hp9 hB9 hz1 hk1 hS => ?_)
                obtain ⟨e_66, hT⟩ := hp9
                have hP := hB9.2
                rw [ht9] at hP
                clear hB9 ht9 hv9 hz1 hk1
                have hcd_66 : cd1 (ixB (nI (k)) (K 5 0) && ixB (nI (mo9)) 36) = 1 := cd1_1 (ix2_f (by omega) (by omega) (by omega) (by omega) (by decide))
                have e_66 := e_66.trans (rsl_1 hcd_66)
                subst e_66
                refine lv_iload hx hb dL_watches_410 (lv_at hl 19 rfl) ?_
                refine zb_Beq (tgt := 423) hx hb dL_watches_412 (by decide) (fun _ => ?_) (fun c_67 => False.elim (by revert c_67; decide))
                refine lv_ldc2 (own := RL) (v := (-101)) hx hb hown (hts (.constantLong RL 91 (-101)) (by decide +kernel)) dL_watches_423 ?_
                refine zb_same_ne (tgt := 536) hx hb dL_watches_426 dL_watches_427 (by decide) ?_
                refine lv_aload_n hx hb dL_watches_430 rfl (lv_at hl 3 rfl) ?_
                refine lv_bipush (v := nI 7) hx hb dL_watches_431 (by decide) ?_
                refine lv_iload hx hb dL_watches_433 (lv_at hl 17 rfl) ?_
                refine lv_iconst (v := nI 0) hx hb dL_watches_435 (by decide) ?_
                refine zz_i (vx_runSX (As := [.ref (ad 0), .int (nI (7)), .int (nI (k)), .int (nI (0))]) (rest := []) ⟨hx, hb, hml, hown, hts⟩ (q_of7 l hfl hI.inv (by decide) hnd hAd (Nat.le_trans hz0 hS.1) hT  (nI (k)) (nI (0))) (vx_cwSW 4 hts gL_watches_L_of rfl rfl rfl (by decide +kernel) (by decide)) (psV hK hP hX (fun a h1 h2 => hS.2.1 a h1 h2)) rfl rfl hl.1 rfl (lv_room (Nat.le_of_ble_eq_true rfl)) dL_watches_436 ⟨show 2 + 9 * (k) + 2 + 2 + 1 ≤ 100 by omega, show 72 + 54 * (k) + 12 + 12 + 6 ≤ 600 by omega⟩) hS (fun q _ h => h) (fun q h => h) (fun r9 u_69 t9 H locs ht9 hv9 hp9 hB9 hz1 hk1 hS => ?_)
                obtain ⟨e_69, hT⟩ := hp9
                have hP := hB9.2
                rw [ht9] at hP
                clear hB9 ht9 hv9 hz1 hk1
                have hcd_69 : cd1 (ixB (nI (k)) (K 5 0)) = 1 := cd1_1 (ix_f (by omega) (by omega))
                have e_69 := e_69.trans (rsc_1 hcd_69)
                subst e_69
                refine lv_iload hx hb dL_watches_439 (lv_at hl 18 rfl) ?_
                refine zb_Beq (tgt := 449) hx hb dL_watches_441 (by decide) (fun _ => ?_) (fun c_70 => False.elim (by revert c_70; decide))
                refine lv_bipush (v := (-101)) hx hb dL_watches_449 (by decide) ?_
                refine lv_icmp_ne (tgt := 536) hx hb dL_watches_451 (by decide) (fun c_71 => False.elim (by revert c_71; decide)) (fun _ => ?_)
                refine lv_aload_n hx hb dL_watches_454 rfl (lv_at hl 3 rfl) ?_
                refine lv_bipush (v := nI 8) hx hb dL_watches_455 (by decide) ?_
                refine lv_iload hx hb dL_watches_457 (lv_at hl 17 rfl) ?_
                refine lv_iconst (v := nI 0) hx hb dL_watches_459 (by decide) ?_
                refine zz_i (vx_runSX (As := [.ref (ad 0), .int (nI (8)), .int (nI (k)), .int (nI (0))]) (rest := []) ⟨hx, hb, hml, hown, hts⟩ (q_of8 l hfl hI.inv (by decide) hnd hAd (Nat.le_trans hz0 hS.1) hT  (nI (k)) (nI (0))) (vx_cwSW 4 hts gL_watches_L_of rfl rfl rfl (by decide +kernel) (by decide)) (psV hK hP hX (fun a h1 h2 => hS.2.1 a h1 h2)) rfl rfl hl.1 rfl (lv_room (Nat.le_of_ble_eq_true rfl)) dL_watches_460 ⟨show 2 + 9 * (k) + 2 + 2 + 1 + 1 ≤ 100 by omega, show 72 + 54 * (k) + 12 + 12 + 6 + 6 ≤ 600 by omega⟩) hS (fun q _ h => h) (fun q h => h) (fun r9 u_72 t9 H locs ht9 hv9 hp9 hB9 hz1 hk1 hS => ?_)
                obtain ⟨e_72, hT⟩ := hp9
                have hP := hB9.2
                rw [ht9] at hP
                clear hB9 ht9 hv9 hz1 hk1
                have hcd_72 : cd1 (ixB (nI (k)) (K 5 0)) = 1 := cd1_1 (ix_f (by omega) (by omega))
                have e_72 := e_72.trans (rsc_1 hcd_72)
                subst e_72
                refine lv_iload hx hb dL_watches_463 (lv_at hl 18 rfl) ?_
                refine zb_Beq (tgt := 473) hx hb dL_watches_465 (by decide) (fun _ => ?_) (fun c_73 => False.elim (by revert c_73; decide))
                refine lv_bipush (v := (-101)) hx hb dL_watches_473 (by decide) ?_
                refine lv_icmp_ne (tgt := 536) hx hb dL_watches_475 (by decide) (fun c_74 => False.elim (by revert c_74; decide)) (fun _ => ?_)
                refine lv_aload_n hx hb dL_watches_478 rfl (lv_at hl 3 rfl) ?_
                refine lv_iconst (v := nI 2) hx hb dL_watches_479 (by decide) ?_
                refine lv_iload hx hb dL_watches_480 (lv_at hl 17 rfl) ?_
                refine lv_iload hx hb dL_watches_482 (lv_at hl 16 rfl) ?_
                refine zz_i (vx_runSX (As := [.ref (ad 0), .int (nI (2)), .int (nI (k)), .int (nI (mo9))]) (rest := []) ⟨hx, hb, hml, hown, hts⟩ (q_of2 l hfl hI.inv (by decide) hnd hAd (Nat.le_trans hz0 hS.1) hT  (nI (k)) (nI (mo9))) (vx_cwSW 4 hts gL_watches_L_of rfl rfl rfl (by decide +kernel) (by decide)) (psV hK hP hX (fun a h1 h2 => hS.2.1 a h1 h2)) rfl rfl hl.1 rfl (lv_room (Nat.le_of_ble_eq_true rfl)) dL_watches_484 ⟨show 2 + 9 * (k) + 2 + 2 + 1 + 1 + 2 ≤ 100 by omega, show 72 + 54 * (k) + 12 + 12 + 6 + 6 + 12 ≤ 600 by omega⟩) hS (fun q _ h => h) (fun q h => h) (fun r9 u_75 t9 H locs ht9 hv9 hp9 hB9 hz1 hk1 hS => ?_)
                obtain ⟨e_75, hT⟩ := hp9
                have hP := hB9.2
                rw [ht9] at hP
                clear hB9 ht9 hv9 hz1 hk1
                have hcd_75 : cd1 (ixB (nI (k)) (K 5 0) && ixB (nI (mo9)) 36) = 1 := cd1_1 (ix2_f (by omega) (by omega) (by omega) (by omega) (by decide))
                have e_75 := e_75.trans (rsc_1 hcd_75)
                subst e_75
                refine lv_iload hx hb dL_watches_487 (lv_at hl 19 rfl) ?_
                refine zb_Beq (tgt := 497) hx hb dL_watches_489 (by decide) (fun _ => ?_) (fun c_76 => False.elim (by revert c_76; decide))
                refine lv_bipush (v := (-101)) hx hb dL_watches_497 (by decide) ?_
                refine lv_icmp_ne (tgt := 536) hx hb dL_watches_499 (by decide) (fun c_77 => False.elim (by revert c_77; decide)) (fun _ => ?_)
                refine lv_aload_n hx hb dL_watches_502 rfl (lv_at hl 3 rfl) ?_
                refine lv_iconst (v := nI 2) hx hb dL_watches_503 (by decide) ?_
                refine lv_iload hx hb dL_watches_504 (lv_at hl 17 rfl) ?_
                refine lv_iconst (v := nI 0) hx hb dL_watches_506 (by decide) ?_
                refine zz_l (vx_runSX (As := [.ref (ad 0), .int (nI (2)), .int (nI (k)), .int (nI (0))]) (rest := []) ⟨hx, hb, hml, hown, hts⟩ (q_down2 l hfl hI.inv (by decide) hnd hAd (Nat.le_trans hz0 hS.1) hT  (nI (k)) (nI (0))) (vx_cwSW 4 hts gL_watches_L_down rfl rfl rfl (by decide +kernel) (by decide)) (psV hK hP hX (fun a h1 h2 => hS.2.1 a h1 h2)) rfl rfl hl.1 rfl (lv_room (Nat.le_of_ble_eq_true rfl)) dL_watches_507 ⟨show 2 + 9 * (k) + 2 + 2 + 1 + 1 + 2 + 1 ≤ 100 by omega, show 72 + 54 * (k) + 12 + 12 + 6 + 6 + 12 + 6 ≤ 600 by omega⟩) hS (fun q _ h => h) (fun q h => h) (fun r9 u_78 t9 H locs ht9 hv9 hp9 hB9 hz1 hk1 hS => ?_)
                obtain ⟨e_78, hT⟩ := hp9
                have hP := hB9.2
                rw [ht9] at hP
                clear hB9 ht9 hv9 hz1 hk1
                have hcd_78 : cd1 (ixB (nI (k)) (K 5 0)) = 1 := cd1_1 (ix_f (by omega) (by omega))
                have e_78 := e_78.trans (rsl_1 hcd_78)
                subst e_78
                refine lv_iload hx hb dL_watches_510 (lv_at hl 18 rfl) ?_
                refine zb_Beq (tgt := 529) hx hb dL_watches_512 (by decide) (fun _ => ?_) (fun c_79 => False.elim (by revert c_79; decide))
                refine lv_ldc2 (own := RL) (v := (-101)) hx hb hown (hts (.constantLong RL 91 (-101)) (by decide +kernel)) dL_watches_529 ?_
                refine zb_same_eq (tgt := 538) hx hb dL_watches_532 dL_watches_533 (by decide) ?_
                refine lv_iinc (v := nI (k + 1)) (lv' := [(14, .int (nI (k + 1))), (22, .int (nI (0))), (20, .long (lN (0))), (19, .int (-1)), (0, .ref (ad 0)), (1, .int (g)), (2, .ref (ad 27)), (3, .ref (ad 28)), (4, .ref (ad 29)), (5, .ref (ad 30)), (6, .ref (ad 32)), (7, .ref (ad 33)), (8, .ref (ad 34)), (9, .ref (ad 35)), (10, .ref (ad 36)), (11, .ref (ad 37)), (12, .ref (ad 38)), (13, .int (nI (mo9))), (15, .int (bB (false))), (16, .int (bB (false))), (17, .int (nI (ws9))), (18, .int (nI (0)))]) hx hb dL_watches_538 hl (k := 17) rfl (zn_inc (k)) (by decide) rfl (fun ls hl => ?_)
                refine lv_goto (tgt := 41) hx hb dL_watches_541 (by decide) ?_
                refine W.widen (show 2 + 9 * (k) + 2 + 2 + 1 + 1 + 2 + 1 ≤ 2 + 9 * (k + 1) by omega) (show 72 + 54 * (k) + 12 + 12 + 6 + 6 + 12 + 6 ≤ 72 + 54 * (k + 1) by omega) ?_
                exact ih41 (k + 1) (by omega) (by omega) (u_78.1) (u_78.2) (_) hT _ _ hP hS _ (lv_sub hl [4, 5, 6, 7, 8, 9, 10, 11, 12, 13, 14, 15, 16, 17, 0] rfl)
              · skip
                suffices mg148 : ∀ (wt9 : Nat), (wt9 < 36) → ∀ ls : Array Slot, lv_has ls 28 [(0, .ref (ad 0)), (1, .int (g)), (2, .ref (ad 27)), (3, .ref (ad 28)), (4, .ref (ad 29)), (5, .ref (ad 30)), (6, .ref (ad 32)), (7, .ref (ad 33)), (8, .ref (ad 34)), (9, .ref (ad 35)), (10, .ref (ad 36)), (11, .ref (ad 37)), (12, .ref (ad 38)), (13, .int (nI (mo9))), (14, .int (nI (k))), (15, .int (bB (false))), (16, .int (bB (false))), (17, .int (nI (ws9))), (18, .int (nI (0))), (19, .int (nI (mm)))] → W p l e (rmX 4 100) s m args below meth c H locs (2 + 9 * (k)) (72 + 54 * (k)) Q (F0 m 148 ls [.int (nI (wt9))]) by
                  refine lv_aload hx hb dL_watches_127 (lv_at hl 11 rfl) ?_
                  refine lv_iload hx hb dL_watches_129 (lv_at hl 19 rfl) ?_
                  refine zl_ld hx hb hK hP 37 (by decide) 1 rfl rfl (by decide) (i := mm) (by omega) (v := rw (mm)) rfl dL_watches_131 ?_
                  refine lv_aload hx hb dL_watches_132 (lv_at hl 11 rfl) ?_
                  refine lv_iload hx hb dL_watches_134 (lv_at hl 17 rfl) ?_
                  refine zl_ld hx hb hK hP 37 (by decide) 1 rfl rfl (by decide) (i := ws9) (by omega) (v := rw (ws9)) rfl dL_watches_136 ?_
                  refine zb_lle (tgt := 146) hx hb dL_watches_137 dL_watches_138 (by decide) (fun c_81 => ?_) (fun c_81 => ?_)
                  · skip
                    refine lv_iload hx hb dL_watches_146 (lv_at hl 17 rfl) ?_
                    exact mg148 (ws9) (by omega) _ (lv_sub hl [0, 1, 2, 3, 4, 5, 6, 7, 8, 9, 10, 11, 12, 13, 14, 15, 16, 17, 18, 19] rfl)
                  · skip
                    refine lv_iload hx hb dL_watches_141 (lv_at hl 19 rfl) ?_
                    refine lv_goto (tgt := 148) hx hb dL_watches_143 (by decide) ?_
                    exact mg148 (mm) (by omega) _ (lv_sub hl [0, 1, 2, 3, 4, 5, 6, 7, 8, 9, 10, 11, 12, 13, 14, 15, 16, 17, 18, 19] rfl)
                intro wt9 hwt9 ls hl
                refine lv_istore (lv' := [(17, .int (nI (wt9))), (0, .ref (ad 0)), (1, .int (g)), (2, .ref (ad 27)), (3, .ref (ad 28)), (4, .ref (ad 29)), (5, .ref (ad 30)), (6, .ref (ad 32)), (7, .ref (ad 33)), (8, .ref (ad 34)), (9, .ref (ad 35)), (10, .ref (ad 36)), (11, .ref (ad 37)), (12, .ref (ad 38)), (13, .int (nI (mo9))), (14, .int (nI (k))), (15, .int (bB (false))), (16, .int (bB (false))), (18, .int (nI (0))), (19, .int (nI (mm)))]) hx hb dL_watches_148 hl (by decide) rfl (fun ls hl => ?_)
                refine lv_iload hx hb dL_watches_150 (lv_at hl 18 rfl) ?_
                refine lv_iload hx hb dL_watches_152 (lv_at hl 16 rfl) ?_
                refine zb_Beq (tgt := 182) hx hb dL_watches_154 (by decide) (fun _ => ?_) (fun c_82 => False.elim (by revert c_82; decide))
                refine lv_iconst (v := nI 0) hx hb dL_watches_182 (by decide) ?_
                refine zr_iadd hx hb dL_watches_183 ?_
                refine lv_istore (lv' := [(18, .int (nI ((0) + (0)))), (17, .int (nI (wt9))), (0, .ref (ad 0)), (1, .int (g)), (2, .ref (ad 27)), (3, .ref (ad 28)), (4, .ref (ad 29)), (5, .ref (ad 30)), (6, .ref (ad 32)), (7, .ref (ad 33)), (8, .ref (ad 34)), (9, .ref (ad 35)), (10, .ref (ad 36)), (11, .ref (ad 37)), (12, .ref (ad 38)), (13, .int (nI (mo9))), (14, .int (nI (k))), (15, .int (bB (false))), (16, .int (bB (false))), (19, .int (nI (mm)))]) hx hb dL_watches_184 hl (by decide) rfl (fun ls hl => ?_)
                refine lv_iinc (v := nI (mm + 1)) (lv' := [(19, .int (nI (mm + 1))), (18, .int (nI ((0) + (0)))), (17, .int (nI (wt9))), (0, .ref (ad 0)), (1, .int (g)), (2, .ref (ad 27)), (3, .ref (ad 28)), (4, .ref (ad 29)), (5, .ref (ad 30)), (6, .ref (ad 32)), (7, .ref (ad 33)), (8, .ref (ad 34)), (9, .ref (ad 35)), (10, .ref (ad 36)), (11, .ref (ad 37)), (12, .ref (ad 38)), (13, .int (nI (mo9))), (14, .int (nI (k))), (15, .int (bB (false))), (16, .int (bB (false)))]) hx hb dL_watches_186 hl (k := 19) rfl (zn_inc (mm)) (by decide) rfl (fun ls hl => ?_)
                refine lv_goto (tgt := 120) hx hb dL_watches_189 (by decide) ?_
                exact ih120 (mm + 1) (by omega) (by omega) (wt9) (by omega) _ (lv_sub hl [3, 4, 5, 6, 7, 8, 9, 10, 11, 12, 13, 14, 15, 16, 17, 18, 19, 2, 1, 0] rfl)
          exact lp120 (36 - (0) + 1) (0) (by omega) (by omega) (0) (by omega) _ (lv_sub hl [5, 6, 7, 8, 9, 10, 11, 12, 13, 14, 15, 16, 17, 18, 19, 4, 3, 2, 1, 0] rfl)
        · skip
          have hip := his.mp rfl
          refine lv_iload hx hb dL_watches_64 (lv_at hl 0 rfl) ?_
          refine zb_Beq (tgt := 92) hx hb dL_watches_66 (by decide) (fun c_83 => False.elim (by revert c_83; decide)) (fun _ => ?_)
          refine lv_aload_n hx hb dL_watches_69 rfl (lv_at hl 3 rfl) ?_
          refine lv_aload_n hx hb dL_watches_70 rfl (lv_at hl 4 rfl) ?_
          refine lv_aload hx hb dL_watches_71 (lv_at hl 5 rfl) ?_
          refine lv_aload hx hb dL_watches_73 (lv_at hl 6 rfl) ?_
          refine lv_aload hx hb dL_watches_75 (lv_at hl 7 rfl) ?_
          refine lv_aload hx hb dL_watches_77 (lv_at hl 8 rfl) ?_
          refine lv_aload hx hb dL_watches_79 (lv_at hl 9 rfl) ?_
          refine lv_aload hx hb dL_watches_81 (lv_at hl 10 rfl) ?_
          refine lv_aload hx hb dL_watches_83 (lv_at hl 11 rfl) ?_
          refine lv_iload hx hb dL_watches_85 (lv_at hl 15 rfl) ?_
          refine lv_aload hx hb dL_watches_87 (lv_at hl 12 rfl) ?_
          refine va_callv (va_runS (As := [.ref (ad 27), .ref (ad 28), .ref (ad 29), .ref (ad 30), .ref (ad 32), .ref (ad 33), .ref (ad 34), .ref (ad 35), .ref (ad 36), .int (nI (k)), .ref (ad 37)]) (rest := []) ⟨hx, hb, hml, hown, hts⟩ (l_lowers l hI hnd hAd (Nat.le_trans hz0 hS.1) (v := k) (by omega)) (va_cwS 11 hts gL_watches_L_lowers rfl rfl rfl (by decide +kernel) (by decide)) (psAS hK hP) rfl rfl hl.1 rfl (lv_room (Nat.le_of_ble_eq_true rfl)) dL_watches_89 ⟨show 2 + 9 * (k) + 0 ≤ 100 by omega, show 72 + 54 * (k) + 0 ≤ 600 by omega⟩) hS (fun q _ h => h) (fun q h => h) (fun u9 t9 H locs ht9 hv9 hp9 hB9 hz1 hk1 hS => ?_)
          have hP := hB9.2
          rw [ht9] at hP
          have hrw := hp9
          suffices mg109 : ∀ (bo9 : Bool), (bo9 = true ↔ (mo9 < 36)) → ∀ ls : Array Slot, lv_has ls 28 [(15, .int (bB (true))), (0, .ref (ad 0)), (1, .int (g)), (2, .ref (ad 27)), (3, .ref (ad 28)), (4, .ref (ad 29)), (5, .ref (ad 30)), (6, .ref (ad 32)), (7, .ref (ad 33)), (8, .ref (ad 34)), (9, .ref (ad 35)), (10, .ref (ad 36)), (11, .ref (ad 37)), (12, .ref (ad 38)), (13, .int (nI (mo9))), (14, .int (nI (k)))] → W p l e (rmX 4 100) s m args below meth c H locs (2 + 9 * (k)) (72 + 54 * (k)) Q (F0 m 109 ls [.int (bB (bo9))]) by
            refine lv_iload hx hb dL_watches_92 (lv_at hl 0 rfl) ?_
            refine zb_Beq (tgt := 108) hx hb dL_watches_94 (by decide) (fun c_84 => False.elim (by revert c_84; decide)) (fun _ => ?_)
            refine lv_iload hx hb dL_watches_97 (lv_at hl 14 rfl) ?_
            refine lv_bipush (v := nI 36) hx hb dL_watches_99 (by decide) ?_
            refine zb_ge (tgt := 108) hx hb (by omega) (by omega) dL_watches_101 (by decide) (fun c_85 => ?_) (fun c_85 => ?_)
            · skip
              refine lv_iconst (v := nI 0) hx hb dL_watches_108 (by decide) ?_
              refine zt_i (y := bB (false)) rfl ?_
              exact mg109 (false) (iff_of_false (by decide) (by omega)) _ (lv_sub hl [0, 1, 2, 3, 4, 5, 6, 7, 8, 9, 10, 11, 12, 13, 14, 15] rfl)
            · skip
              refine lv_iconst (v := nI 1) hx hb dL_watches_104 (by decide) ?_
              refine lv_goto (tgt := 109) hx hb dL_watches_105 (by decide) ?_
              refine zt_i (y := bB (true)) rfl ?_
              exact mg109 (true) (iff_of_true rfl (by omega)) _ (lv_sub hl [0, 1, 2, 3, 4, 5, 6, 7, 8, 9, 10, 11, 12, 13, 14, 15] rfl)
          intro bo9 hbo ls hl
          refine lv_istore (lv' := [(16, .int (bB (bo9))), (15, .int (bB (true))), (0, .ref (ad 0)), (1, .int (g)), (2, .ref (ad 27)), (3, .ref (ad 28)), (4, .ref (ad 29)), (5, .ref (ad 30)), (6, .ref (ad 32)), (7, .ref (ad 33)), (8, .ref (ad 34)), (9, .ref (ad 35)), (10, .ref (ad 36)), (11, .ref (ad 37)), (12, .ref (ad 38)), (13, .int (nI (mo9))), (14, .int (nI (k)))]) hx hb dL_watches_109 hl (by decide) rfl (fun ls hl => ?_)
          refine lv_iconst (v := nI 0) hx hb dL_watches_111 (by decide) ?_
          refine lv_istore (lv' := [(17, .int (nI (0))), (16, .int (bB (bo9))), (15, .int (bB (true))), (0, .ref (ad 0)), (1, .int (g)), (2, .ref (ad 27)), (3, .ref (ad 28)), (4, .ref (ad 29)), (5, .ref (ad 30)), (6, .ref (ad 32)), (7, .ref (ad 33)), (8, .ref (ad 34)), (9, .ref (ad 35)), (10, .ref (ad 36)), (11, .ref (ad 37)), (12, .ref (ad 38)), (13, .int (nI (mo9))), (14, .int (nI (k)))]) hx hb dL_watches_112 hl (by decide) rfl (fun ls hl => ?_)
          refine lv_iconst (v := nI 0) hx hb dL_watches_114 (by decide) ?_
          refine lv_istore (lv' := [(18, .int (nI (0))), (17, .int (nI (0))), (16, .int (bB (bo9))), (15, .int (bB (true))), (0, .ref (ad 0)), (1, .int (g)), (2, .ref (ad 27)), (3, .ref (ad 28)), (4, .ref (ad 29)), (5, .ref (ad 30)), (6, .ref (ad 32)), (7, .ref (ad 33)), (8, .ref (ad 34)), (9, .ref (ad 35)), (10, .ref (ad 36)), (11, .ref (ad 37)), (12, .ref (ad 38)), (13, .int (nI (mo9))), (14, .int (nI (k)))]) hx hb dL_watches_115 hl (by decide) rfl (fun ls hl => ?_)
          refine lv_iconst (v := nI 0) hx hb dL_watches_117 (by decide) ?_
          refine lv_istore (lv' := [(19, .int (nI (0))), (18, .int (nI (0))), (17, .int (nI (0))), (16, .int (bB (bo9))), (15, .int (bB (true))), (0, .ref (ad 0)), (1, .int (g)), (2, .ref (ad 27)), (3, .ref (ad 28)), (4, .ref (ad 29)), (5, .ref (ad 30)), (6, .ref (ad 32)), (7, .ref (ad 33)), (8, .ref (ad 34)), (9, .ref (ad 35)), (10, .ref (ad 36)), (11, .ref (ad 37)), (12, .ref (ad 38)), (13, .int (nI (mo9))), (14, .int (nI (k)))]) hx hb dL_watches_118 hl (by decide) rfl (fun ls hl => ?_)
          have lp120 : ∀ (n9 mm : Nat), mm ≤ 36 → 36 - mm < n9 → ∀ ls : Array Slot, lv_has ls 28 [(0, .ref (ad 0)), (1, .int (g)), (2, .ref (ad 27)), (3, .ref (ad 28)), (4, .ref (ad 29)), (5, .ref (ad 30)), (6, .ref (ad 32)), (7, .ref (ad 33)), (8, .ref (ad 34)), (9, .ref (ad 35)), (10, .ref (ad 36)), (11, .ref (ad 37)), (12, .ref (ad 38)), (13, .int (nI (mo9))), (14, .int (nI (k))), (15, .int (bB (true))), (16, .int (bB (bo9))), (17, .int (nI (wsm K k (mm)))), (18, .int (nI (ssum (fun m => ovc K k m) (mm)))), (19, .int (nI (mm)))] → W p l e (rmX 4 100) s m args below meth c H locs (2 + 9 * (k)) (72 + 54 * (k)) Q (F0 m 120 ls []) := by
            intro n9
            induction n9 with
            | zero => intro mm q1 q2; omega
            | succ n9 ih120 =>
              intro mm q1_120 q2_120 ls hl
              have hws := wsm_lt K k mm (by omega)
              have fd1 := dd_le hI.inv k mm
              have fd2 := dd_le hI.inv k (wsm K k mm)
              refine lv_iload hx hb dL_watches_120 (lv_at hl 19 rfl) ?_
              refine lv_bipush (v := nI 36) hx hb dL_watches_122 (by decide) ?_
              refine zb_ge (tgt := 192) hx hb (by omega) (by omega) dL_watches_124 (by decide) (fun c_86 => ?_) (fun c_86 => ?_)
              · skip
                have q_87 : mm = 36 := by omega
                subst q_87
                have hl := lv_cast (l2 := [(0, .ref (ad 0)), (1, .int (g)), (2, .ref (ad 27)), (3, .ref (ad 28)), (4, .ref (ad 29)), (5, .ref (ad 30)), (6, .ref (ad 32)), (7, .ref (ad 33)), (8, .ref (ad 34)), (9, .ref (ad 35)), (10, .ref (ad 36)), (11, .ref (ad 37)), (12, .ref (ad 38)), (13, .int (nI (mo9))), (14, .int (nI (k))), (15, .int (bB (true))), (16, .int (bB (bo9))), (17, .int (nI (wst K k 35))), (18, .int (nI (ssum (fun m => ovc K k m) (36)))), (19, .int (nI (36)))]) hl (by rw [show nI (wsm K k (36)) = nI (wst K k 35) from rfl])
                have hl := lv_cast (l2 := [(0, .ref (ad 0)), (1, .int (g)), (2, .ref (ad 27)), (3, .ref (ad 28)), (4, .ref (ad 29)), (5, .ref (ad 30)), (6, .ref (ad 32)), (7, .ref (ad 33)), (8, .ref (ad 34)), (9, .ref (ad 35)), (10, .ref (ad 36)), (11, .ref (ad 37)), (12, .ref (ad 38)), (13, .int (nI (mo9))), (14, .int (nI (k))), (15, .int (bB (true))), (16, .int (bB (bo9))), (17, .int (nI (wst K k 35))), (18, .int (nI (ovr K k))), (19, .int (nI (36)))]) hl (by rw [show nI (ssum (fun m => ovc K k m) (36)) = nI (ovr K k) from rfl])
                cases bo9
                · skip
                  have hbp : ¬ (mo9 < 36) := fun z => absurd (hbo.mpr z) (by decide)
                  refine lv_iconst (v := (-1)) hx hb dL_watches_192 (by decide) ?_
                  refine lv_istore (lv' := [(19, .int (-1)), (0, .ref (ad 0)), (1, .int (g)), (2, .ref (ad 27)), (3, .ref (ad 28)), (4, .ref (ad 29)), (5, .ref (ad 30)), (6, .ref (ad 32)), (7, .ref (ad 33)), (8, .ref (ad 34)), (9, .ref (ad 35)), (10, .ref (ad 36)), (11, .ref (ad 37)), (12, .ref (ad 38)), (13, .int (nI (mo9))), (14, .int (nI (k))), (15, .int (bB (true))), (16, .int (bB (false))), (17, .int (nI (wst K k 35))), (18, .int (nI (ovr K k)))]) hx hb dL_watches_193 hl (by decide) rfl (fun ls hl => ?_)
                  refine lv_lconst (v := lN 0) hx hb dL_watches_195 (by decide) ?_
                  refine lv_lstore (lv' := [(20, .long (lN (0))), (19, .int (-1)), (0, .ref (ad 0)), (1, .int (g)), (2, .ref (ad 27)), (3, .ref (ad 28)), (4, .ref (ad 29)), (5, .ref (ad 30)), (6, .ref (ad 32)), (7, .ref (ad 33)), (8, .ref (ad 34)), (9, .ref (ad 35)), (10, .ref (ad 36)), (11, .ref (ad 37)), (12, .ref (ad 38)), (13, .int (nI (mo9))), (14, .int (nI (k))), (15, .int (bB (true))), (16, .int (bB (false))), (17, .int (nI (wst K k 35))), (18, .int (nI (ovr K k)))]) hx hb dL_watches_196 hl (by decide) rfl (fun ls hl => ?_)
                  refine lv_iconst (v := nI 0) hx hb dL_watches_198 (by decide) ?_
                  refine lv_istore (lv' := [(22, .int (nI (0))), (20, .long (lN (0))), (19, .int (-1)), (0, .ref (ad 0)), (1, .int (g)), (2, .ref (ad 27)), (3, .ref (ad 28)), (4, .ref (ad 29)), (5, .ref (ad 30)), (6, .ref (ad 32)), (7, .ref (ad 33)), (8, .ref (ad 34)), (9, .ref (ad 35)), (10, .ref (ad 36)), (11, .ref (ad 37)), (12, .ref (ad 38)), (13, .int (nI (mo9))), (14, .int (nI (k))), (15, .int (bB (true))), (16, .int (bB (false))), (17, .int (nI (wst K k 35))), (18, .int (nI (ovr K k)))]) hx hb dL_watches_199 hl (by decide) rfl (fun ls hl => ?_)
                  suffices mg372 : ∀ ls : Array Slot, lv_has ls 28 [(22, .int (nI (0))), (20, .long (lN (0))), (19, .int (-1)), (0, .ref (ad 0)), (1, .int (g)), (2, .ref (ad 27)), (3, .ref (ad 28)), (4, .ref (ad 29)), (5, .ref (ad 30)), (6, .ref (ad 32)), (7, .ref (ad 33)), (8, .ref (ad 34)), (9, .ref (ad 35)), (10, .ref (ad 36)), (11, .ref (ad 37)), (12, .ref (ad 38)), (13, .int (nI (mo9))), (14, .int (nI (k))), (15, .int (bB (true))), (16, .int (bB (false))), (17, .int (nI (wst K k 35))), (18, .int (nI (ovr K k)))] → W p l e (rmX 4 100) s m args below meth c H locs (2 + 9 * (k)) (72 + 54 * (k)) Q (F0 m 372 ls []) by
                    refine lv_iload hx hb dL_watches_201 (lv_at hl 0 rfl) ?_
                    refine lv_aload_n hx hb dL_watches_203 rfl (lv_at hl 5 rfl) ?_
                    refine lv_iconst (v := nI 0) hx hb dL_watches_204 (by decide) ?_
                    refine zi_ld hx hb hK hP 27 (by decide) 0 rfl rfl (by decide) (i := 0) (by omega) (v := nI (K 0 0)) rfl dL_watches_205 ?_
                    refine zb_ge (tgt := 372) hx hb (by omega) (by omega) dL_watches_206 (by decide) (fun c_88 => ?_) (fun c_88 => ?_)
                    · skip
                      exact mg372 _ (lv_sub hl [0, 1, 2, 3, 4, 5, 6, 7, 8, 9, 10, 11, 12, 13, 14, 15, 16, 17, 18, 19, 20, 21] rfl)
                    · skip
                      refine lv_iload hx hb dL_watches_209 (lv_at hl 19 rfl) ?_
                      refine zb_Beq (tgt := 372) hx hb dL_watches_211 (by decide) (fun _ => ?_) (fun c_89 => False.elim (by revert c_89; decide))
                      exact mg372 _ (lv_sub hl [0, 1, 2, 3, 4, 5, 6, 7, 8, 9, 10, 11, 12, 13, 14, 15, 16, 17, 18, 19, 20, 21] rfl)
                  intro ls hl
                  refine lv_aload_n hx hb dL_watches_372 rfl (lv_at hl 3 rfl) ?_
                  refine lv_iconst (v := nI 0) hx hb dL_watches_373 (by decide) ?_
                  refine lv_iload hx hb dL_watches_374 (lv_at hl 17 rfl) ?_
                  refine lv_iload hx hb dL_watches_376 (lv_at hl 16 rfl) ?_
                  refine zz_l (vx_runSX (As := [.ref (ad 0), .int (nI (0)), .int (nI (k)), .int (nI (mo9))]) (rest := []) ⟨hx, hb, hml, hown, hts⟩ (q_down0 l hfl hI.inv (by decide) hnd hAd (Nat.le_trans hz0 hS.1) hT  (nI (k)) (nI (mo9))) (vx_cwSW 4 hts gL_watches_L_down rfl rfl rfl (by decide +kernel) (by decide)) (psV hK hP hX (fun a h1 h2 => hS.2.1 a h1 h2)) rfl rfl hl.1 rfl (lv_room (Nat.le_of_ble_eq_true rfl)) dL_watches_378 ⟨show 2 + 9 * (k) + 2 ≤ 100 by omega, show 72 + 54 * (k) + 12 ≤ 600 by omega⟩) hS (fun q _ h => h) (fun q h => h) (fun r9 u_90 t9 H locs ht9 hv9 hp9 hB9 hz1 hk1 hS => ?_)
                  obtain ⟨e_90, hT⟩ := hp9
                  have hP := hB9.2
                  rw [ht9] at hP
                  clear hB9 ht9 hv9 hz1 hk1
                  have hcd_90 : cd1 (ixB (nI (k)) (K 5 0) && ixB (nI (mo9)) 36) = 1 := cd1_1 (ix2_f (by omega) (by omega) (by omega) (by omega) (by decide))
                  have e_90 := e_90.trans (rsl_1 hcd_90)
                  subst e_90
                  refine lv_iload hx hb dL_watches_381 (lv_at hl 19 rfl) ?_
                  refine zb_Beq (tgt := 394) hx hb dL_watches_383 (by decide) (fun _ => ?_) (fun c_91 => False.elim (by revert c_91; decide))
                  refine lv_ldc2 (own := RL) (v := (-101)) hx hb hown (hts (.constantLong RL 91 (-101)) (by decide +kernel)) dL_watches_394 ?_
                  refine zb_same_ne (tgt := 536) hx hb dL_watches_397 dL_watches_398 (by decide) ?_
                  refine lv_aload_n hx hb dL_watches_401 rfl (lv_at hl 3 rfl) ?_
                  refine lv_iconst (v := nI 1) hx hb dL_watches_402 (by decide) ?_
                  refine lv_iload hx hb dL_watches_403 (lv_at hl 17 rfl) ?_
                  refine lv_iload hx hb dL_watches_405 (lv_at hl 16 rfl) ?_
                  refine zz_l (vx_runSX (As := [.ref (ad 0), .int (nI (1)), .int (nI (k)), .int (nI (mo9))]) (rest := []) ⟨hx, hb, hml, hown, hts⟩ (q_down1 l hfl hI.inv (by decide) hnd hAd (Nat.le_trans hz0 hS.1) hT  (nI (k)) (nI (mo9))) (vx_cwSW 4 hts gL_watches_L_down rfl rfl rfl (by decide +kernel) (by decide)) (psV hK hP hX (fun a h1 h2 => hS.2.1 a h1 h2)) rfl rfl hl.1 rfl (lv_room (Nat.le_of_ble_eq_true rfl)) dL_watches_407 ⟨show 2 + 9 * (k) + 2 + 2 ≤ 100 by omega, show 72 + 54 * (k) + 12 + 12 ≤ 600 by omega⟩) hS (fun q _ h => h) (fun q h => h) (fun r9 u_93 t9 H locs ht9 hv9 hp9 hB9 hz1 hk1 hS => ?_)
                  obtain ⟨e_93, hT⟩ := hp9
                  have hP := hB9.2
                  rw [ht9] at hP
                  clear hB9 ht9 hv9 hz1 hk1
                  have hcd_93 : cd1 (ixB (nI (k)) (K 5 0) && ixB (nI (mo9)) 36) = 1 := cd1_1 (ix2_f (by omega) (by omega) (by omega) (by omega) (by decide))
                  have e_93 := e_93.trans (rsl_1 hcd_93)
                  subst e_93
                  refine lv_iload hx hb dL_watches_410 (lv_at hl 19 rfl) ?_
                  refine zb_Beq (tgt := 423) hx hb dL_watches_412 (by decide) (fun _ => ?_) (fun c_94 => False.elim (by revert c_94; decide))
                  refine lv_ldc2 (own := RL) (v := (-101)) hx hb hown (hts (.constantLong RL 91 (-101)) (by decide +kernel)) dL_watches_423 ?_
                  refine zb_same_ne (tgt := 536) hx hb dL_watches_426 dL_watches_427 (by decide) ?_
                  refine lv_aload_n hx hb dL_watches_430 rfl (lv_at hl 3 rfl) ?_
                  refine lv_bipush (v := nI 7) hx hb dL_watches_431 (by decide) ?_
                  refine lv_iload hx hb dL_watches_433 (lv_at hl 17 rfl) ?_
                  refine lv_iconst (v := nI 0) hx hb dL_watches_435 (by decide) ?_
                  have fwt := wst_le K k 35
                  refine zz_i (vx_runSX (As := [.ref (ad 0), .int (nI (7)), .int (nI (k)), .int (nI (0))]) (rest := []) ⟨hx, hb, hml, hown, hts⟩ (q_of7 l hfl hI.inv (by decide) hnd hAd (Nat.le_trans hz0 hS.1) hT  (nI (k)) (nI (0))) (vx_cwSW 4 hts gL_watches_L_of rfl rfl rfl (by decide +kernel) (by decide)) (psV hK hP hX (fun a h1 h2 => hS.2.1 a h1 h2)) rfl rfl hl.1 rfl (lv_room (Nat.le_of_ble_eq_true rfl)) dL_watches_436 ⟨show 2 + 9 * (k) + 2 + 2 + 1 ≤ 100 by omega, show 72 + 54 * (k) + 12 + 12 + 6 ≤ 600 by omega⟩) hS (fun q _ h => h) (fun q h => h) (fun r9 u_96 t9 H locs ht9 hv9 hp9 hB9 hz1 hk1 hS => ?_)
                  obtain ⟨e_96, hT⟩ := hp9
                  have hP := hB9.2
                  rw [ht9] at hP
                  clear hB9 ht9 hv9 hz1 hk1
                  have hcd_96 : cd1 (ixB (nI (k)) (K 5 0)) = 0 := cd1_0 (ix_t (by omega) (by omega))
                  have e_96 := e_96.trans ((rsc_0 hcd_96).trans (show nI (wst K (clN (nI (k))) 35) = nI (wst K ((k)) 35) by first | rfl | simp only [clN_nI (show k < 2 ^ 31 by omega), clN_nI (show 0 < 2 ^ 31 by omega)]))
                  subst e_96
                  refine lv_iload hx hb dL_watches_439 (lv_at hl 18 rfl) ?_
                  refine zb_Beq (tgt := 449) hx hb dL_watches_441 (by decide) (fun c_97 => False.elim (by revert c_97; decide)) (fun _ => ?_)
                  refine lv_iload hx hb dL_watches_444 (lv_at hl 20 rfl) ?_
                  refine lv_goto (tgt := 451) hx hb dL_watches_446 (by decide) ?_
                  refine zb_ne (tgt := 536) hx hb (by omega) (by omega) dL_watches_451 (by decide) (fun c_98 => ?_) (fun c_98 => ?_)
                  · skip
                    exact False.elim (by omega)
                  · skip
                    refine lv_aload_n hx hb dL_watches_454 rfl (lv_at hl 3 rfl) ?_
                    refine lv_bipush (v := nI 8) hx hb dL_watches_455 (by decide) ?_
                    refine lv_iload hx hb dL_watches_457 (lv_at hl 17 rfl) ?_
                    refine lv_iconst (v := nI 0) hx hb dL_watches_459 (by decide) ?_
                    have fov : ovr K k ≤ 36 := Nat.le_trans (ssum_le (c := 1) (fun m _ => by show (if _ then 1 else 0) ≤ 1; split <;> omega)) (by decide)
                    refine zz_i (vx_runSX (As := [.ref (ad 0), .int (nI (8)), .int (nI (k)), .int (nI (0))]) (rest := []) ⟨hx, hb, hml, hown, hts⟩ (q_of8 l hfl hI.inv (by decide) hnd hAd (Nat.le_trans hz0 hS.1) hT  (nI (k)) (nI (0))) (vx_cwSW 4 hts gL_watches_L_of rfl rfl rfl (by decide +kernel) (by decide)) (psV hK hP hX (fun a h1 h2 => hS.2.1 a h1 h2)) rfl rfl hl.1 rfl (lv_room (Nat.le_of_ble_eq_true rfl)) dL_watches_460 ⟨show 2 + 9 * (k) + 2 + 2 + 1 + 1 ≤ 100 by omega, show 72 + 54 * (k) + 12 + 12 + 6 + 6 ≤ 600 by omega⟩) hS (fun q _ h => h) (fun q h => h) (fun r9 u_99 t9 H locs ht9 hv9 hp9 hB9 hz1 hk1 hS => ?_)
                    obtain ⟨e_99, hT⟩ := hp9
                    have hP := hB9.2
                    rw [ht9] at hP
                    clear hB9 ht9 hv9 hz1 hk1
                    have hcd_99 : cd1 (ixB (nI (k)) (K 5 0)) = 0 := cd1_0 (ix_t (by omega) (by omega))
                    have e_99 := e_99.trans ((rsc_0 hcd_99).trans (show nI (ovr K (clN (nI (k)))) = nI (ovr K ((k))) by first | rfl | simp only [clN_nI (show k < 2 ^ 31 by omega), clN_nI (show 0 < 2 ^ 31 by omega)]))
                    subst e_99
                    refine lv_iload hx hb dL_watches_463 (lv_at hl 18 rfl) ?_
                    refine zb_Beq (tgt := 473) hx hb dL_watches_465 (by decide) (fun c_100 => False.elim (by revert c_100; decide)) (fun _ => ?_)
                    refine lv_iload hx hb dL_watches_468 (lv_at hl 21 rfl) ?_
                    refine lv_goto (tgt := 475) hx hb dL_watches_470 (by decide) ?_
                    refine zb_ne (tgt := 536) hx hb (by omega) (by omega) dL_watches_475 (by decide) (fun c_101 => ?_) (fun c_101 => ?_)
                    · skip
                      exact False.elim (by omega)
                    · skip
                      refine lv_aload_n hx hb dL_watches_478 rfl (lv_at hl 3 rfl) ?_
                      refine lv_iconst (v := nI 2) hx hb dL_watches_479 (by decide) ?_
                      refine lv_iload hx hb dL_watches_480 (lv_at hl 17 rfl) ?_
                      refine lv_iload hx hb dL_watches_482 (lv_at hl 16 rfl) ?_
                      refine zz_i (vx_runSX (As := [.ref (ad 0), .int (nI (2)), .int (nI (k)), .int (nI (mo9))]) (rest := []) ⟨hx, hb, hml, hown, hts⟩ (q_of2 l hfl hI.inv (by decide) hnd hAd (Nat.le_trans hz0 hS.1) hT  (nI (k)) (nI (mo9))) (vx_cwSW 4 hts gL_watches_L_of rfl rfl rfl (by decide +kernel) (by decide)) (psV hK hP hX (fun a h1 h2 => hS.2.1 a h1 h2)) rfl rfl hl.1 rfl (lv_room (Nat.le_of_ble_eq_true rfl)) dL_watches_484 ⟨show 2 + 9 * (k) + 2 + 2 + 1 + 1 + 2 ≤ 100 by omega, show 72 + 54 * (k) + 12 + 12 + 6 + 6 + 12 ≤ 600 by omega⟩) hS (fun q _ h => h) (fun q h => h) (fun r9 u_102 t9 H locs ht9 hv9 hp9 hB9 hz1 hk1 hS => ?_)
                      obtain ⟨e_102, hT⟩ := hp9
                      have hP := hB9.2
                      rw [ht9] at hP
                      clear hB9 ht9 hv9 hz1 hk1
                      have hcd_102 : cd1 (ixB (nI (k)) (K 5 0) && ixB (nI (mo9)) 36) = 1 := cd1_1 (ix2_f (by omega) (by omega) (by omega) (by omega) (by decide))
                      have e_102 := e_102.trans (rsc_1 hcd_102)
                      subst e_102
                      refine lv_iload hx hb dL_watches_487 (lv_at hl 19 rfl) ?_
                      refine zb_Beq (tgt := 497) hx hb dL_watches_489 (by decide) (fun _ => ?_) (fun c_103 => False.elim (by revert c_103; decide))
                      refine lv_bipush (v := (-101)) hx hb dL_watches_497 (by decide) ?_
                      refine lv_icmp_ne (tgt := 536) hx hb dL_watches_499 (by decide) (fun c_104 => False.elim (by revert c_104; decide)) (fun _ => ?_)
                      refine lv_aload_n hx hb dL_watches_502 rfl (lv_at hl 3 rfl) ?_
                      refine lv_iconst (v := nI 2) hx hb dL_watches_503 (by decide) ?_
                      refine lv_iload hx hb dL_watches_504 (lv_at hl 17 rfl) ?_
                      refine lv_iconst (v := nI 0) hx hb dL_watches_506 (by decide) ?_
                      refine zz_l (vx_runSX (As := [.ref (ad 0), .int (nI (2)), .int (nI (k)), .int (nI (0))]) (rest := []) ⟨hx, hb, hml, hown, hts⟩ (q_down2 l hfl hI.inv (by decide) hnd hAd (Nat.le_trans hz0 hS.1) hT  (nI (k)) (nI (0))) (vx_cwSW 4 hts gL_watches_L_down rfl rfl rfl (by decide +kernel) (by decide)) (psV hK hP hX (fun a h1 h2 => hS.2.1 a h1 h2)) rfl rfl hl.1 rfl (lv_room (Nat.le_of_ble_eq_true rfl)) dL_watches_507 ⟨show 2 + 9 * (k) + 2 + 2 + 1 + 1 + 2 + 1 ≤ 100 by omega, show 72 + 54 * (k) + 12 + 12 + 6 + 6 + 12 + 6 ≤ 600 by omega⟩) hS (fun q _ h => h) (fun q h => h) (fun r9 u_105 t9 H locs ht9 hv9 hp9 hB9 hz1 hk1 hS => ?_)
                      obtain ⟨e_105, hT⟩ := hp9
                      have hP := hB9.2
                      rw [ht9] at hP
                      clear hB9 ht9 hv9 hz1 hk1
                      have hcd_105 : cd1 (ixB (nI (k)) (K 5 0)) = 0 := cd1_0 (ix_t (by omega) (by omega))
                      have e_105 := e_105.trans ((rsl_0 hcd_105).trans (show lN (bud K (clN (nI (k)))) = lN (bud K ((k))) by first | rfl | simp only [clN_nI (show k < 2 ^ 31 by omega), clN_nI (show 0 < 2 ^ 31 by omega)]))
                      subst e_105
                      refine lv_iload hx hb dL_watches_510 (lv_at hl 18 rfl) ?_
                      refine zb_Beq (tgt := 529) hx hb dL_watches_512 (by decide) (fun c_106 => False.elim (by revert c_106; decide)) (fun _ => ?_)
                      refine lv_aload_n hx hb dL_watches_515 rfl (lv_at hl 5 rfl) ?_
                      refine lv_aload_n hx hb dL_watches_516 rfl (lv_at hl 6 rfl) ?_
                      refine lv_aload hx hb dL_watches_517 (lv_at hl 7 rfl) ?_
                      refine lv_aload hx hb dL_watches_519 (lv_at hl 8 rfl) ?_
                      refine lv_iload hx hb dL_watches_521 (lv_at hl 17 rfl) ?_
                      refine vp_callSl (W.runS (As := [.ref (ad 27), .ref (ad 28), .ref (ad 29), .ref (ad 30), .int (nI (k))]) (rest := [.long (lN (bud K ((k))))]) ⟨hx, hb, hml, hown, hts⟩ (l_burden l (hI) (by omega) (v := k) (by omega)) (va_cwS 5 hts gL_watches_L_burden rfl rfl rfl (by decide +kernel) (by decide)) (psA hK hP) rfl rfl hl.1 rfl (lv_room (Nat.le_of_ble_eq_true rfl)) dL_watches_523 ⟨show 2 + 9 * (k) + 2 + 2 + 1 + 1 + 2 + 1 + 0 ≤ 100 by omega, show 72 + 54 * (k) + 12 + 12 + 6 + 6 + 12 + 6 + 0 ≤ 600 by omega⟩) (fun r_107 hr_107 => ?_)
                      subst hr_107
                      have f_108 := bud_le ((hI).inv) (k)
                      refine lv_goto (tgt := 532) hx hb dL_watches_526 (by decide) ?_
                      refine zb_same_eq (tgt := 538) hx hb dL_watches_532 dL_watches_533 (by decide) ?_
                      refine lv_iinc (v := nI (k + 1)) (lv' := [(14, .int (nI (k + 1))), (22, .int (nI (0))), (20, .long (lN (0))), (19, .int (-1)), (0, .ref (ad 0)), (1, .int (g)), (2, .ref (ad 27)), (3, .ref (ad 28)), (4, .ref (ad 29)), (5, .ref (ad 30)), (6, .ref (ad 32)), (7, .ref (ad 33)), (8, .ref (ad 34)), (9, .ref (ad 35)), (10, .ref (ad 36)), (11, .ref (ad 37)), (12, .ref (ad 38)), (13, .int (nI (mo9))), (15, .int (bB (true))), (16, .int (bB (false))), (17, .int (nI (wst K k 35))), (18, .int (nI (ovr K k)))]) hx hb dL_watches_538 hl (k := 17) rfl (zn_inc (k)) (by decide) rfl (fun ls hl => ?_)
                      refine lv_goto (tgt := 41) hx hb dL_watches_541 (by decide) ?_
                      refine W.widen (show 2 + 9 * (k) + 2 + 2 + 1 + 1 + 2 + 1 ≤ 2 + 9 * (k + 1) by omega) (show 72 + 54 * (k) + 12 + 12 + 6 + 6 + 12 + 6 ≤ 72 + 54 * (k + 1) by omega) ?_
                      exact ih41 (k + 1) (by omega) (by omega) (u_105.1) (u_105.2) (_) hT _ _ hP hS _ (lv_sub hl [4, 5, 6, 7, 8, 9, 10, 11, 12, 13, 14, 15, 16, 17, 0] rfl)
                · skip
                  have hbp := hbo.mp rfl
                  have hD := d12_s (36 - mo9)
                  refine lv_iconst (v := (-1)) hx hb dL_watches_192 (by decide) ?_
                  refine lv_istore (lv' := [(19, .int (-1)), (0, .ref (ad 0)), (1, .int (g)), (2, .ref (ad 27)), (3, .ref (ad 28)), (4, .ref (ad 29)), (5, .ref (ad 30)), (6, .ref (ad 32)), (7, .ref (ad 33)), (8, .ref (ad 34)), (9, .ref (ad 35)), (10, .ref (ad 36)), (11, .ref (ad 37)), (12, .ref (ad 38)), (13, .int (nI (mo9))), (14, .int (nI (k))), (15, .int (bB (true))), (16, .int (bB (true))), (17, .int (nI (wst K k 35))), (18, .int (nI (ovr K k)))]) hx hb dL_watches_193 hl (by decide) rfl (fun ls hl => ?_)
                  refine lv_lconst (v := lN 0) hx hb dL_watches_195 (by decide) ?_
                  refine lv_lstore (lv' := [(20, .long (lN (0))), (19, .int (-1)), (0, .ref (ad 0)), (1, .int (g)), (2, .ref (ad 27)), (3, .ref (ad 28)), (4, .ref (ad 29)), (5, .ref (ad 30)), (6, .ref (ad 32)), (7, .ref (ad 33)), (8, .ref (ad 34)), (9, .ref (ad 35)), (10, .ref (ad 36)), (11, .ref (ad 37)), (12, .ref (ad 38)), (13, .int (nI (mo9))), (14, .int (nI (k))), (15, .int (bB (true))), (16, .int (bB (true))), (17, .int (nI (wst K k 35))), (18, .int (nI (ovr K k)))]) hx hb dL_watches_196 hl (by decide) rfl (fun ls hl => ?_)
                  refine lv_iconst (v := nI 0) hx hb dL_watches_198 (by decide) ?_
                  refine lv_istore (lv' := [(22, .int (nI (0))), (20, .long (lN (0))), (19, .int (-1)), (0, .ref (ad 0)), (1, .int (g)), (2, .ref (ad 27)), (3, .ref (ad 28)), (4, .ref (ad 29)), (5, .ref (ad 30)), (6, .ref (ad 32)), (7, .ref (ad 33)), (8, .ref (ad 34)), (9, .ref (ad 35)), (10, .ref (ad 36)), (11, .ref (ad 37)), (12, .ref (ad 38)), (13, .int (nI (mo9))), (14, .int (nI (k))), (15, .int (bB (true))), (16, .int (bB (true))), (17, .int (nI (wst K k 35))), (18, .int (nI (ovr K k)))]) hx hb dL_watches_199 hl (by decide) rfl (fun ls hl => ?_)
                  have lp201 : ∀ (n9 w : Nat), w ≤ K 0 0 → K 0 0 - w < n9 → ∀ ls : Array Slot, lv_has ls 28 [(0, .ref (ad 0)), (1, .int (g)), (2, .ref (ad 27)), (3, .ref (ad 28)), (4, .ref (ad 29)), (5, .ref (ad 30)), (6, .ref (ad 32)), (7, .ref (ad 33)), (8, .ref (ad 34)), (9, .ref (ad 35)), (10, .ref (ad 36)), (11, .ref (ad 37)), (12, .ref (ad 38)), (13, .int (nI (mo9))), (14, .int (nI (k))), (15, .int (bB (true))), (16, .int (bB (true))), (17, .int (nI (wst K k 35))), (18, .int (nI (ovr K k))), (19, .int (hvb K k mo9 (w))), (20, .long (lN (hvm K k mo9 (w)))), (22, .int (nI (w)))] → W p l e (rmX 4 100) s m args below meth c H locs (2 + 9 * (k)) (72 + 54 * (k)) Q (F0 m 201 ls []) := by
                    intro n9
                    induction n9 with
                    | zero => intro w q1 q2; omega
                    | succ n9 ih201 =>
                      intro w q1_201 q2_201 ls hl
                      have fli := lia_le hI.inv (w := w) (by omega) k mo9
                      have fhv := hvm_le hI.inv k mo9 w (by omega)
                      refine lv_iload hx hb dL_watches_201 (lv_at hl 21 rfl) ?_
                      refine lv_aload_n hx hb dL_watches_203 rfl (lv_at hl 2 rfl) ?_
                      refine lv_iconst (v := nI 0) hx hb dL_watches_204 (by decide) ?_
                      refine zi_ld hx hb hK hP 27 (by decide) 0 rfl rfl (by decide) (i := 0) (by omega) (v := nI (K 0 0)) rfl dL_watches_205 ?_
                      refine zb_ge (tgt := 372) hx hb (by omega) (by omega) dL_watches_206 (by decide) (fun c_110 => ?_) (fun c_110 => ?_)
                      · skip
                        have q_111 : w = K 0 0 := by omega
                        subst q_111
                        refine lv_aload_n hx hb dL_watches_372 rfl (lv_at hl 0 rfl) ?_
                        refine lv_iconst (v := nI 0) hx hb dL_watches_373 (by decide) ?_
                        refine lv_iload hx hb dL_watches_374 (lv_at hl 14 rfl) ?_
                        refine lv_iload hx hb dL_watches_376 (lv_at hl 13 rfl) ?_
                        refine zz_l (vx_runSX (As := [.ref (ad 0), .int (nI (0)), .int (nI (k)), .int (nI (mo9))]) (rest := []) ⟨hx, hb, hml, hown, hts⟩ (q_down0 l hfl hI.inv (by decide) hnd hAd (Nat.le_trans hz0 hS.1) hT  (nI (k)) (nI (mo9))) (vx_cwSW 4 hts gL_watches_L_down rfl rfl rfl (by decide +kernel) (by decide)) (psV hK hP hX (fun a h1 h2 => hS.2.1 a h1 h2)) rfl rfl hl.1 rfl (lv_room (Nat.le_of_ble_eq_true rfl)) dL_watches_378 ⟨show 2 + 9 * (k) + 2 ≤ 100 by omega, show 72 + 54 * (k) + 12 ≤ 600 by omega⟩) hS (fun q _ h => h) (fun q h => h) (fun r9 u_112 t9 H locs ht9 hv9 hp9 hB9 hz1 hk1 hS => ?_)
                        obtain ⟨e_112, hT⟩ := hp9
                        have hP := hB9.2
                        rw [ht9] at hP
                        clear hB9 ht9 hv9 hz1 hk1
                        have hcd_112 : cd1 (ixB (nI (k)) (K 5 0) && ixB (nI (mo9)) 36) = 0 := cd1_0 (ix2_t (by omega) (by omega) (by omega) (by decide))
                        have e_112 := e_112.trans ((rsl_0 hcd_112).trans (show lN (dd K (clN (nI (k))) (clN (nI (mo9)))) = lN (dd K ((k)) ((mo9))) by first | rfl | simp only [clN_nI (show k < 2 ^ 31 by omega), clN_nI (show mo9 < 2 ^ 31 by omega)]))
                        subst e_112
                        refine lv_iload hx hb dL_watches_381 (lv_at hl 16 rfl) ?_
                        refine zb_Beq (tgt := 394) hx hb dL_watches_383 (by decide) (fun c_113 => False.elim (by revert c_113; decide)) (fun _ => ?_)
                        refine lv_aload hx hb dL_watches_386 (lv_at hl 11 rfl) ?_
                        refine lv_iload hx hb dL_watches_388 (lv_at hl 13 rfl) ?_
                        refine zl_ld hx hb hK hP 37 (by decide) 1 rfl rfl (by decide) (i := mo9) (by omega) (v := u9 (mo9)) rfl dL_watches_390 ?_
                        refine zt_l (y := lN (dd K k (mo9))) (hrw (mo9) (by omega)) ?_
                        refine lv_goto (tgt := 397) hx hb dL_watches_391 (by decide) ?_
                        refine zb_same_ne (tgt := 536) hx hb dL_watches_397 dL_watches_398 (by decide) ?_
                        refine lv_aload_n hx hb dL_watches_401 rfl (lv_at hl 0 rfl) ?_
                        refine lv_iconst (v := nI 1) hx hb dL_watches_402 (by decide) ?_
                        refine lv_iload hx hb dL_watches_403 (lv_at hl 14 rfl) ?_
                        refine lv_iload hx hb dL_watches_405 (lv_at hl 13 rfl) ?_
                        refine zz_l (vx_runSX (As := [.ref (ad 0), .int (nI (1)), .int (nI (k)), .int (nI (mo9))]) (rest := []) ⟨hx, hb, hml, hown, hts⟩ (q_down1 l hfl hI.inv (by decide) hnd hAd (Nat.le_trans hz0 hS.1) hT  (nI (k)) (nI (mo9))) (vx_cwSW 4 hts gL_watches_L_down rfl rfl rfl (by decide +kernel) (by decide)) (psV hK hP hX (fun a h1 h2 => hS.2.1 a h1 h2)) rfl rfl hl.1 rfl (lv_room (Nat.le_of_ble_eq_true rfl)) dL_watches_407 ⟨show 2 + 9 * (k) + 2 + 2 ≤ 100 by omega, show 72 + 54 * (k) + 12 + 12 ≤ 600 by omega⟩) hS (fun q _ h => h) (fun q h => h) (fun r9 u_115 t9 H locs ht9 hv9 hp9 hB9 hz1 hk1 hS => ?_)
                        obtain ⟨e_115, hT⟩ := hp9
                        have hP := hB9.2
                        rw [ht9] at hP
                        clear hB9 ht9 hv9 hz1 hk1
                        have hcd_115 : cd1 (ixB (nI (k)) (K 5 0) && ixB (nI (mo9)) 36) = 0 := cd1_0 (ix2_t (by omega) (by omega) (by omega) (by decide))
                        have e_115 := e_115.trans ((rsl_0 hcd_115).trans (show lN (dd K (clN (nI (k))) (clN (nI (mo9)))) = lN (dd K ((k)) ((mo9))) by first | rfl | simp only [clN_nI (show k < 2 ^ 31 by omega), clN_nI (show mo9 < 2 ^ 31 by omega)]))
                        subst e_115
                        refine lv_iload hx hb dL_watches_410 (lv_at hl 16 rfl) ?_
                        refine zb_Beq (tgt := 423) hx hb dL_watches_412 (by decide) (fun c_116 => False.elim (by revert c_116; decide)) (fun _ => ?_)
                        refine lv_aload hx hb dL_watches_415 (lv_at hl 11 rfl) ?_
                        refine lv_iload hx hb dL_watches_417 (lv_at hl 13 rfl) ?_
                        refine zl_ld hx hb hK hP 37 (by decide) 1 rfl rfl (by decide) (i := mo9) (by omega) (v := u9 (mo9)) rfl dL_watches_419 ?_
                        refine zt_l (y := lN (dd K k (mo9))) (hrw (mo9) (by omega)) ?_
                        refine lv_goto (tgt := 426) hx hb dL_watches_420 (by decide) ?_
                        refine zb_same_ne (tgt := 536) hx hb dL_watches_426 dL_watches_427 (by decide) ?_
                        refine lv_aload_n hx hb dL_watches_430 rfl (lv_at hl 0 rfl) ?_
                        refine lv_bipush (v := nI 7) hx hb dL_watches_431 (by decide) ?_
                        refine lv_iload hx hb dL_watches_433 (lv_at hl 14 rfl) ?_
                        refine lv_iconst (v := nI 0) hx hb dL_watches_435 (by decide) ?_
                        have fwt := wst_le K k 35
                        refine zz_i (vx_runSX (As := [.ref (ad 0), .int (nI (7)), .int (nI (k)), .int (nI (0))]) (rest := []) ⟨hx, hb, hml, hown, hts⟩ (q_of7 l hfl hI.inv (by decide) hnd hAd (Nat.le_trans hz0 hS.1) hT  (nI (k)) (nI (0))) (vx_cwSW 4 hts gL_watches_L_of rfl rfl rfl (by decide +kernel) (by decide)) (psV hK hP hX (fun a h1 h2 => hS.2.1 a h1 h2)) rfl rfl hl.1 rfl (lv_room (Nat.le_of_ble_eq_true rfl)) dL_watches_436 ⟨show 2 + 9 * (k) + 2 + 2 + 1 ≤ 100 by omega, show 72 + 54 * (k) + 12 + 12 + 6 ≤ 600 by omega⟩) hS (fun q _ h => h) (fun q h => h) (fun r9 u_118 t9 H locs ht9 hv9 hp9 hB9 hz1 hk1 hS => ?_)
                        obtain ⟨e_118, hT⟩ := hp9
                        have hP := hB9.2
                        rw [ht9] at hP
                        clear hB9 ht9 hv9 hz1 hk1
                        have hcd_118 : cd1 (ixB (nI (k)) (K 5 0)) = 0 := cd1_0 (ix_t (by omega) (by omega))
                        have e_118 := e_118.trans ((rsc_0 hcd_118).trans (show nI (wst K (clN (nI (k))) 35) = nI (wst K ((k)) 35) by first | rfl | simp only [clN_nI (show k < 2 ^ 31 by omega), clN_nI (show 0 < 2 ^ 31 by omega)]))
                        subst e_118
                        refine lv_iload hx hb dL_watches_439 (lv_at hl 15 rfl) ?_
                        refine zb_Beq (tgt := 449) hx hb dL_watches_441 (by decide) (fun c_119 => False.elim (by revert c_119; decide)) (fun _ => ?_)
                        refine lv_iload hx hb dL_watches_444 (lv_at hl 17 rfl) ?_
                        refine lv_goto (tgt := 451) hx hb dL_watches_446 (by decide) ?_
                        refine zb_ne (tgt := 536) hx hb (by omega) (by omega) dL_watches_451 (by decide) (fun c_120 => ?_) (fun c_120 => ?_)
                        · skip
                          exact False.elim (by omega)
                        · skip
                          refine lv_aload_n hx hb dL_watches_454 rfl (lv_at hl 0 rfl) ?_
                          refine lv_bipush (v := nI 8) hx hb dL_watches_455 (by decide) ?_
                          refine lv_iload hx hb dL_watches_457 (lv_at hl 14 rfl) ?_
                          refine lv_iconst (v := nI 0) hx hb dL_watches_459 (by decide) ?_
                          have fov : ovr K k ≤ 36 := Nat.le_trans (ssum_le (c := 1) (fun m _ => by show (if _ then 1 else 0) ≤ 1; split <;> omega)) (by decide)
                          refine zz_i (vx_runSX (As := [.ref (ad 0), .int (nI (8)), .int (nI (k)), .int (nI (0))]) (rest := []) ⟨hx, hb, hml, hown, hts⟩ (q_of8 l hfl hI.inv (by decide) hnd hAd (Nat.le_trans hz0 hS.1) hT  (nI (k)) (nI (0))) (vx_cwSW 4 hts gL_watches_L_of rfl rfl rfl (by decide +kernel) (by decide)) (psV hK hP hX (fun a h1 h2 => hS.2.1 a h1 h2)) rfl rfl hl.1 rfl (lv_room (Nat.le_of_ble_eq_true rfl)) dL_watches_460 ⟨show 2 + 9 * (k) + 2 + 2 + 1 + 1 ≤ 100 by omega, show 72 + 54 * (k) + 12 + 12 + 6 + 6 ≤ 600 by omega⟩) hS (fun q _ h => h) (fun q h => h) (fun r9 u_121 t9 H locs ht9 hv9 hp9 hB9 hz1 hk1 hS => ?_)
                          obtain ⟨e_121, hT⟩ := hp9
                          have hP := hB9.2
                          rw [ht9] at hP
                          clear hB9 ht9 hv9 hz1 hk1
                          have hcd_121 : cd1 (ixB (nI (k)) (K 5 0)) = 0 := cd1_0 (ix_t (by omega) (by omega))
                          have e_121 := e_121.trans ((rsc_0 hcd_121).trans (show nI (ovr K (clN (nI (k)))) = nI (ovr K ((k))) by first | rfl | simp only [clN_nI (show k < 2 ^ 31 by omega), clN_nI (show 0 < 2 ^ 31 by omega)]))
                          subst e_121
                          refine lv_iload hx hb dL_watches_463 (lv_at hl 15 rfl) ?_
                          refine zb_Beq (tgt := 473) hx hb dL_watches_465 (by decide) (fun c_122 => False.elim (by revert c_122; decide)) (fun _ => ?_)
                          refine lv_iload hx hb dL_watches_468 (lv_at hl 18 rfl) ?_
                          refine lv_goto (tgt := 475) hx hb dL_watches_470 (by decide) ?_
                          refine zb_ne (tgt := 536) hx hb (by omega) (by omega) dL_watches_475 (by decide) (fun c_123 => ?_) (fun c_123 => ?_)
                          · skip
                            exact False.elim (by omega)
                          · skip
                            refine lv_aload_n hx hb dL_watches_478 rfl (lv_at hl 0 rfl) ?_
                            refine lv_iconst (v := nI 2) hx hb dL_watches_479 (by decide) ?_
                            refine lv_iload hx hb dL_watches_480 (lv_at hl 14 rfl) ?_
                            refine lv_iload hx hb dL_watches_482 (lv_at hl 13 rfl) ?_
                            refine zz_i (vx_runSX (As := [.ref (ad 0), .int (nI (2)), .int (nI (k)), .int (nI (mo9))]) (rest := []) ⟨hx, hb, hml, hown, hts⟩ (q_of2 l hfl hI.inv (by decide) hnd hAd (Nat.le_trans hz0 hS.1) hT  (nI (k)) (nI (mo9))) (vx_cwSW 4 hts gL_watches_L_of rfl rfl rfl (by decide +kernel) (by decide)) (psV hK hP hX (fun a h1 h2 => hS.2.1 a h1 h2)) rfl rfl hl.1 rfl (lv_room (Nat.le_of_ble_eq_true rfl)) dL_watches_484 ⟨show 2 + 9 * (k) + 2 + 2 + 1 + 1 + 2 ≤ 100 by omega, show 72 + 54 * (k) + 12 + 12 + 6 + 6 + 12 ≤ 600 by omega⟩) hS (fun q _ h => h) (fun q h => h) (fun r9 u_124 t9 H locs ht9 hv9 hp9 hB9 hz1 hk1 hS => ?_)
                            obtain ⟨e_124, hT⟩ := hp9
                            have hP := hB9.2
                            rw [ht9] at hP
                            clear hB9 ht9 hv9 hz1 hk1
                            have hcd_124 : cd1 (ixB (nI (k)) (K 5 0) && ixB (nI (mo9)) 36) = 0 := cd1_0 (ix2_t (by omega) (by omega) (by omega) (by decide))
                            have e_124 := e_124.trans ((rsc_0 hcd_124).trans (show hvb K (clN (nI (k))) (clN (nI (mo9))) (K 0 0) = hvb K ((k)) ((mo9)) (K 0 0) by first | rfl | simp only [clN_nI (show k < 2 ^ 31 by omega), clN_nI (show mo9 < 2 ^ 31 by omega)]))
                            subst e_124
                            refine lv_iload hx hb dL_watches_487 (lv_at hl 16 rfl) ?_
                            refine zb_Beq (tgt := 497) hx hb dL_watches_489 (by decide) (fun c_125 => False.elim (by revert c_125; decide)) (fun _ => ?_)
                            refine lv_iload hx hb dL_watches_492 (lv_at hl 19 rfl) ?_
                            refine lv_goto (tgt := 499) hx hb dL_watches_494 (by decide) ?_
                            refine lv_icmp_ne (tgt := 536) hx hb dL_watches_499 (by decide) (fun c_126 => ?_) (fun c_126 => ?_)
                            · skip
                              exact absurd rfl c_126
                            · skip
                              refine lv_aload_n hx hb dL_watches_502 rfl (lv_at hl 0 rfl) ?_
                              refine lv_iconst (v := nI 2) hx hb dL_watches_503 (by decide) ?_
                              refine lv_iload hx hb dL_watches_504 (lv_at hl 14 rfl) ?_
                              refine lv_iconst (v := nI 0) hx hb dL_watches_506 (by decide) ?_
                              refine zz_l (vx_runSX (As := [.ref (ad 0), .int (nI (2)), .int (nI (k)), .int (nI (0))]) (rest := []) ⟨hx, hb, hml, hown, hts⟩ (q_down2 l hfl hI.inv (by decide) hnd hAd (Nat.le_trans hz0 hS.1) hT  (nI (k)) (nI (0))) (vx_cwSW 4 hts gL_watches_L_down rfl rfl rfl (by decide +kernel) (by decide)) (psV hK hP hX (fun a h1 h2 => hS.2.1 a h1 h2)) rfl rfl hl.1 rfl (lv_room (Nat.le_of_ble_eq_true rfl)) dL_watches_507 ⟨show 2 + 9 * (k) + 2 + 2 + 1 + 1 + 2 + 1 ≤ 100 by omega, show 72 + 54 * (k) + 12 + 12 + 6 + 6 + 12 + 6 ≤ 600 by omega⟩) hS (fun q _ h => h) (fun q h => h) (fun r9 u_127 t9 H locs ht9 hv9 hp9 hB9 hz1 hk1 hS => ?_)
                              obtain ⟨e_127, hT⟩ := hp9
                              have hP := hB9.2
                              rw [ht9] at hP
                              clear hB9 ht9 hv9 hz1 hk1
                              have hcd_127 : cd1 (ixB (nI (k)) (K 5 0)) = 0 := cd1_0 (ix_t (by omega) (by omega))
                              have e_127 := e_127.trans ((rsl_0 hcd_127).trans (show lN (bud K (clN (nI (k)))) = lN (bud K ((k))) by first | rfl | simp only [clN_nI (show k < 2 ^ 31 by omega), clN_nI (show 0 < 2 ^ 31 by omega)]))
                              subst e_127
                              refine lv_iload hx hb dL_watches_510 (lv_at hl 15 rfl) ?_
                              refine zb_Beq (tgt := 529) hx hb dL_watches_512 (by decide) (fun c_128 => False.elim (by revert c_128; decide)) (fun _ => ?_)
                              refine lv_aload_n hx hb dL_watches_515 rfl (lv_at hl 2 rfl) ?_
                              refine lv_aload_n hx hb dL_watches_516 rfl (lv_at hl 3 rfl) ?_
                              refine lv_aload hx hb dL_watches_517 (lv_at hl 4 rfl) ?_
                              refine lv_aload hx hb dL_watches_519 (lv_at hl 5 rfl) ?_
                              refine lv_iload hx hb dL_watches_521 (lv_at hl 14 rfl) ?_
                              refine vp_callSl (W.runS (As := [.ref (ad 27), .ref (ad 28), .ref (ad 29), .ref (ad 30), .int (nI (k))]) (rest := [.long (lN (bud K ((k))))]) ⟨hx, hb, hml, hown, hts⟩ (l_burden l (hI) (by omega) (v := k) (by omega)) (va_cwS 5 hts gL_watches_L_burden rfl rfl rfl (by decide +kernel) (by decide)) (psA hK hP) rfl rfl hl.1 rfl (lv_room (Nat.le_of_ble_eq_true rfl)) dL_watches_523 ⟨show 2 + 9 * (k) + 2 + 2 + 1 + 1 + 2 + 1 + 0 ≤ 100 by omega, show 72 + 54 * (k) + 12 + 12 + 6 + 6 + 12 + 6 + 0 ≤ 600 by omega⟩) (fun r_129 hr_129 => ?_)
                              subst hr_129
                              have f_130 := bud_le ((hI).inv) (k)
                              refine lv_goto (tgt := 532) hx hb dL_watches_526 (by decide) ?_
                              refine zb_same_eq (tgt := 538) hx hb dL_watches_532 dL_watches_533 (by decide) ?_
                              refine lv_iinc (v := nI (k + 1)) (lv' := [(14, .int (nI (k + 1))), (0, .ref (ad 0)), (1, .int (g)), (2, .ref (ad 27)), (3, .ref (ad 28)), (4, .ref (ad 29)), (5, .ref (ad 30)), (6, .ref (ad 32)), (7, .ref (ad 33)), (8, .ref (ad 34)), (9, .ref (ad 35)), (10, .ref (ad 36)), (11, .ref (ad 37)), (12, .ref (ad 38)), (13, .int (nI (mo9))), (15, .int (bB (true))), (16, .int (bB (true))), (17, .int (nI (wst K k 35))), (18, .int (nI (ovr K k))), (19, .int (hvb K k mo9 (K 0 0))), (20, .long (lN (hvm K k mo9 (K 0 0)))), (22, .int (nI (K 0 0)))]) hx hb dL_watches_538 hl (k := 14) rfl (zn_inc (k)) (by decide) rfl (fun ls hl => ?_)
                              refine lv_goto (tgt := 41) hx hb dL_watches_541 (by decide) ?_
                              refine W.widen (show 2 + 9 * (k) + 2 + 2 + 1 + 1 + 2 + 1 ≤ 2 + 9 * (k + 1) by omega) (show 72 + 54 * (k) + 12 + 12 + 6 + 6 + 12 + 6 ≤ 72 + 54 * (k + 1) by omega) ?_
                              exact ih41 (k + 1) (by omega) (by omega) (u_127.1) (u_127.2) (_) hT _ _ hP hS _ (lv_sub hl [1, 2, 3, 4, 5, 6, 7, 8, 9, 10, 11, 12, 13, 14, 0] rfl)
                      · skip
                        refine lv_iload hx hb dL_watches_209 (lv_at hl 16 rfl) ?_
                        refine zb_Beq (tgt := 372) hx hb dL_watches_211 (by decide) (fun c_132 => False.elim (by revert c_132; decide)) (fun _ => ?_)
                        suffices mg259 : ∀ ls : Array Slot, lv_has ls 28 [(0, .ref (ad 0)), (1, .int (g)), (2, .ref (ad 27)), (3, .ref (ad 28)), (4, .ref (ad 29)), (5, .ref (ad 30)), (6, .ref (ad 32)), (7, .ref (ad 33)), (8, .ref (ad 34)), (9, .ref (ad 35)), (10, .ref (ad 36)), (11, .ref (ad 37)), (12, .ref (ad 38)), (13, .int (nI (mo9))), (14, .int (nI (k))), (15, .int (bB (true))), (16, .int (bB (true))), (17, .int (nI (wst K k 35))), (18, .int (nI (ovr K k))), (19, .int (hvb K k mo9 (w))), (20, .long (lN (hvm K k mo9 (w)))), (22, .int (nI (w)))] → W p l e (rmX 4 100) s m args below meth c H locs (2 + 9 * (k)) (72 + 54 * (k)) Q (F0 m 259 ls [.ref (ad (32 + (w)))]) by
                          refine lv_iload hx hb dL_watches_214 (lv_at hl 21 rfl) ?_
                          refine zb_0ne (tgt := 224) hx hb (by omega) dL_watches_216 (by decide) (fun c_133 => ?_) (fun c_133 => ?_)
                          · skip
                            refine lv_iload hx hb dL_watches_224 (lv_at hl 21 rfl) ?_
                            refine lv_iconst (v := nI 1) hx hb dL_watches_226 (by decide) ?_
                            refine zb_ne (tgt := 235) hx hb (by omega) (by omega) dL_watches_227 (by decide) (fun c_134 => ?_) (fun c_134 => ?_)
                            · skip
                              refine lv_iload hx hb dL_watches_235 (lv_at hl 21 rfl) ?_
                              refine lv_iconst (v := nI 2) hx hb dL_watches_237 (by decide) ?_
                              refine zb_ne (tgt := 246) hx hb (by omega) (by omega) dL_watches_238 (by decide) (fun c_135 => ?_) (fun c_135 => ?_)
                              · skip
                                refine lv_iload hx hb dL_watches_246 (lv_at hl 21 rfl) ?_
                                refine lv_iconst (v := nI 3) hx hb dL_watches_248 (by decide) ?_
                                refine zb_ne (tgt := 257) hx hb (by omega) (by omega) dL_watches_249 (by decide) (fun c_136 => ?_) (fun c_136 => ?_)
                                · skip
                                  refine lv_aload hx hb dL_watches_257 (lv_at hl 10 rfl) ?_
                                  refine zt_r (show ad 36 = ad (32 + (w)) from congrArg ad (by omega)) ?_
                                  exact mg259 _ (lv_sub hl [0, 1, 2, 3, 4, 5, 6, 7, 8, 9, 10, 11, 12, 13, 14, 15, 16, 17, 18, 19, 20, 21] rfl)
                                · skip
                                  refine lv_aload hx hb dL_watches_252 (lv_at hl 9 rfl) ?_
                                  refine lv_goto (tgt := 259) hx hb dL_watches_254 (by decide) ?_
                                  refine zt_r (show ad 35 = ad (32 + (w)) from congrArg ad (by omega)) ?_
                                  exact mg259 _ (lv_sub hl [0, 1, 2, 3, 4, 5, 6, 7, 8, 9, 10, 11, 12, 13, 14, 15, 16, 17, 18, 19, 20, 21] rfl)
                              · skip
                                refine lv_aload hx hb dL_watches_241 (lv_at hl 8 rfl) ?_
                                refine lv_goto (tgt := 259) hx hb dL_watches_243 (by decide) ?_
                                refine zt_r (show ad 34 = ad (32 + (w)) from congrArg ad (by omega)) ?_
                                exact mg259 _ (lv_sub hl [0, 1, 2, 3, 4, 5, 6, 7, 8, 9, 10, 11, 12, 13, 14, 15, 16, 17, 18, 19, 20, 21] rfl)
                            · skip
                              refine lv_aload hx hb dL_watches_230 (lv_at hl 7 rfl) ?_
                              refine lv_goto (tgt := 259) hx hb dL_watches_232 (by decide) ?_
                              refine zt_r (show ad 33 = ad (32 + (w)) from congrArg ad (by omega)) ?_
                              exact mg259 _ (lv_sub hl [0, 1, 2, 3, 4, 5, 6, 7, 8, 9, 10, 11, 12, 13, 14, 15, 16, 17, 18, 19, 20, 21] rfl)
                          · skip
                            refine lv_aload hx hb dL_watches_219 (lv_at hl 6 rfl) ?_
                            refine lv_goto (tgt := 259) hx hb dL_watches_221 (by decide) ?_
                            refine zt_r (show ad 32 = ad (32 + (w)) from congrArg ad (by omega)) ?_
                            exact mg259 _ (lv_sub hl [0, 1, 2, 3, 4, 5, 6, 7, 8, 9, 10, 11, 12, 13, 14, 15, 16, 17, 18, 19, 20, 21] rfl)
                        intro ls hl
                        refine lv_astore (lv' := [(23, .ref (ad (32 + (w)))), (0, .ref (ad 0)), (1, .int (g)), (2, .ref (ad 27)), (3, .ref (ad 28)), (4, .ref (ad 29)), (5, .ref (ad 30)), (6, .ref (ad 32)), (7, .ref (ad 33)), (8, .ref (ad 34)), (9, .ref (ad 35)), (10, .ref (ad 36)), (11, .ref (ad 37)), (12, .ref (ad 38)), (13, .int (nI (mo9))), (14, .int (nI (k))), (15, .int (bB (true))), (16, .int (bB (true))), (17, .int (nI (wst K k 35))), (18, .int (nI (ovr K k))), (19, .int (hvb K k mo9 (w))), (20, .long (lN (hvm K k mo9 (w)))), (22, .int (nI (w)))]) hx hb dL_watches_259 hl (by decide) rfl (fun ls hl => ?_)
                        refine lv_lconst (v := lN 0) hx hb dL_watches_261 (by decide) ?_
                        refine lv_lstore (lv' := [(24, .long (lN (0))), (23, .ref (ad (32 + (w)))), (0, .ref (ad 0)), (1, .int (g)), (2, .ref (ad 27)), (3, .ref (ad 28)), (4, .ref (ad 29)), (5, .ref (ad 30)), (6, .ref (ad 32)), (7, .ref (ad 33)), (8, .ref (ad 34)), (9, .ref (ad 35)), (10, .ref (ad 36)), (11, .ref (ad 37)), (12, .ref (ad 38)), (13, .int (nI (mo9))), (14, .int (nI (k))), (15, .int (bB (true))), (16, .int (bB (true))), (17, .int (nI (wst K k 35))), (18, .int (nI (ovr K k))), (19, .int (hvb K k mo9 (w))), (20, .long (lN (hvm K k mo9 (w)))), (22, .int (nI (w)))]) hx hb dL_watches_262 hl (by decide) rfl (fun ls hl => ?_)
                        refine lv_aload_n hx hb dL_watches_264 rfl (lv_at hl 5 rfl) ?_
                        refine lv_aload hx hb dL_watches_265 (lv_at hl 6 rfl) ?_
                        refine lv_iload hx hb dL_watches_267 (lv_at hl 23 rfl) ?_
                        refine lv_iload hx hb dL_watches_269 (lv_at hl 16 rfl) ?_
                        refine vp_callSi (W.runS (As := [.ref (ad 28), .ref (ad 29), .int (nI (w)), .int (nI (k))]) (rest := []) ⟨hx, hb, hml, hown, hts⟩ (l_reach l hI (by omega) (w := w) (v := k) (by omega) (by omega)) (va_cwS 4 hts gL_watches_L_reach rfl rfl rfl (by decide +kernel) (by decide)) (psA hK hP) rfl rfl hl.1 rfl (lv_room (Nat.le_of_ble_eq_true rfl)) dL_watches_271 ⟨show 2 + 9 * (k) + 0 ≤ 100 by omega, show 72 + 54 * (k) + 0 ≤ 600 by omega⟩) (fun r_137 hr_137 => ?_)
                        subst hr_137
                        have f_138 := rch_le hI.inv (w) (k)
                        refine lv_istore (lv' := [(26, .int (nI (rch K (w) (k)))), (24, .long (lN (0))), (23, .ref (ad (32 + (w)))), (0, .ref (ad 0)), (1, .int (g)), (2, .ref (ad 27)), (3, .ref (ad 28)), (4, .ref (ad 29)), (5, .ref (ad 30)), (6, .ref (ad 32)), (7, .ref (ad 33)), (8, .ref (ad 34)), (9, .ref (ad 35)), (10, .ref (ad 36)), (11, .ref (ad 37)), (12, .ref (ad 38)), (13, .int (nI (mo9))), (14, .int (nI (k))), (15, .int (bB (true))), (16, .int (bB (true))), (17, .int (nI (wst K k 35))), (18, .int (nI (ovr K k))), (19, .int (hvb K k mo9 (w))), (20, .long (lN (hvm K k mo9 (w)))), (22, .int (nI (w)))]) hx hb dL_watches_274 hl (by decide) rfl (fun ls hl => ?_)
                        have hR := rl5_s (rch K w k) mo9
                        suffices mg332 : ∀ ls : Array Slot, lv_has ls 28 [(26, .int (nI (rch K (w) (k)))), (24, .long (lN (lia K w k mo9))), (23, .ref (ad (32 + (w)))), (0, .ref (ad 0)), (1, .int (g)), (2, .ref (ad 27)), (3, .ref (ad 28)), (4, .ref (ad 29)), (5, .ref (ad 30)), (6, .ref (ad 32)), (7, .ref (ad 33)), (8, .ref (ad 34)), (9, .ref (ad 35)), (10, .ref (ad 36)), (11, .ref (ad 37)), (12, .ref (ad 38)), (13, .int (nI (mo9))), (14, .int (nI (k))), (15, .int (bB (true))), (16, .int (bB (true))), (17, .int (nI (wst K k 35))), (18, .int (nI (ovr K k))), (19, .int (hvb K k mo9 (w))), (20, .long (lN (hvm K k mo9 (w)))), (22, .int (nI (w)))] → W p l e (rmX 4 100) s m args below meth c H locs (2 + 9 * (k)) (72 + 54 * (k)) Q (F0 m 332 ls []) by
                          refine lv_iconst (v := nI 0) hx hb dL_watches_276 (by decide) ?_
                          refine lv_istore (lv' := [(27, .int (nI (0))), (26, .int (nI (rch K (w) (k)))), (24, .long (lN (0))), (23, .ref (ad (32 + (w)))), (0, .ref (ad 0)), (1, .int (g)), (2, .ref (ad 27)), (3, .ref (ad 28)), (4, .ref (ad 29)), (5, .ref (ad 30)), (6, .ref (ad 32)), (7, .ref (ad 33)), (8, .ref (ad 34)), (9, .ref (ad 35)), (10, .ref (ad 36)), (11, .ref (ad 37)), (12, .ref (ad 38)), (13, .int (nI (mo9))), (14, .int (nI (k))), (15, .int (bB (true))), (16, .int (bB (true))), (17, .int (nI (wst K k 35))), (18, .int (nI (ovr K k))), (19, .int (hvb K k mo9 (w))), (20, .long (lN (hvm K k mo9 (w)))), (22, .int (nI (w)))]) hx hb dL_watches_277 hl (by decide) rfl (fun ls hl => ?_)
                          have lp279 : ∀ (n9 d : Nat), d ≤ rl5 (rch K w k) mo9 → rl5 (rch K w k) mo9 - d < n9 → ∀ ls : Array Slot, lv_has ls 28 [(0, .ref (ad 0)), (1, .int (g)), (2, .ref (ad 27)), (3, .ref (ad 28)), (4, .ref (ad 29)), (5, .ref (ad 30)), (6, .ref (ad 32)), (7, .ref (ad 33)), (8, .ref (ad 34)), (9, .ref (ad 35)), (10, .ref (ad 36)), (11, .ref (ad 37)), (12, .ref (ad 38)), (13, .int (nI (mo9))), (14, .int (nI (k))), (15, .int (bB (true))), (16, .int (bB (true))), (17, .int (nI (wst K k 35))), (18, .int (nI (ovr K k))), (19, .int (hvb K k mo9 (w))), (20, .long (lN (hvm K k mo9 (w)))), (22, .int (nI (w))), (23, .ref (ad (32 + (w)))), (24, .long (lN (ssum (fun d => K (10 + 3 * w) mo9 * tbn K (rch K w k) d) (d)))), (26, .int (nI (rch K (w) (k)))), (27, .int (nI (d)))] → W p l e (rmX 4 100) s m args below meth c H locs (2 + 9 * (k)) (72 + 54 * (k)) Q (F0 m 279 ls []) := by
                            intro n9
                            induction n9 with
                            | zero => intro d q1 q2; omega
                            | succ n9 ih279 =>
                              intro d q1_279 q2_279 ls hl
                              refine lv_iload hx hb dL_watches_279 (lv_at hl 25 rfl) ?_
                              refine lv_bipush (v := nI 12) hx hb dL_watches_281 (by decide) ?_
                              refine zb_ge (tgt := 332) hx hb (by omega) (by omega) dL_watches_283 (by decide) (fun c_139 => ?_) (fun c_139 => ?_)
                              · skip
                                have q_140 : d = rl5 (rch K w k) mo9 := by omega
                                subst q_140
                                have hl := lv_cast (l2 := [(0, .ref (ad 0)), (1, .int (g)), (2, .ref (ad 27)), (3, .ref (ad 28)), (4, .ref (ad 29)), (5, .ref (ad 30)), (6, .ref (ad 32)), (7, .ref (ad 33)), (8, .ref (ad 34)), (9, .ref (ad 35)), (10, .ref (ad 36)), (11, .ref (ad 37)), (12, .ref (ad 38)), (13, .int (nI (mo9))), (14, .int (nI (k))), (15, .int (bB (true))), (16, .int (bB (true))), (17, .int (nI (wst K k 35))), (18, .int (nI (ovr K k))), (19, .int (hvb K k mo9 (w))), (20, .long (lN (hvm K k mo9 (w)))), (22, .int (nI (w))), (23, .ref (ad (32 + (w)))), (24, .long (lN (lia K w k mo9))), (26, .int (nI (rch K (w) (k)))), (27, .int (nI (rl5 (rch K w k) mo9)))]) hl (by rw [show lN (ssum (fun d => K (10 + 3 * w) mo9 * tbn K (rch K w k) d) (rl5 (rch K w k) mo9)) = lN (lia K w k mo9) from congrArg lN (lia_rl K w k mo9)])
                                exact mg332 _ (lv_sub hl [24, 23, 22, 0, 1, 2, 3, 4, 5, 6, 7, 8, 9, 10, 11, 12, 13, 14, 15, 16, 17, 18, 19, 20, 21] rfl)
                              · skip
                                refine lv_iload hx hb dL_watches_286 (lv_at hl 13 rfl) ?_
                                refine lv_iload hx hb dL_watches_288 (lv_at hl 25 rfl) ?_
                                refine zr_iadd hx hb dL_watches_290 ?_
                                refine lv_bipush (v := nI 36) hx hb dL_watches_291 (by decide) ?_
                                refine zb_ge (tgt := 332) hx hb (by omega) (by omega) dL_watches_293 (by decide) (fun c_141 => ?_) (fun c_141 => ?_)
                                · skip
                                  have q_142 : d = rl5 (rch K w k) mo9 := by omega
                                  subst q_142
                                  have hl := lv_cast (l2 := [(0, .ref (ad 0)), (1, .int (g)), (2, .ref (ad 27)), (3, .ref (ad 28)), (4, .ref (ad 29)), (5, .ref (ad 30)), (6, .ref (ad 32)), (7, .ref (ad 33)), (8, .ref (ad 34)), (9, .ref (ad 35)), (10, .ref (ad 36)), (11, .ref (ad 37)), (12, .ref (ad 38)), (13, .int (nI (mo9))), (14, .int (nI (k))), (15, .int (bB (true))), (16, .int (bB (true))), (17, .int (nI (wst K k 35))), (18, .int (nI (ovr K k))), (19, .int (hvb K k mo9 (w))), (20, .long (lN (hvm K k mo9 (w)))), (22, .int (nI (w))), (23, .ref (ad (32 + (w)))), (24, .long (lN (lia K w k mo9))), (26, .int (nI (rch K (w) (k)))), (27, .int (nI (rl5 (rch K w k) mo9)))]) hl (by rw [show lN (ssum (fun d => K (10 + 3 * w) mo9 * tbn K (rch K w k) d) (rl5 (rch K w k) mo9)) = lN (lia K w k mo9) from congrArg lN (lia_rl K w k mo9)])
                                  exact mg332 _ (lv_sub hl [24, 23, 22, 0, 1, 2, 3, 4, 5, 6, 7, 8, 9, 10, 11, 12, 13, 14, 15, 16, 17, 18, 19, 20, 21] rfl)
                                · skip
                                  refine lv_iload hx hb dL_watches_296 (lv_at hl 24 rfl) ?_
                                  refine lv_iconst (v := nI 5) hx hb dL_watches_298 (by decide) ?_
                                  refine zb_ge (tgt := 332) hx hb (by omega) (by omega) dL_watches_299 (by decide) (fun c_143 => ?_) (fun c_143 => ?_)
                                  · skip
                                    have q_144 : d = rl5 (rch K w k) mo9 := by omega
                                    subst q_144
                                    have hl := lv_cast (l2 := [(0, .ref (ad 0)), (1, .int (g)), (2, .ref (ad 27)), (3, .ref (ad 28)), (4, .ref (ad 29)), (5, .ref (ad 30)), (6, .ref (ad 32)), (7, .ref (ad 33)), (8, .ref (ad 34)), (9, .ref (ad 35)), (10, .ref (ad 36)), (11, .ref (ad 37)), (12, .ref (ad 38)), (13, .int (nI (mo9))), (14, .int (nI (k))), (15, .int (bB (true))), (16, .int (bB (true))), (17, .int (nI (wst K k 35))), (18, .int (nI (ovr K k))), (19, .int (hvb K k mo9 (w))), (20, .long (lN (hvm K k mo9 (w)))), (22, .int (nI (w))), (23, .ref (ad (32 + (w)))), (24, .long (lN (lia K w k mo9))), (26, .int (nI (rch K (w) (k)))), (27, .int (nI (rl5 (rch K w k) mo9)))]) hl (by rw [show lN (ssum (fun d => K (10 + 3 * w) mo9 * tbn K (rch K w k) d) (rl5 (rch K w k) mo9)) = lN (lia K w k mo9) from congrArg lN (lia_rl K w k mo9)])
                                    exact mg332 _ (lv_sub hl [24, 23, 22, 0, 1, 2, 3, 4, 5, 6, 7, 8, 9, 10, 11, 12, 13, 14, 15, 16, 17, 18, 19, 20, 21] rfl)
                                  · skip
                                    refine lv_lload hx hb dL_watches_302 (lv_at hl 23 rfl) ?_
                                    refine lv_aload hx hb dL_watches_304 (lv_at hl 22 rfl) ?_
                                    refine lv_iload hx hb dL_watches_306 (lv_at hl 13 rfl) ?_
                                    have f_145 := hI.inv.un (w) (by omega) (mo9)
                                    refine zi_ld hx hb hK hP (32 + (w)) (by omega) 0 (wx_p (by omega)) rfl (by decide) (i := mo9) (by omega) (v := nI (K (10 + 3 * (w)) (mo9))) rfl dL_watches_308 ?_
                                    refine zr_i2l hx hb (by omega) dL_watches_309 ?_
                                    refine lv_aload hx hb dL_watches_310 (lv_at hl 5 rfl) ?_
                                    refine lv_bipush (v := nI 12) hx hb dL_watches_312 (by decide) ?_
                                    refine lv_iload hx hb dL_watches_314 (lv_at hl 24 rfl) ?_
                                    refine zr_imul hx hb dL_watches_316 ?_
                                    refine lv_iload hx hb dL_watches_317 (lv_at hl 25 rfl) ?_
                                    refine zr_iadd hx hb dL_watches_319 ?_
                                    have f_146 := hI.inv.tb (rch K (w) (k)) (by omega) (d)
                                    refine zi_ld hx hb hK hP 30 (by decide) 0 rfl rfl (by decide) (i := ((12) * (rch K (w) (k))) + (d)) (by omega) (v := nI (K (11 + 3 * (rch K (w) (k))) (d))) (ft_1 (by omega)) dL_watches_320 ?_
                                    refine zr_i2l hx hb (by omega) dL_watches_321 ?_
                                    refine zr_lmul hx hb dL_watches_322 ?_
                                    refine zr_ladd hx hb dL_watches_323 ?_
                                    refine zt_l (y := lN (ssum (fun d => K (10 + 3 * w) mo9 * tbn K (rch K w k) d) (d + 1))) (congrArg lN (by rw [ssum_s, show tbn K (rch K w k) d = K (11 + 3 * rch K w k) d from if_pos (by omega)])) ?_
                                    refine lv_lstore (lv' := [(24, .long (lN (ssum (fun d => K (10 + 3 * w) mo9 * tbn K (rch K w k) d) (d + 1)))), (0, .ref (ad 0)), (1, .int (g)), (2, .ref (ad 27)), (3, .ref (ad 28)), (4, .ref (ad 29)), (5, .ref (ad 30)), (6, .ref (ad 32)), (7, .ref (ad 33)), (8, .ref (ad 34)), (9, .ref (ad 35)), (10, .ref (ad 36)), (11, .ref (ad 37)), (12, .ref (ad 38)), (13, .int (nI (mo9))), (14, .int (nI (k))), (15, .int (bB (true))), (16, .int (bB (true))), (17, .int (nI (wst K k 35))), (18, .int (nI (ovr K k))), (19, .int (hvb K k mo9 (w))), (20, .long (lN (hvm K k mo9 (w)))), (22, .int (nI (w))), (23, .ref (ad (32 + (w)))), (26, .int (nI (rch K (w) (k)))), (27, .int (nI (d)))]) hx hb dL_watches_324 hl (by decide) rfl (fun ls hl => ?_)
                                    refine lv_iinc (v := nI (d + 1)) (lv' := [(27, .int (nI (d + 1))), (24, .long (lN (ssum (fun d => K (10 + 3 * w) mo9 * tbn K (rch K w k) d) (d + 1)))), (0, .ref (ad 0)), (1, .int (g)), (2, .ref (ad 27)), (3, .ref (ad 28)), (4, .ref (ad 29)), (5, .ref (ad 30)), (6, .ref (ad 32)), (7, .ref (ad 33)), (8, .ref (ad 34)), (9, .ref (ad 35)), (10, .ref (ad 36)), (11, .ref (ad 37)), (12, .ref (ad 38)), (13, .int (nI (mo9))), (14, .int (nI (k))), (15, .int (bB (true))), (16, .int (bB (true))), (17, .int (nI (wst K k 35))), (18, .int (nI (ovr K k))), (19, .int (hvb K k mo9 (w))), (20, .long (lN (hvm K k mo9 (w)))), (22, .int (nI (w))), (23, .ref (ad (32 + (w)))), (26, .int (nI (rch K (w) (k))))]) hx hb dL_watches_326 hl (k := 25) rfl (zn_inc (d)) (by decide) rfl (fun ls hl => ?_)
                                    refine lv_goto (tgt := 279) hx hb dL_watches_329 (by decide) ?_
                                    exact ih279 (d + 1) (by omega) (by omega) _ (lv_sub hl [2, 3, 4, 5, 6, 7, 8, 9, 10, 11, 12, 13, 14, 15, 16, 17, 18, 19, 20, 21, 22, 23, 24, 1, 25, 0] rfl)
                          exact lp279 (rl5 (rch K w k) mo9 - (0) + 1) (0) (by omega) (by omega) _ (lv_sub hl [4, 5, 6, 7, 8, 9, 10, 11, 12, 13, 14, 15, 16, 17, 18, 19, 20, 21, 22, 23, 24, 25, 3, 2, 1, 0] rfl)
                        intro ls hl
                        suffices mg347 : ∀ ls : Array Slot, lv_has ls 28 [(26, .int (nI (rch K (w) (k)))), (24, .long (lN (lia K w k mo9))), (23, .ref (ad (32 + (w)))), (0, .ref (ad 0)), (1, .int (g)), (2, .ref (ad 27)), (3, .ref (ad 28)), (4, .ref (ad 29)), (5, .ref (ad 30)), (6, .ref (ad 32)), (7, .ref (ad 33)), (8, .ref (ad 34)), (9, .ref (ad 35)), (10, .ref (ad 36)), (11, .ref (ad 37)), (12, .ref (ad 38)), (13, .int (nI (mo9))), (14, .int (nI (k))), (15, .int (bB (true))), (16, .int (bB (true))), (17, .int (nI (wst K k 35))), (18, .int (nI (ovr K k))), (19, .int (hvb K k mo9 (w))), (20, .long (lN (hvm K k mo9 (w)))), (22, .int (nI (w)))] → W p l e (rmX 4 100) s m args below meth c H locs (2 + 9 * (k)) (72 + 54 * (k)) Q (F0 m 347 ls [.int (hvb K k mo9 (w + 1))]) by
                          refine lv_lload hx hb dL_watches_332 (lv_at hl 1 rfl) ?_
                          refine lv_lload hx hb dL_watches_334 (lv_at hl 23 rfl) ?_
                          refine zbL_le (tgt := 345) hx hb (by omega) (by omega) dL_watches_336 dL_watches_337 (by decide) (fun c_147 => ?_) (fun c_147 => ?_)
                          · skip
                            refine lv_iload hx hb dL_watches_345 (lv_at hl 22 rfl) ?_
                            refine zt_i (y := hvb K k mo9 (w + 1)) (by show _ = (if hvm K k mo9 w < lia K w k mo9 then nI w else hvb K k mo9 w); rw [if_neg (by omega)]) ?_
                            exact mg347 _ (lv_sub hl [0, 1, 2, 3, 4, 5, 6, 7, 8, 9, 10, 11, 12, 13, 14, 15, 16, 17, 18, 19, 20, 21, 22, 23, 24] rfl)
                          · skip
                            refine lv_iload hx hb dL_watches_340 (lv_at hl 24 rfl) ?_
                            refine lv_goto (tgt := 347) hx hb dL_watches_342 (by decide) ?_
                            refine zt_i (y := hvb K k mo9 (w + 1)) (by show _ = (if hvm K k mo9 w < lia K w k mo9 then nI w else hvb K k mo9 w); rw [if_pos (by omega)]) ?_
                            exact mg347 _ (lv_sub hl [0, 1, 2, 3, 4, 5, 6, 7, 8, 9, 10, 11, 12, 13, 14, 15, 16, 17, 18, 19, 20, 21, 22, 23, 24] rfl)
                        intro ls hl
                        refine lv_istore (lv' := [(19, .int (hvb K k mo9 (w + 1))), (26, .int (nI (rch K (w) (k)))), (24, .long (lN (lia K w k mo9))), (23, .ref (ad (32 + (w)))), (0, .ref (ad 0)), (1, .int (g)), (2, .ref (ad 27)), (3, .ref (ad 28)), (4, .ref (ad 29)), (5, .ref (ad 30)), (6, .ref (ad 32)), (7, .ref (ad 33)), (8, .ref (ad 34)), (9, .ref (ad 35)), (10, .ref (ad 36)), (11, .ref (ad 37)), (12, .ref (ad 38)), (13, .int (nI (mo9))), (14, .int (nI (k))), (15, .int (bB (true))), (16, .int (bB (true))), (17, .int (nI (wst K k 35))), (18, .int (nI (ovr K k))), (20, .long (lN (hvm K k mo9 (w)))), (22, .int (nI (w)))]) hx hb dL_watches_347 hl (by decide) rfl (fun ls hl => ?_)
                        suffices mg364 : ∀ ls : Array Slot, lv_has ls 28 [(19, .int (hvb K k mo9 (w + 1))), (26, .int (nI (rch K (w) (k)))), (24, .long (lN (lia K w k mo9))), (23, .ref (ad (32 + (w)))), (0, .ref (ad 0)), (1, .int (g)), (2, .ref (ad 27)), (3, .ref (ad 28)), (4, .ref (ad 29)), (5, .ref (ad 30)), (6, .ref (ad 32)), (7, .ref (ad 33)), (8, .ref (ad 34)), (9, .ref (ad 35)), (10, .ref (ad 36)), (11, .ref (ad 37)), (12, .ref (ad 38)), (13, .int (nI (mo9))), (14, .int (nI (k))), (15, .int (bB (true))), (16, .int (bB (true))), (17, .int (nI (wst K k 35))), (18, .int (nI (ovr K k))), (20, .long (lN (hvm K k mo9 (w)))), (22, .int (nI (w)))] → W p l e (rmX 4 100) s m args below meth c H locs (2 + 9 * (k)) (72 + 54 * (k)) Q (F0 m 364 ls [.long (lN (hvm K k mo9 (w + 1)))]) by
                          refine lv_lload hx hb dL_watches_349 (lv_at hl 2 rfl) ?_
                          refine lv_lload hx hb dL_watches_351 (lv_at hl 23 rfl) ?_
                          refine zbL_le (tgt := 362) hx hb (by omega) (by omega) dL_watches_353 dL_watches_354 (by decide) (fun c_148 => ?_) (fun c_148 => ?_)
                          · skip
                            refine lv_lload hx hb dL_watches_362 (lv_at hl 23 rfl) ?_
                            refine zt_l (y := lN (hvm K k mo9 (w + 1))) (congrArg lN (by show _ = (if hvm K k mo9 w < lia K w k mo9 then lia K w k mo9 else hvm K k mo9 w); rw [if_neg (by omega)])) ?_
                            exact mg364 _ (lv_sub hl [0, 1, 2, 3, 4, 5, 6, 7, 8, 9, 10, 11, 12, 13, 14, 15, 16, 17, 18, 19, 20, 21, 22, 23, 24] rfl)
                          · skip
                            refine lv_lload hx hb dL_watches_357 (lv_at hl 2 rfl) ?_
                            refine lv_goto (tgt := 364) hx hb dL_watches_359 (by decide) ?_
                            refine zt_l (y := lN (hvm K k mo9 (w + 1))) (congrArg lN (by show _ = (if hvm K k mo9 w < lia K w k mo9 then lia K w k mo9 else hvm K k mo9 w); rw [if_pos (by omega)])) ?_
                            exact mg364 _ (lv_sub hl [0, 1, 2, 3, 4, 5, 6, 7, 8, 9, 10, 11, 12, 13, 14, 15, 16, 17, 18, 19, 20, 21, 22, 23, 24] rfl)
                        intro ls hl
                        refine lv_lstore (lv' := [(20, .long (lN (hvm K k mo9 (w + 1)))), (19, .int (hvb K k mo9 (w + 1))), (26, .int (nI (rch K (w) (k)))), (24, .long (lN (lia K w k mo9))), (23, .ref (ad (32 + (w)))), (0, .ref (ad 0)), (1, .int (g)), (2, .ref (ad 27)), (3, .ref (ad 28)), (4, .ref (ad 29)), (5, .ref (ad 30)), (6, .ref (ad 32)), (7, .ref (ad 33)), (8, .ref (ad 34)), (9, .ref (ad 35)), (10, .ref (ad 36)), (11, .ref (ad 37)), (12, .ref (ad 38)), (13, .int (nI (mo9))), (14, .int (nI (k))), (15, .int (bB (true))), (16, .int (bB (true))), (17, .int (nI (wst K k 35))), (18, .int (nI (ovr K k))), (22, .int (nI (w)))]) hx hb dL_watches_364 hl (by decide) rfl (fun ls hl => ?_)
                        refine lv_iinc (v := nI (w + 1)) (lv' := [(22, .int (nI (w + 1))), (20, .long (lN (hvm K k mo9 (w + 1)))), (19, .int (hvb K k mo9 (w + 1))), (26, .int (nI (rch K (w) (k)))), (24, .long (lN (lia K w k mo9))), (23, .ref (ad (32 + (w)))), (0, .ref (ad 0)), (1, .int (g)), (2, .ref (ad 27)), (3, .ref (ad 28)), (4, .ref (ad 29)), (5, .ref (ad 30)), (6, .ref (ad 32)), (7, .ref (ad 33)), (8, .ref (ad 34)), (9, .ref (ad 35)), (10, .ref (ad 36)), (11, .ref (ad 37)), (12, .ref (ad 38)), (13, .int (nI (mo9))), (14, .int (nI (k))), (15, .int (bB (true))), (16, .int (bB (true))), (17, .int (nI (wst K k 35))), (18, .int (nI (ovr K k)))]) hx hb dL_watches_366 hl (k := 24) rfl (zn_inc (w)) (by decide) rfl (fun ls hl => ?_)
                        refine lv_goto (tgt := 201) hx hb dL_watches_369 (by decide) ?_
                        exact ih201 (w + 1) (by omega) (by omega) _ (lv_sub hl [6, 7, 8, 9, 10, 11, 12, 13, 14, 15, 16, 17, 18, 19, 20, 21, 22, 23, 24, 2, 1, 0] rfl)
                  exact lp201 (K 0 0 - (0) + 1) (0) (by omega) (by omega) _ (lv_sub hl [3, 4, 5, 6, 7, 8, 9, 10, 11, 12, 13, 14, 15, 16, 17, 18, 19, 20, 21, 2, 1, 0] rfl)
              · skip
                suffices mg148 : ∀ ls : Array Slot, lv_has ls 28 [(0, .ref (ad 0)), (1, .int (g)), (2, .ref (ad 27)), (3, .ref (ad 28)), (4, .ref (ad 29)), (5, .ref (ad 30)), (6, .ref (ad 32)), (7, .ref (ad 33)), (8, .ref (ad 34)), (9, .ref (ad 35)), (10, .ref (ad 36)), (11, .ref (ad 37)), (12, .ref (ad 38)), (13, .int (nI (mo9))), (14, .int (nI (k))), (15, .int (bB (true))), (16, .int (bB (bo9))), (17, .int (nI (wsm K k (mm)))), (18, .int (nI (ssum (fun m => ovc K k m) (mm)))), (19, .int (nI (mm)))] → W p l e (rmX 4 100) s m args below meth c H locs (2 + 9 * (k)) (72 + 54 * (k)) Q (F0 m 148 ls [.int (nI (wsm K k (mm + 1)))]) by
                  refine lv_aload hx hb dL_watches_127 (lv_at hl 11 rfl) ?_
                  refine lv_iload hx hb dL_watches_129 (lv_at hl 19 rfl) ?_
                  refine zl_ld hx hb hK hP 37 (by decide) 1 rfl rfl (by decide) (i := mm) (by omega) (v := u9 (mm)) rfl dL_watches_131 ?_
                  refine zt_l (y := lN (dd K k (mm))) (hrw (mm) (by omega)) ?_
                  refine lv_aload hx hb dL_watches_132 (lv_at hl 11 rfl) ?_
                  refine lv_iload hx hb dL_watches_134 (lv_at hl 17 rfl) ?_
                  refine zl_ld hx hb hK hP 37 (by decide) 1 rfl rfl (by decide) (i := wsm K k (mm)) (by omega) (v := u9 (wsm K k (mm))) rfl dL_watches_136 ?_
                  refine zt_l (y := lN (dd K k (wsm K k (mm)))) (hrw (wsm K k (mm)) (by omega)) ?_
                  refine zbL_le (tgt := 146) hx hb (by omega) (by omega) dL_watches_137 dL_watches_138 (by decide) (fun c_149 => ?_) (fun c_149 => ?_)
                  · skip
                    refine lv_iload hx hb dL_watches_146 (lv_at hl 17 rfl) ?_
                    refine zt_i (y := nI (wsm K k (mm + 1))) (congrArg nI (wsm_f c_149).symm) ?_
                    exact mg148 _ (lv_sub hl [0, 1, 2, 3, 4, 5, 6, 7, 8, 9, 10, 11, 12, 13, 14, 15, 16, 17, 18, 19] rfl)
                  · skip
                    refine lv_iload hx hb dL_watches_141 (lv_at hl 19 rfl) ?_
                    refine lv_goto (tgt := 148) hx hb dL_watches_143 (by decide) ?_
                    refine zt_i (y := nI (wsm K k (mm + 1))) (congrArg nI (wsm_t c_149).symm) ?_
                    exact mg148 _ (lv_sub hl [0, 1, 2, 3, 4, 5, 6, 7, 8, 9, 10, 11, 12, 13, 14, 15, 16, 17, 18, 19] rfl)
                intro ls hl
                refine lv_istore (lv' := [(17, .int (nI (wsm K k (mm + 1)))), (0, .ref (ad 0)), (1, .int (g)), (2, .ref (ad 27)), (3, .ref (ad 28)), (4, .ref (ad 29)), (5, .ref (ad 30)), (6, .ref (ad 32)), (7, .ref (ad 33)), (8, .ref (ad 34)), (9, .ref (ad 35)), (10, .ref (ad 36)), (11, .ref (ad 37)), (12, .ref (ad 38)), (13, .int (nI (mo9))), (14, .int (nI (k))), (15, .int (bB (true))), (16, .int (bB (bo9))), (18, .int (nI (ssum (fun m => ovc K k m) (mm)))), (19, .int (nI (mm)))]) hx hb dL_watches_148 hl (by decide) rfl (fun ls hl => ?_)
                refine lv_iload hx hb dL_watches_150 (lv_at hl 18 rfl) ?_
                suffices mg183 : ∀ ls : Array Slot, lv_has ls 28 [(17, .int (nI (wsm K k (mm + 1)))), (0, .ref (ad 0)), (1, .int (g)), (2, .ref (ad 27)), (3, .ref (ad 28)), (4, .ref (ad 29)), (5, .ref (ad 30)), (6, .ref (ad 32)), (7, .ref (ad 33)), (8, .ref (ad 34)), (9, .ref (ad 35)), (10, .ref (ad 36)), (11, .ref (ad 37)), (12, .ref (ad 38)), (13, .int (nI (mo9))), (14, .int (nI (k))), (15, .int (bB (true))), (16, .int (bB (bo9))), (18, .int (nI (ssum (fun m => ovc K k m) (mm)))), (19, .int (nI (mm)))] → W p l e (rmX 4 100) s m args below meth c H locs (2 + 9 * (k)) (72 + 54 * (k)) Q (F0 m 183 ls [.int (nI (ovc K k mm)), .int (nI (ssum (fun m => ovc K k m) (mm)))]) by
                  refine lv_iload hx hb dL_watches_152 (lv_at hl 16 rfl) ?_
                  refine zb_Beq (tgt := 182) hx hb dL_watches_154 (by decide) (fun c_150 => False.elim (by revert c_150; decide)) (fun _ => ?_)
                  refine lv_aload hx hb dL_watches_157 (lv_at hl 12 rfl) ?_
                  refine lv_iload hx hb dL_watches_159 (lv_at hl 19 rfl) ?_
                  refine zl_ld hx hb hK hP 37 (by decide) 1 rfl rfl (by decide) (i := mm) (by omega) (v := u9 (mm)) rfl dL_watches_161 ?_
                  refine zt_l (y := lN (dd K k (mm))) (hrw (mm) (by omega)) ?_
                  refine lv_ldc2 (own := RL) (v := 1000) hx hb hown (hts (.constantLong RL 130 (1000)) (by decide +kernel)) dL_watches_162 ?_
                  refine zt_l (y := lN 1000) rfl ?_
                  refine lv_aload hx hb dL_watches_165 (lv_at hl 5 rfl) ?_
                  refine lv_iconst (v := nI 3) hx hb dL_watches_167 (by decide) ?_
                  refine lv_iload hx hb dL_watches_168 (lv_at hl 15 rfl) ?_
                  refine zr_iadd hx hb dL_watches_170 ?_
                  have f_151 := hI.inv.lm (k)
                  refine zi_ld hx hb hK hP 29 (by decide) 0 rfl rfl (by decide) (i := 3 + (k)) (by omega) (v := nI (K 7 (k))) (fv_2 (by omega)) dL_watches_171 ?_
                  refine zr_i2l hx hb (by omega) dL_watches_172 ?_
                  refine zr_lmul hx hb dL_watches_173 ?_
                  refine zbL_le (tgt := 182) hx hb (by omega) (by omega) dL_watches_174 dL_watches_175 (by decide) (fun c_152 => ?_) (fun c_152 => ?_)
                  · skip
                    refine lv_iconst (v := nI 0) hx hb dL_watches_182 (by decide) ?_
                    refine zt_i (y := nI (ovc K k mm)) (congrArg nI (ovc_f (by omega)).symm) ?_
                    exact mg183 _ (lv_sub hl [0, 1, 2, 3, 4, 5, 6, 7, 8, 9, 10, 11, 12, 13, 14, 15, 16, 17, 18, 19] rfl)
                  · skip
                    refine lv_iconst (v := nI 1) hx hb dL_watches_178 (by decide) ?_
                    refine lv_goto (tgt := 183) hx hb dL_watches_179 (by decide) ?_
                    refine zt_i (y := nI (ovc K k mm)) (congrArg nI (ovc_t (by omega)).symm) ?_
                    exact mg183 _ (lv_sub hl [0, 1, 2, 3, 4, 5, 6, 7, 8, 9, 10, 11, 12, 13, 14, 15, 16, 17, 18, 19] rfl)
                intro ls hl
                refine zr_iadd hx hb dL_watches_183 ?_
                refine lv_istore (lv' := [(18, .int (nI ((ssum (fun m => ovc K k m) (mm)) + (ovc K k mm)))), (17, .int (nI (wsm K k (mm + 1)))), (0, .ref (ad 0)), (1, .int (g)), (2, .ref (ad 27)), (3, .ref (ad 28)), (4, .ref (ad 29)), (5, .ref (ad 30)), (6, .ref (ad 32)), (7, .ref (ad 33)), (8, .ref (ad 34)), (9, .ref (ad 35)), (10, .ref (ad 36)), (11, .ref (ad 37)), (12, .ref (ad 38)), (13, .int (nI (mo9))), (14, .int (nI (k))), (15, .int (bB (true))), (16, .int (bB (bo9))), (19, .int (nI (mm)))]) hx hb dL_watches_184 hl (by decide) rfl (fun ls hl => ?_)
                refine lv_iinc (v := nI (mm + 1)) (lv' := [(19, .int (nI (mm + 1))), (18, .int (nI ((ssum (fun m => ovc K k m) (mm)) + (ovc K k mm)))), (17, .int (nI (wsm K k (mm + 1)))), (0, .ref (ad 0)), (1, .int (g)), (2, .ref (ad 27)), (3, .ref (ad 28)), (4, .ref (ad 29)), (5, .ref (ad 30)), (6, .ref (ad 32)), (7, .ref (ad 33)), (8, .ref (ad 34)), (9, .ref (ad 35)), (10, .ref (ad 36)), (11, .ref (ad 37)), (12, .ref (ad 38)), (13, .int (nI (mo9))), (14, .int (nI (k))), (15, .int (bB (true))), (16, .int (bB (bo9)))]) hx hb dL_watches_186 hl (k := 19) rfl (zn_inc (mm)) (by decide) rfl (fun ls hl => ?_)
                refine lv_goto (tgt := 120) hx hb dL_watches_189 (by decide) ?_
                exact ih120 (mm + 1) (by omega) (by omega) _ (lv_sub hl [3, 4, 5, 6, 7, 8, 9, 10, 11, 12, 13, 14, 15, 16, 17, 18, 19, 2, 1, 0] rfl)
          exact lp120 (36 - (0) + 1) (0) (by omega) (by omega) _ (lv_sub hl [5, 6, 7, 8, 9, 10, 11, 12, 13, 14, 15, 16, 17, 18, 19, 4, 3, 2, 1, 0] rfl)
  refine W.widen (show 0 + 1 + 1 ≤ 2 + 9 * (0) by omega) (show 0 + 36 + 36 ≤ 72 + 54 * (0) by omega) ?_
  exact lp41 (K 5 0 + 1 - (0) + 1) (0) (by omega) (by omega) (ts) (pu) (fun _ => lN 0) hT _ _ hP hS _ (lv_sub hl [4, 5, 6, 7, 8, 9, 10, 11, 12, 13, 14, 3, 2, 1, 0] rfl)
