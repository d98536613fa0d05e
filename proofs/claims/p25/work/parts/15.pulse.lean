/-- a class method that writes and throws nothing -/
def KP0S (D : va_G) (ad : Nat → Nat) (cI cJ cQ : ClassId) (M : Mdl) (ts : Nat → Nat) (pu : Nat → Int64) (sz : Nat) (U : State) : Prop := U.heap.size = sz ∧ KP0 D ad cI cJ cQ M ts pu U
theorem pv0S {D : va_G} {ad : Nat → Nat} {cI cJ cQ : ClassId} {M : Mdl} {ts : Nat → Nat} {pu : Nat → Int64} {s : State} {H : Heap} {As : List Value} (hK : va_K D vwCl [(cI, .int), (cJ, .long), (cQ, .array .int)] s) (hP : va_P D vwCl (wz 27 ad (wcE ad cI cJ cQ M ts pu)) H) : PreV s H RX0 (ad 0) (va_Pc (.ref (ad 0) :: As) (KP0S D ad cI cJ cQ M ts pu H.size)) As :=
  ⟨fun a U g mk q => ⟨q.1, q.2.1, (bl0 (av := (.ref (ad 0) :: As)) a U g mk ⟨q.1, q.2.2⟩).2⟩, rc0 hK hP, fun U hU hW => ⟨rfl, by rw [hU], va_K.moved hW.alike hK, by rw [hU]; exact hP⟩⟩
theorem zer_k {pv : Nat → Int64} {k : Nat} (h : ∀ t, t < k → pv t = lN 0) : ∀ t, t < k + 1 → vp_updL pv k (lN 0) t = lN 0 := by
  intro t ht
  by_cases q : t = k
  · subst q
    exact pk_uLs
  · rw [pk_uLn q]
    exact h t (by omega)
set_option maxHeartbeats 4000000 in
set_option maxRecDepth 100000 in
/-- what a month of pumping lowers, laid on the row -/
theorem c0_layPulse (l : Launch) {D : va_G} {ad : Nat → Nat} {cI cJ cQ : ClassId} {M : Mdl} {ts : Nat → Nat} {pu : Nat → Int64} {sz : Nat} (hI : Inv M) (hnd : ndz 27 ad) {r mo x : Nat} (hr9 : r ≤ 9) (hmo : mo < 36) (hx31 : x < 2 ^ 31) : Met l yX0_layPulse wsX0_layPulse (rmP 1) (va_Pc [.ref (ad 0), .int (nI (r)), .int (nI (mo)), .int (nI (x))] (KP0S D ad cI cJ cQ M ts pu sz)) (va_Qv (fun (u_ : Nat → Int64) => ∀ t, u_ t = pu t + lN (if mo ≤ t ∧ t < mo + d12 (36 - mo) then x * tbn M r (t - mo) else 0)) (fun (u_ : Nat → Int64) t_ => KP0 D ad cI cJ cQ M ts u_ t_) (azs 27 ad sz)) 0 0 (azs 27 ad sz) := by
  refine mk_Qv (S := Nat → Int64) (post := fun u_ => ∀ t, u_ t = pu t + lN (if mo ≤ t ∧ t < mo + d12 (36 - mo) then x * tbn M r (t - mo) else 0)) (BQ := fun u_ t_ => KP0 D ad cI cJ cQ M ts u_ t_) (cc := cX0_layPulse) (maxL := 5) (by decide) rfl (Nat.le_of_ble_eq_true rfl) ?_
  intro p e s m args below meth c Q C0 B0 hret ls hl
  obtain ⟨hx, hb, hr, hml, hown, hts, hlocks⟩ := C0
  have hown : s.vm.findClass RX0 = some m.cls := hown
  obtain ⟨hsz, hK, hP⟩ := B0
  have hw0 : ∀ w ∈ wsX00, w.before args s = true := fun w h => hts w ((by decide +kernel : ∀ w ∈ wsX00, w ∈ wsX0_layPulse) w h)
  have b_nw := hI.nw
  have b_nv := hI.nv
  subst hsz
  have hAd : ∀ i, i < 27 → azs 27 ad s.heap.size (ad i) := fun i h => azs_i h
  have hS : va_S (azs 27 ad s.heap.size) s.heap s.heap [] := va_S.rf
  have hD := d12_s (36 - mo)
  have hl : lv_has ls 5 [(0, .ref (ad 0)), (1, .int (nI (r))), (2, .int (nI (mo))), (3, .int (nI (x)))] := hl
  refine lv_iconst (v := nI 0) hx hb dX0_layPulse_0 (by decide) ?_
  refine lv_istore (lv' := [(4, .int (nI (0))), (0, .ref (ad 0)), (1, .int (nI (r))), (2, .int (nI (mo))), (3, .int (nI (x)))]) hx hb dX0_layPulse_1 hl (by decide) rfl (fun ls hl => ?_)
  have lp3 : ∀ (n d : Nat), d ≤ d12 (36 - mo) → d12 (36 - mo) - d < n → ∀ (pv : Nat → Int64) (H : Heap) (locs : List Loc), (∀ t, pv t = pu t + lN (if mo ≤ t ∧ t < mo + (d) then x * tbn M r (t - mo) else 0)) → va_P D vwCl (wz 27 ad (wcE ad cI cJ cQ M ts pv)) H → va_S (azs 27 ad s.heap.size) s.heap H locs → ∀ ls : Array Slot, lv_has ls 5 [(0, .ref (ad 0)), (1, .int (nI (r))), (2, .int (nI (mo))), (3, .int (nI (x))), (4, .int (nI (d)))] → W p l e (rmP 1) s m args below meth c H locs 0 0 Q (F0 m 3 ls []) := by
    intro n
    induction n with
    | zero => intro d q1 q2; omega
    | succ n ih3 =>
      intro d q1_3 q2_3 pv H locs phi3 hP hS ls hl
      refine lv_iload hx hb dX0_layPulse_3 (lv_at hl 4 rfl) ?_
      refine lv_bipush (v := nI 12) hx hb dX0_layPulse_5 (by decide) ?_
      refine zb_ge (tgt := 48) hx hb (by omega) (by omega) dX0_layPulse_7 (by decide) (fun c_1 => ?_) (fun c_1 => ?_)
      · skip
        have q_2 : d = d12 (36 - mo) := by omega
        subst q_2
        exact hret (u := pv) phi3 hS (fun t ht hA => ⟨va_K.moved hA hK, by rw [ht]; exact hP⟩) dX0_layPulse_48
      · skip
        refine lv_iload_n hx hb dX0_layPulse_10 rfl (lv_at hl 2 rfl) ?_
        refine lv_iload hx hb dX0_layPulse_11 (lv_at hl 4 rfl) ?_
        refine zr_iadd hx hb dX0_layPulse_13 ?_
        refine lv_bipush (v := nI 36) hx hb dX0_layPulse_14 (by decide) ?_
        refine zb_ge (tgt := 48) hx hb (by omega) (by omega) dX0_layPulse_16 (by decide) (fun c_3 => ?_) (fun c_3 => ?_)
        · skip
          have q_4 : d = d12 (36 - mo) := by omega
          subst q_4
          exact hret (u := pv) phi3 hS (fun t ht hA => ⟨va_K.moved hA hK, by rw [ht]; exact hP⟩) dX0_layPulse_48
        · skip
          refine lv_aload_n hx hb dX0_layPulse_19 rfl (lv_at hl 0 rfl) ?_
          refine zg0 hx hb hw0 hown hK hP (by decide) rfl 9 (by decide) (hts (.fieldLink RX0 39 "WellField" "pulses" "[J") (by decide +kernel)) rfl rfl dX0_layPulse_20 ?_
          refine lv_iload_n hx hb dX0_layPulse_23 rfl (lv_at hl 2 rfl) ?_
          refine lv_iload hx hb dX0_layPulse_24 (lv_at hl 4 rfl) ?_
          refine zr_iadd hx hb dX0_layPulse_26 ?_
          refine lv_dup2_11 hx hb dX0_layPulse_27 rfl rfl ?_
          refine zl_ld hx hb hK hP 10 (by decide) 1 rfl rfl (by decide) (i := (mo) + (d)) (by omega) (v := (pv) ((mo) + (d))) rfl dX0_layPulse_28 ?_
          refine lv_iload_n hx hb dX0_layPulse_29 rfl (lv_at hl 3 rfl) ?_
          refine zr_i2l hx hb (by omega) dX0_layPulse_30 ?_
          refine lv_aload_n hx hb dX0_layPulse_31 rfl (lv_at hl 0 rfl) ?_
          refine lv_iload_n hx hb dX0_layPulse_32 rfl (lv_at hl 1 rfl) ?_
          refine lv_iload hx hb dX0_layPulse_33 (lv_at hl 4 rfl) ?_
          refine vp_callSi (W.runV (As := [.int (nI (r)), .int (nI (d))]) (rest := [.long (lN (x)), .long ((pv) ((mo) + (d))), .int (nI ((mo) + (d))), .ref (ad 10)]) ⟨hx, hb, hml, hown, hts⟩ (c0_tableNumber l hI (r := r) (d := d) (by omega) (by omega)) (cwV 2 hts gX0_layPulse_X0_tableNumber rfl rfl rfl (by decide +kernel) (by decide)) (pv0 hK hP) rfl rfl hl.1 rfl (lv_room (Nat.le_of_ble_eq_true rfl)) dX0_layPulse_35 (by decide)) (fun r_5 hr_5 => ?_)
          subst hr_5
          have f_6 := tbn_le hI (r) (d)
          refine zr_i2l hx hb (by omega) dX0_layPulse_38 ?_
          refine zr_lmul hx hb dX0_layPulse_39 ?_
          refine lv_ladd hx hb dX0_layPulse_40 ?_
          refine zl_st hx hb hK hP hnd hAd hS 10 (by decide) 1 rfl rfl (by decide) (i := (mo) + (d)) (by omega) (wcE ad cI cJ cQ (M) (ts) (vp_updL (pv) ((mo) + (d)) ((pv) ((mo) + (d)) + lN ((x) * (tbn M (r) (d)))))) wcS_pu dX0_layPulse_41 (fun H locs hP hS => ?_)
          refine lv_iinc (v := nI (d + 1)) (lv' := [(4, .int (nI (d + 1))), (0, .ref (ad 0)), (1, .int (nI (r))), (2, .int (nI (mo))), (3, .int (nI (x)))]) hx hb dX0_layPulse_42 hl (k := 4) rfl (zn_inc (d)) (by decide) rfl (fun ls hl => ?_)
          refine lv_goto (tgt := 3) hx hb dX0_layPulse_45 (by decide) ?_
          exact ih3 (d + 1) (by omega) (by omega) _ _ _ (lay_k (f := tbn M r) phi3) hP hS _ (lv_sub hl [1, 2, 3, 4, 0] rfl)
  exact lp3 (d12 (36 - mo) - (0) + 1) (0) (by omega) (by omega) _ _ _ (fun t => by rw [if_neg (by omega)]; exact (Int64.add_zero _).symm) hP hS _ (lv_sub hl [1, 2, 3, 4, 0] rfl)
set_option maxHeartbeats 4000000 in
set_option maxRecDepth 100000 in
/-- drawdownByPulses -/
theorem p0_drawdownByPulses (l : Launch) (hfl : l.stackTraces = false) {D : va_G} {ad : Nat → Nat} {cI cJ cQ : ClassId} {M : Mdl} {ts : Nat → Nat} {pu : Nat → Int64} {sa : Nat → Nat} {Z : Nat → Prop} {sz : Nat} (hI : Inv M) (hnd : ndz 27 ad)  (p0 p1 : Int32) : vx_Met l yX0_drawdownByPulses wsX0_drawdownByPulses (rmX 2 2) (va_Pc [.ref (ad 0), .int (p0), .int (p1)] (KP0X D ad cI cJ cQ M ts pu sa Z sz)) (va_Ql (fun r_ (u_ : Nat → Int64) => (ixB p0 (M 5 0) && ixB p1 36) = true ∧ r_ = lN (dd M (clN p0) (clN p1))) (fun (u_ : Nat → Int64) t_ => KP0 D ad cI cJ cQ M ts u_ t_) (azs 27 ad sz)) (XCE (fun E => (E = eI ∧ cd1 (ixB p0 (M 5 0) && ixB p1 36) = 1))) 2 12 (azs 27 ad sz) := by
  refine mkX_Ql (S := Nat → Int64) (post := fun r_ u_ => (ixB p0 (M 5 0) && ixB p1 36) = true ∧ r_ = lN (dd M (clN p0) (clN p1))) (BQ := fun u_ t_ => KP0 D ad cI cJ cQ M ts u_ t_) (cc := cX0_drawdownByPulses) (maxL := 5) (by decide) rfl (Nat.le_of_ble_eq_true rfl) ?_
  intro p e s m args below meth c Q C0 B0 hX hret ls hl
  obtain ⟨hx, hb, hr, hml, hown, hts, hlocks⟩ := C0
  have hown : s.vm.findClass RX0 = some m.cls := hown
  obtain ⟨hsz, hKX, hK, hP⟩ := B0
  have hw0 : ∀ w ∈ wsX00, w.before args s = true := fun w h => hts w ((by decide +kernel : ∀ w ∈ wsX00, w ∈ wsX0_drawdownByPulses) w h)
  have b_nw := hI.nw
  have b_nv := hI.nv
  subst hsz
  have hAd : ∀ i, i < 27 → azs 27 ad s.heap.size (ad i) := fun i h => azs_i h
  have hS : va_S (azs 27 ad s.heap.size) s.heap s.heap [] := va_S.rf
  have hl : lv_has ls 5 [(0, .ref (ad 0)), (1, .int (p0)), (2, .int (p1))] := hl
  refine lv_iload_n hx hb dX0_drawdownByPulses_0 rfl (lv_at hl 1 rfl) ?_
  refine lv_aload_n hx hb dX0_drawdownByPulses_1 rfl (lv_at hl 0 rfl) ?_
  refine zg0 hx hb hw0 hown hK hP (by decide) rfl 11 (by decide) (hts (.fieldLink RX0 55 "WellField" "watchCount" "I") (by decide +kernel)) rfl rfl dX0_drawdownByPulses_2 ?_
  refine zx_v (vx_runS (As := [.int (p0), .int (nI (M 5 0))]) (rest := []) ⟨hx, hb, hml, hown, hts⟩ (x0_needIndex l hfl (p0) (M 5 0)) (va_cwS 2 hts gX0_drawdownByPulses_X0_needIndex rfl rfl rfl (by decide +kernel) (by decide)) (psX hKX) rfl rfl hl.1 rfl (lv_room (Nat.le_of_ble_eq_true rfl)) dX0_drawdownByPulses_5 (by decide)) (fun hp hz hk q1 q2 q3 => hX (by decide) (by decide) (by obtain ⟨rfl, h⟩ := hp; simp [cd1, cd2, cd3, h]) hz hk q1 q2 q3) (fun b_1 => ?_)
  refine lv_iload_n hx hb dX0_drawdownByPulses_8 rfl (lv_at hl 2 rfl) ?_
  refine lv_bipush (v := nI 36) hx hb dX0_drawdownByPulses_9 (by decide) ?_
  refine zx_v (vx_runS (As := [.int (p1), .int (nI (36))]) (rest := []) ⟨hx, hb, hml, hown, hts⟩ (x0_needIndex l hfl (p1) (36)) (va_cwS 2 hts gX0_drawdownByPulses_X0_needIndex rfl rfl rfl (by decide +kernel) (by decide)) (psX hKX) rfl rfl hl.1 rfl (lv_room (Nat.le_of_ble_eq_true rfl)) dX0_drawdownByPulses_11 (by decide)) (fun hp hz hk q1 q2 q3 => hX (by decide) (by decide) (by obtain ⟨rfl, h⟩ := hp; simp [cd1, cd2, cd3, h, b_1]) hz hk q1 q2 q3) (fun b_2 => ?_)
  obtain ⟨v, h_v, rfl⟩ := ixB_of (by omega) b_1
  have cl_v : clN (nI v) = v := clN_nI (by omega)
  obtain ⟨mo, h_mo, rfl⟩ := ixB_of (by omega) b_2
  have cl_mo : clN (nI mo) = mo := clN_nI (by omega)
  refine lv_iconst (v := nI 0) hx hb dX0_drawdownByPulses_14 (by decide) ?_
  refine lv_istore_n (lv' := [(3, .int (nI (0))), (0, .ref (ad 0)), (1, .int (nI (v))), (2, .int (nI (mo)))]) hx hb dX0_drawdownByPulses_15 rfl hl (by decide) rfl (fun ls hl => ?_)
  have lp16 : ∀ (n k : Nat), k ≤ 36 → 36 - k < n → ∀ (pv : Nat → Int64) (H : Heap) (locs : List Loc), (∀ t, t < (k) → pv t = lN 0) → va_P D vwCl (wz 27 ad (wcE ad cI cJ cQ M ts pv)) H → va_S (azs 27 ad s.heap.size) s.heap H locs → ∀ ls : Array Slot, lv_has ls 5 [(0, .ref (ad 0)), (1, .int (nI (v))), (2, .int (nI (mo))), (3, .int (nI (k)))] → W p l e (rmX 2 2) s m args below meth c H locs 2 12 Q (F0 m 16 ls []) := by
    intro n
    induction n with
    | zero => intro k q1 q2; omega
    | succ n ih16 =>
      intro k q1_16 q2_16 pv H locs phi16 hP hS ls hl
      refine lv_iload_n hx hb dX0_drawdownByPulses_16 rfl (lv_at hl 3 rfl) ?_
      refine lv_bipush (v := nI 36) hx hb dX0_drawdownByPulses_17 (by decide) ?_
      refine zb_ge (tgt := 35) hx hb (by omega) (by omega) dX0_drawdownByPulses_19 (by decide) (fun c_3 => ?_) (fun c_3 => ?_)
      · skip
        have q_4 : k = 36 := by omega
        subst q_4
        refine lv_iconst (v := nI 0) hx hb dX0_drawdownByPulses_35 (by decide) ?_
        refine lv_istore_n (lv' := [(3, .int (nI (0))), (0, .ref (ad 0)), (1, .int (nI (v))), (2, .int (nI (mo)))]) hx hb dX0_drawdownByPulses_36 rfl hl (by decide) rfl (fun ls hl => ?_)
        have lp37 : ∀ (n w : Nat), w ≤ M 0 0 → M 0 0 - w < n → ∀ (pv : Nat → Int64) (H : Heap) (locs : List Loc), (∀ t, t < 36 → pv t = lN (pls M v t (w) 0)) → va_P D vwCl (wz 27 ad (wcE ad cI cJ cQ M ts pv)) H → va_S (azs 27 ad s.heap.size) s.heap H locs → ∀ ls : Array Slot, lv_has ls 5 [(0, .ref (ad 0)), (1, .int (nI (v))), (2, .int (nI (mo))), (3, .int (nI (w)))] → W p l e (rmX 2 2) s m args below meth c H locs 2 12 Q (F0 m 37 ls []) := by
          intro n
          induction n with
          | zero => intro w q1 q2; omega
          | succ n ih37 =>
            intro w q1_37 q2_37 pv H locs phi37 hP hS ls hl
            refine lv_iload_n hx hb dX0_drawdownByPulses_37 rfl (lv_at hl 3 rfl) ?_
            refine lv_aload_n hx hb dX0_drawdownByPulses_38 rfl (lv_at hl 0 rfl) ?_
            refine zg0 hx hb hw0 hown hK hP (by decide) rfl 10 (by decide) (hts (.fieldLink RX0 47 "WellField" "wellCount" "I") (by decide +kernel)) rfl rfl dX0_drawdownByPulses_39 ?_
            refine zb_ge (tgt := 88) hx hb (by omega) (by omega) dX0_drawdownByPulses_42 (by decide) (fun c_5 => ?_) (fun c_5 => ?_)
            · skip
              have q_6 : w = M 0 0 := by omega
              subst q_6
              refine lv_aload_n hx hb dX0_drawdownByPulses_88 rfl (lv_at hl 0 rfl) ?_
              refine zg0 hx hb hw0 hown hK hP (by decide) rfl 9 (by decide) (hts (.fieldLink RX0 39 "WellField" "pulses" "[J") (by decide +kernel)) rfl rfl dX0_drawdownByPulses_89 ?_
              refine lv_iload_n hx hb dX0_drawdownByPulses_92 rfl (lv_at hl 2 rfl) ?_
              refine zl_ld hx hb hK hP 10 (by decide) 1 rfl rfl (by decide) (i := mo) (by omega) (v := (pv) (mo)) rfl dX0_drawdownByPulses_93 ?_
              have hv9 : pv mo = lN (dd M v mo) := by rw [phi37 mo (by omega), pls_end M v (by omega)]
              exact hret (u := pv) (by decide) (by decide) (And.intro (by simp [b_1, b_2]) (by rw [hv9, cl_v, cl_mo])) hS (fun t ht hA => ⟨va_K.moved hA hK, by rw [ht]; exact hP⟩) dX0_drawdownByPulses_94
            · skip
              refine lv_iconst (v := nI 0) hx hb dX0_drawdownByPulses_45 (by decide) ?_
              refine lv_istore (lv' := [(4, .int (nI (0))), (0, .ref (ad 0)), (1, .int (nI (v))), (2, .int (nI (mo))), (3, .int (nI (w)))]) hx hb dX0_drawdownByPulses_46 hl (by decide) rfl (fun ls hl => ?_)
              have lp48 : ∀ (n j : Nat), j ≤ 36 → 36 - j < n → ∀ (pv : Nat → Int64) (H : Heap) (locs : List Loc), (∀ t, t < 36 → pv t = lN (pls M v t w (j))) → va_P D vwCl (wz 27 ad (wcE ad cI cJ cQ M ts pv)) H → va_S (azs 27 ad s.heap.size) s.heap H locs → ∀ ls : Array Slot, lv_has ls 5 [(0, .ref (ad 0)), (1, .int (nI (v))), (2, .int (nI (mo))), (3, .int (nI (w))), (4, .int (nI (j)))] → W p l e (rmX 2 2) s m args below meth c H locs 2 12 Q (F0 m 48 ls []) := by
                intro n
                induction n with
                | zero => intro j q1 q2; omega
                | succ n ih48 =>
                  intro j q1_48 q2_48 pv H locs phi48 hP hS ls hl
                  refine lv_iload hx hb dX0_drawdownByPulses_48 (lv_at hl 4 rfl) ?_
                  refine lv_bipush (v := nI 36) hx hb dX0_drawdownByPulses_50 (by decide) ?_
                  refine zb_ge (tgt := 82) hx hb (by omega) (by omega) dX0_drawdownByPulses_52 (by decide) (fun c_7 => ?_) (fun c_7 => ?_)
                  · skip
                    have q_8 : j = 36 := by omega
                    subst q_8
                    refine lv_iinc (v := nI (w + 1)) (lv' := [(3, .int (nI (w + 1))), (0, .ref (ad 0)), (1, .int (nI (v))), (2, .int (nI (mo))), (4, .int (nI (36)))]) hx hb dX0_drawdownByPulses_82 hl (k := 3) rfl (zn_inc (w)) (by decide) rfl (fun ls hl => ?_)
                    refine lv_goto (tgt := 37) hx hb dX0_drawdownByPulses_85 (by decide) ?_
                    exact ih37 (w + 1) (by omega) (by omega) _ _ _ (fun t ht => by rw [phi48 t ht, pls_s]) hP hS _ (lv_sub hl [1, 2, 3, 0] rfl)
                  · skip
                    refine lv_aload_n hx hb dX0_drawdownByPulses_55 rfl (lv_at hl 0 rfl) ?_
                    refine lv_aload_n hx hb dX0_drawdownByPulses_56 rfl (lv_at hl 0 rfl) ?_
                    refine lv_iload_n hx hb dX0_drawdownByPulses_57 rfl (lv_at hl 3 rfl) ?_
                    refine lv_iload_n hx hb dX0_drawdownByPulses_58 rfl (lv_at hl 1 rfl) ?_
                    refine vp_callSi (W.runV (As := [.int (nI (w)), .int (nI (v))]) (rest := [.ref (ad 0)]) ⟨hx, hb, hml, hown, hts⟩ (c0_reachOf l hI (w := w) (v := v) (by omega) (by omega)) (cwV 2 hts gX0_drawdownByPulses_X0_reachOf rfl rfl rfl (by decide +kernel) (by decide)) (pv0 hK hP) rfl rfl hl.1 rfl (lv_room (Nat.le_of_ble_eq_true rfl)) dX0_drawdownByPulses_59 (by decide)) (fun r_9 hr_9 => ?_)
                    subst hr_9
                    have f_10 := rch_le hI (w) (v)
                    refine lv_iload hx hb dX0_drawdownByPulses_62 (lv_at hl 4 rfl) ?_
                    refine lv_aload_n hx hb dX0_drawdownByPulses_64 rfl (lv_at hl 0 rfl) ?_
                    refine zg0 hx hb hw0 hown hK hP (by decide) rfl 3 (by decide) (hts (.fieldLink RX0 21 "WellField" "pumping" "[[I") (by decide +kernel)) rfl rfl dX0_drawdownByPulses_65 ?_
                    refine lv_iload_n hx hb dX0_drawdownByPulses_68 rfl (lv_at hl 3 rfl) ?_
                    refine zq_ld hx hb hK hP 4 (by decide) 2 rfl rfl (by decide) (i := w) (by omega) (a := ad (11 + (w))) rfl dX0_drawdownByPulses_69 ?_
                    refine lv_iload hx hb dX0_drawdownByPulses_70 (lv_at hl 4 rfl) ?_
                    refine zi_ld hx hb hK hP (11 + (w)) (by omega) 0 (wcE_pump (by omega)) rfl (by decide) (i := j) (by omega) (v := nI (M (10 + 3 * (w)) (j))) rfl dX0_drawdownByPulses_72 ?_
                    have f_11 := hI.un (w) (by omega) (j)
                    have hz9 := hS.1
                    refine va_callv (va_runV (As := [.int (nI (rch M (w) (v))), .int (nI (j)), .int (nI (M (10 + 3 * (w)) (j)))]) (rest := []) ⟨hx, hb, hml, hown, hts⟩ (c0_layPulse l (ts := ts) (pu := pv) (sz := H.size) hI hnd (r := rch M (w) (v)) (mo := j) (x := M (10 + 3 * (w)) (j)) (by omega) (by omega) (by omega)) (cwV 3 hts gX0_drawdownByPulses_X0_layPulse rfl rfl rfl (by decide +kernel) (by decide)) (pv0S hK hP) rfl rfl hl.1 rfl (lv_room (Nat.le_of_ble_eq_true rfl)) dX0_drawdownByPulses_73 (by decide)) hS (fun q _ h => azs_mono hz9 h) (fun q h => azs_mono hz9 h) (fun u9 t9 H1 locs1 ht9 hv9 hp9 hB9 hz1 hk1 hS1 => ?_)
                    have hP1 := hB9.2
                    rw [ht9] at hP1
                    clear hP hS hB9 ht9 hv9 hz1 hk1
                    have hP := hP1
                    have hS := hS1
                    refine lv_iinc (v := nI (j + 1)) (lv' := [(4, .int (nI (j + 1))), (0, .ref (ad 0)), (1, .int (nI (v))), (2, .int (nI (mo))), (3, .int (nI (w)))]) hx hb dX0_drawdownByPulses_76 hl (k := 4) rfl (zn_inc (j)) (by decide) rfl (fun ls hl => ?_)
                    refine lv_goto (tgt := 48) hx hb dX0_drawdownByPulses_79 (by decide) ?_
                    exact ih48 (j + 1) (by omega) (by omega) _ _ _ (fun t ht => by rw [hp9 t, phi48 t ht, lN_add]; exact congrArg lN (pls_k M v t w j)) hP hS _ (lv_sub hl [1, 2, 3, 4, 0] rfl)
              exact lp48 (36 - (0) + 1) (0) (by omega) (by omega) _ _ _ phi37 hP hS _ (lv_sub hl [1, 2, 3, 4, 0] rfl)
        exact lp37 (M 0 0 - (0) + 1) (0) (by omega) (by omega) _ _ _ (fun t ht => phi16 t ht) hP hS _ (lv_sub hl [1, 2, 3, 0] rfl)
      · skip
        refine lv_aload_n hx hb dX0_drawdownByPulses_22 rfl (lv_at hl 0 rfl) ?_
        refine zg0 hx hb hw0 hown hK hP (by decide) rfl 9 (by decide) (hts (.fieldLink RX0 39 "WellField" "pulses" "[J") (by decide +kernel)) rfl rfl dX0_drawdownByPulses_23 ?_
        refine lv_iload_n hx hb dX0_drawdownByPulses_26 rfl (lv_at hl 3 rfl) ?_
        refine lv_lconst (v := lN 0) hx hb dX0_drawdownByPulses_27 (by decide) ?_
        refine zl_st hx hb hK hP hnd hAd hS 10 (by decide) 1 rfl rfl (by decide) (i := k) (by omega) (wcE ad cI cJ cQ (M) (ts) (vp_updL (pv) (k) (lN (0)))) wcS_pu dX0_drawdownByPulses_28 (fun H locs hP hS => ?_)
        refine lv_iinc (v := nI (k + 1)) (lv' := [(3, .int (nI (k + 1))), (0, .ref (ad 0)), (1, .int (nI (v))), (2, .int (nI (mo)))]) hx hb dX0_drawdownByPulses_29 hl (k := 3) rfl (zn_inc (k)) (by decide) rfl (fun ls hl => ?_)
        refine lv_goto (tgt := 16) hx hb dX0_drawdownByPulses_32 (by decide) ?_
        exact ih16 (k + 1) (by omega) (by omega) _ _ _ (zer_k phi16) hP hS _ (lv_sub hl [1, 2, 3, 0] rfl)
  exact lp16 (36 - (0) + 1) (0) (by omega) (by omega) _ _ _ (fun t ht => by omega) hP hS _ (lv_sub hl [1, 2, 3, 0] rfl)
