set_option maxHeartbeats 4000000 in
set_option maxRecDepth 100000 in
/-- the law's loop -/
theorem law_loop {p : Program} {l : Launch} {e : Env} {s : State} {m : MethodId} {below : List Frame} {meth : Method} {c : Code} {b L : Nat} {xs : Nat → Int32} {Q : State → Prop} {D : va_G} {ad : Nat → Nat} {cI cJ cQ : ClassId} {X : Nat → va_E} {sa : Nat → Nat} (hx : p.tables.exec = Jvm.exec) (hb : c.code = cL_law) (hml : c.maxLocals = 19) (hown : s.vm.findClass RL = some m.cls) (hts : ∀ w ∈ wsL_law, w.before #[Value.ref b] s = true) (hXs : va_X b L xs s s.heap) (hbl : b < s.heap.size) (hL : L ≤ 260) (hfl : l.stackTraces = false) (hX : KL sa (zA s.heap.size) s) (hK : va_K D vwCl [(cI, .int), (cJ, .long), (cQ, .array .int)] s) (hnd : ndz 37 ad) (hAd : ∀ i, i < 37 → zA s.heap.size (ad i)) (hend : ∀ (H : Heap) (locs : List Loc) (ls : Array Slot) (cells slots : Nat), cells ≤ 600130 → slots ≤ 7301080 → va_S (zA s.heap.size) s.heap H locs → W p l e room_1 s m #[Value.ref b] below meth c H locs cells slots Q (F0 m 427 ls [])) {K : Mdl} {ts : Nat → Nat} {pu : Nat → Int64} {H : Heap} {locs : List Loc} {ls : Array Slot} (hI : Inl K) (hT : hTs K ts) (hP : va_P D vwCl (wz 37 ad (wxE ad cI cJ cQ K ts pu K X)) H) (hS : va_S (zA s.heap.size) s.heap H locs) (hl : lv_has ls 19 [(0, .ref (b)), (1, .ref (ad 0)), (2, .ref (ad 27)), (3, .ref (ad 28)), (4, .ref (ad 29)), (5, .ref (ad 30)), (6, .ref (ad 31)), (7, .ref (ad 32)), (8, .ref (ad 33)), (9, .ref (ad 34)), (10, .ref (ad 35)), (11, .ref (ad 36)), (12, .int (nI (0)))]) : W p l e room_1 s m #[Value.ref b] below meth c H locs (1000 + 320 * 0) (10000 + 1920 * 0) Q (F0 m 91 ls []) := by
  have hz0 : s.heap.size ≤ s.heap.size := Nat.le_refl _
  have lp91 : ∀ (n9 i : Nat), i ≤ 100 → 100 - i < n9 → ∀ (K : Mdl) (ts : Nat → Nat) (pu : Nat → Int64), (Inl K) → (hTs K ts) → ∀ (H : Heap) (locs : List Loc), va_P D vwCl (wz 37 ad (wxE ad cI cJ cQ (K) (ts) (pu) (K) (X))) H → va_S (zA s.heap.size) s.heap H locs → ∀ ls : Array Slot, lv_has ls 19 [(0, .ref (b)), (1, .ref (ad 0)), (2, .ref (ad 27)), (3, .ref (ad 28)), (4, .ref (ad 29)), (5, .ref (ad 30)), (6, .ref (ad 31)), (7, .ref (ad 32)), (8, .ref (ad 33)), (9, .ref (ad 34)), (10, .ref (ad 35)), (11, .ref (ad 36)), (12, .int (nI (i)))] → W p l e room_1 s m #[Value.ref b] below meth c H locs (1000 + 320 * (i)) (10000 + 1920 * (i)) Q (F0 m 91 ls []) := by
    intro n9
    induction n9 with
    | zero => intro i q1 q2; omega
    | succ n9 ih91 =>
      intro i q1_91 q2_91 K ts pu hI hT H locs hP hS ls hl
      have b_nw := hI.nw
      have b_nv := hI.nv
      refine lv_iload hx hb dL_law_91 (lv_at hl 12 rfl) ?_
      refine lv_bipush (v := nI 100) hx hb dL_law_93 (by decide) ?_
      refine zb_ge (tgt := 427) hx hb (by omega) (by omega) dL_law_95 (by decide) (fun c_1 => ?_) (fun c_1 => ?_)
      · skip
        have q_2 : i = 100 := by omega
        subst q_2
        exact hend _ _ _ _ _ (by omega) (by omega) hS
      · skip
        refine lv_aload_n hx hb dL_law_98 rfl (lv_at hl 0 rfl) ?_
        refine lv_iload hx hb dL_law_99 (lv_at hl 12 rfl) ?_
        refine vp_callSi (W.runS (As := [.ref (b), .int (nI (i))]) (rest := []) ⟨hx, hb, hml, hown, hts⟩ (l_cell l (b := b) (L := L) (xs := xs) (i := i) hL (by omega)) (va_cwS 2 hts gL_law_L_cell rfl rfl rfl (by decide +kernel) (by decide)) (psC hXs hbl hS) rfl rfl hl.1 rfl (lv_room (Nat.le_of_ble_eq_true rfl)) dL_law_101 ⟨show 1000 + 320 * (i) + 0 ≤ 600130 by omega, show 10000 + 1920 * (i) + 0 ≤ 7301080 by omega⟩) (fun r_3 _ => ?_)
        refine lv_istore (lv' := [(13, .int (r_3)), (0, .ref (b)), (1, .ref (ad 0)), (2, .ref (ad 27)), (3, .ref (ad 28)), (4, .ref (ad 29)), (5, .ref (ad 30)), (6, .ref (ad 31)), (7, .ref (ad 32)), (8, .ref (ad 33)), (9, .ref (ad 34)), (10, .ref (ad 35)), (11, .ref (ad 36)), (12, .int (nI (i)))]) hx hb dL_law_104 hl (by decide) rfl (fun ls hl => ?_)
        refine lv_iload hx hb dL_law_106 (lv_at hl 0 rfl) ?_
        refine lv_iconst (v := nI 4) hx hb dL_law_108 (by decide) ?_
        refine lv_ishr hx hb dL_law_109 ?_
        refine lv_istore (lv' := [(14, .int ((r_3) >>> (nI (4) &&& 31))), (13, .int (r_3)), (0, .ref (b)), (1, .ref (ad 0)), (2, .ref (ad 27)), (3, .ref (ad 28)), (4, .ref (ad 29)), (5, .ref (ad 30)), (6, .ref (ad 31)), (7, .ref (ad 32)), (8, .ref (ad 33)), (9, .ref (ad 34)), (10, .ref (ad 35)), (11, .ref (ad 36)), (12, .int (nI (i)))]) hx hb dL_law_110 hl (by decide) rfl (fun ls hl => ?_)
        suffices mg119 : ∀ (kd9 : Nat), (kd9 ≤ 13) → ∀ ls : Array Slot, lv_has ls 19 [(14, .int ((r_3) >>> (nI (4) &&& 31))), (13, .int (r_3)), (0, .ref (b)), (1, .ref (ad 0)), (2, .ref (ad 27)), (3, .ref (ad 28)), (4, .ref (ad 29)), (5, .ref (ad 30)), (6, .ref (ad 31)), (7, .ref (ad 32)), (8, .ref (ad 33)), (9, .ref (ad 34)), (10, .ref (ad 35)), (11, .ref (ad 36)), (12, .int (nI (i)))] → W p l e room_1 s m #[Value.ref b] below meth c H locs (1000 + 320 * (i)) (10000 + 1920 * (i)) Q (F0 m 119 ls [.int (nI (kd9))]) by
          refine lv_iload hx hb dL_law_112 (lv_at hl 1 rfl) ?_
          refine lv_bipush (v := nI 14) hx hb dL_law_114 (by decide) ?_
          refine vp_callSi (W.runS (As := [.int (r_3), .int (nI (14))]) (rest := []) ⟨hx, hb, hml, hown, hts⟩ (l_some l ((r_3)) (N := 14) (by omega) (by omega)) (va_cwS 2 hts gL_law_L_some rfl rfl rfl (by decide +kernel) (by decide)) (psN) rfl rfl hl.1 rfl (lv_room (Nat.le_of_ble_eq_true rfl)) dL_law_116 ⟨show 1000 + 320 * (i) + 0 ≤ 600130 by omega, show 10000 + 1920 * (i) + 0 ≤ 7301080 by omega⟩) (fun r_5 hr_5 => ?_)
          obtain ⟨r_5j, br_5, rfl⟩ := hr_5
          exact mg119 (r_5j) (by omega) _ (lv_sub hl [0, 1, 2, 3, 4, 5, 6, 7, 8, 9, 10, 11, 12, 13, 14] rfl)
        intro kd9 hkd ls hl
        refine lv_istore (lv' := [(15, .int (nI (kd9))), (14, .int ((r_3) >>> (nI (4) &&& 31))), (13, .int (r_3)), (0, .ref (b)), (1, .ref (ad 0)), (2, .ref (ad 27)), (3, .ref (ad 28)), (4, .ref (ad 29)), (5, .ref (ad 30)), (6, .ref (ad 31)), (7, .ref (ad 32)), (8, .ref (ad 33)), (9, .ref (ad 34)), (10, .ref (ad 35)), (11, .ref (ad 36)), (12, .int (nI (i)))]) hx hb dL_law_119 hl (by decide) rfl (fun ls hl => ?_)
        suffices mg131 : ∀ (we9 : Nat), (we9 ≤ K 0 0) → ∀ ls : Array Slot, lv_has ls 19 [(15, .int (nI (kd9))), (14, .int ((r_3) >>> (nI (4) &&& 31))), (13, .int (r_3)), (0, .ref (b)), (1, .ref (ad 0)), (2, .ref (ad 27)), (3, .ref (ad 28)), (4, .ref (ad 29)), (5, .ref (ad 30)), (6, .ref (ad 31)), (7, .ref (ad 32)), (8, .ref (ad 33)), (9, .ref (ad 34)), (10, .ref (ad 35)), (11, .ref (ad 36)), (12, .int (nI (i)))] → W p l e room_1 s m #[Value.ref b] below meth c H locs (1000 + 320 * (i)) (10000 + 1920 * (i)) Q (F0 m 131 ls [.int (nI (we9))]) by
          refine lv_iload hx hb dL_law_121 (lv_at hl 1 rfl) ?_
          refine lv_aload_n hx hb dL_law_123 rfl (lv_at hl 5 rfl) ?_
          refine lv_iconst (v := nI 0) hx hb dL_law_124 (by decide) ?_
          refine zi_ld hx hb hK hP 27 (by decide) 0 rfl rfl (by decide) (i := 0) (by omega) (v := nI (K 0 0)) rfl dL_law_125 ?_
          refine lv_iconst (v := nI 1) hx hb dL_law_126 (by decide) ?_
          refine zr_iadd hx hb dL_law_127 ?_
          refine vp_callSi (W.runS (As := [.int ((r_3) >>> (nI (4) &&& 31)), .int (nI ((K 0 0) + (1)))]) (rest := []) ⟨hx, hb, hml, hown, hts⟩ (l_some l (((r_3) >>> (nI (4) &&& 31))) (N := (K 0 0) + (1)) (by omega) (by omega)) (va_cwS 2 hts gL_law_L_some rfl rfl rfl (by decide +kernel) (by decide)) (psN) rfl rfl hl.1 rfl (lv_room (Nat.le_of_ble_eq_true rfl)) dL_law_128 ⟨show 1000 + 320 * (i) + 0 ≤ 600130 by omega, show 10000 + 1920 * (i) + 0 ≤ 7301080 by omega⟩) (fun r_6 hr_6 => ?_)
          obtain ⟨r_6j, br_6, rfl⟩ := hr_6
          exact mg131 (r_6j) (by omega) _ (lv_sub hl [0, 1, 2, 3, 4, 5, 6, 7, 8, 9, 10, 11, 12, 13, 14, 15] rfl)
        intro we9 hwe ls hl
        refine lv_istore (lv' := [(16, .int (nI (we9))), (15, .int (nI (kd9))), (14, .int ((r_3) >>> (nI (4) &&& 31))), (13, .int (r_3)), (0, .ref (b)), (1, .ref (ad 0)), (2, .ref (ad 27)), (3, .ref (ad 28)), (4, .ref (ad 29)), (5, .ref (ad 30)), (6, .ref (ad 31)), (7, .ref (ad 32)), (8, .ref (ad 33)), (9, .ref (ad 34)), (10, .ref (ad 35)), (11, .ref (ad 36)), (12, .int (nI (i)))]) hx hb dL_law_131 hl (by decide) rfl (fun ls hl => ?_)
        suffices mg178 : ∀ ls : Array Slot, lv_has ls 19 [(16, .int (nI (we9))), (15, .int (nI (kd9))), (14, .int ((r_3) >>> (nI (4) &&& 31))), (13, .int (r_3)), (0, .ref (b)), (1, .ref (ad 0)), (2, .ref (ad 27)), (3, .ref (ad 28)), (4, .ref (ad 29)), (5, .ref (ad 30)), (6, .ref (ad 31)), (7, .ref (ad 32)), (8, .ref (ad 33)), (9, .ref (ad 34)), (10, .ref (ad 35)), (11, .ref (ad 36)), (12, .int (nI (i)))] → W p l e room_1 s m #[Value.ref b] below meth c H locs (1000 + 320 * (i)) (10000 + 1920 * (i)) Q (F0 m 178 ls [.ref (ad (32 + (by5 (we9))))]) by
          refine lv_iload hx hb dL_law_133 (lv_at hl 0 rfl) ?_
          refine zb_0ne (tgt := 143) hx hb (by omega) dL_law_135 (by decide) (fun c_7 => ?_) (fun c_7 => ?_)
          · skip
            refine lv_iload hx hb dL_law_143 (lv_at hl 0 rfl) ?_
            refine lv_iconst (v := nI 1) hx hb dL_law_145 (by decide) ?_
            refine zb_ne (tgt := 154) hx hb (by omega) (by omega) dL_law_146 (by decide) (fun c_8 => ?_) (fun c_8 => ?_)
            · skip
              refine lv_iload hx hb dL_law_154 (lv_at hl 0 rfl) ?_
              refine lv_iconst (v := nI 2) hx hb dL_law_156 (by decide) ?_
              refine zb_ne (tgt := 165) hx hb (by omega) (by omega) dL_law_157 (by decide) (fun c_9 => ?_) (fun c_9 => ?_)
              · skip
                refine lv_iload hx hb dL_law_165 (lv_at hl 0 rfl) ?_
                refine lv_iconst (v := nI 3) hx hb dL_law_167 (by decide) ?_
                refine zb_ne (tgt := 176) hx hb (by omega) (by omega) dL_law_168 (by decide) (fun c_10 => ?_) (fun c_10 => ?_)
                · skip
                  refine lv_aload hx hb dL_law_176 (lv_at hl 15 rfl) ?_
                  refine zt_r (show ad 36 = ad (32 + (by5 (we9))) from congrArg ad (by have hb5 := by5_s (we9); omega)) ?_
                  exact mg178 _ (lv_sub hl [0, 1, 2, 3, 4, 5, 6, 7, 8, 9, 10, 11, 12, 13, 14, 15, 16] rfl)
                · skip
                  refine lv_aload hx hb dL_law_171 (lv_at hl 14 rfl) ?_
                  refine lv_goto (tgt := 178) hx hb dL_law_173 (by decide) ?_
                  refine zt_r (show ad 35 = ad (32 + (by5 (we9))) from congrArg ad (by have hb5 := by5_s (we9); omega)) ?_
                  exact mg178 _ (lv_sub hl [0, 1, 2, 3, 4, 5, 6, 7, 8, 9, 10, 11, 12, 13, 14, 15, 16] rfl)
              · skip
                refine lv_aload hx hb dL_law_160 (lv_at hl 13 rfl) ?_
                refine lv_goto (tgt := 178) hx hb dL_law_162 (by decide) ?_
                refine zt_r (show ad 34 = ad (32 + (by5 (we9))) from congrArg ad (by have hb5 := by5_s (we9); omega)) ?_
                exact mg178 _ (lv_sub hl [0, 1, 2, 3, 4, 5, 6, 7, 8, 9, 10, 11, 12, 13, 14, 15, 16] rfl)
            · skip
              refine lv_aload hx hb dL_law_149 (lv_at hl 12 rfl) ?_
              refine lv_goto (tgt := 178) hx hb dL_law_151 (by decide) ?_
              refine zt_r (show ad 33 = ad (32 + (by5 (we9))) from congrArg ad (by have hb5 := by5_s (we9); omega)) ?_
              exact mg178 _ (lv_sub hl [0, 1, 2, 3, 4, 5, 6, 7, 8, 9, 10, 11, 12, 13, 14, 15, 16] rfl)
          · skip
            refine lv_aload hx hb dL_law_138 (lv_at hl 11 rfl) ?_
            refine lv_goto (tgt := 178) hx hb dL_law_140 (by decide) ?_
            refine zt_r (show ad 32 = ad (32 + (by5 (we9))) from congrArg ad (by have hb5 := by5_s (we9); omega)) ?_
            exact mg178 _ (lv_sub hl [0, 1, 2, 3, 4, 5, 6, 7, 8, 9, 10, 11, 12, 13, 14, 15, 16] rfl)
        intro ls hl
        refine lv_astore (lv' := [(17, .ref (ad (32 + (by5 (we9))))), (16, .int (nI (we9))), (15, .int (nI (kd9))), (14, .int ((r_3) >>> (nI (4) &&& 31))), (13, .int (r_3)), (0, .ref (b)), (1, .ref (ad 0)), (2, .ref (ad 27)), (3, .ref (ad 28)), (4, .ref (ad 29)), (5, .ref (ad 30)), (6, .ref (ad 31)), (7, .ref (ad 32)), (8, .ref (ad 33)), (9, .ref (ad 34)), (10, .ref (ad 35)), (11, .ref (ad 36)), (12, .int (nI (i)))]) hx hb dL_law_178 hl (by decide) rfl (fun ls hl => ?_)
        suffices mg350 : ∀ (K : Mdl) (ts : Nat → Nat) (pu : Nat → Int64), Inl K → hTs K ts → ∀ (H : Heap) (locs : List Loc), va_P D vwCl (wz 37 ad (wxE ad cI cJ cQ (K) (ts) (pu) (K) (X))) H → va_S (zA s.heap.size) s.heap H locs → ∀ ls : Array Slot, lv_has ls 19 [(14, .int ((r_3) >>> (nI (4) &&& 31))), (0, .ref (b)), (1, .ref (ad 0)), (2, .ref (ad 27)), (3, .ref (ad 28)), (4, .ref (ad 29)), (5, .ref (ad 30)), (6, .ref (ad 31)), (7, .ref (ad 32)), (8, .ref (ad 33)), (9, .ref (ad 34)), (10, .ref (ad 35)), (11, .ref (ad 36)), (12, .int (nI (i)))] → W p l e room_1 s m #[Value.ref b] below meth c H locs (1000 + 320 * (i) + 20) (10000 + 1920 * (i) + 120) Q (F0 m 350 ls [.int (bB (true))]) by
          refine lv_iload hx hb dL_law_180 (lv_at hl 17 rfl) ?_
          refine lv_iconst (v := nI 3) hx hb dL_law_182 (by decide) ?_
          refine zb_ge (tgt := 204) hx hb (by omega) (by omega) dL_law_183 (by decide) (fun c_11 => ?_) (fun c_11 => ?_)
          · skip
            refine lv_iload hx hb dL_law_204 (lv_at hl 17 rfl) ?_
            refine lv_iconst (v := nI 5) hx hb dL_law_206 (by decide) ?_
            refine zb_ge (tgt := 228) hx hb (by omega) (by omega) dL_law_207 (by decide) (fun c_12 => ?_) (fun c_12 => ?_)
            · skip
              refine lv_iload hx hb dL_law_228 (lv_at hl 17 rfl) ?_
              refine lv_bipush (v := nI 15) hx hb dL_law_230 (by decide) ?_
              refine zb_ge (tgt := 253) hx hb (by omega) (by omega) dL_law_232 (by decide) (fun c_13 => ?_) (fun c_13 => ?_)
              · skip
                refine lv_iload hx hb dL_law_253 (lv_at hl 2 rfl) ?_
                refine lv_iconst (v := nI 4) hx hb dL_law_255 (by decide) ?_
                refine zb_ge (tgt := 278) hx hb (by omega) (by omega) dL_law_256 (by decide) (fun c_14 => ?_) (fun c_14 => ?_)
                · skip
                  refine lv_iload hx hb dL_law_278 (lv_at hl 2 rfl) ?_
                  refine lv_bipush (v := nI 10) hx hb dL_law_280 (by decide) ?_
                  refine zb_ge (tgt := 311) hx hb (by omega) (by omega) dL_law_282 (by decide) (fun c_15 => ?_) (fun c_15 => ?_)
                  · skip
                    refine lv_iload hx hb dL_law_311 (lv_at hl 2 rfl) ?_
                    refine lv_bipush (v := nI 12) hx hb dL_law_313 (by decide) ?_
                    refine zb_ge (tgt := 335) hx hb (by omega) (by omega) dL_law_315 (by decide) (fun c_16 => ?_) (fun c_16 => ?_)
                    · skip
                      refine lv_aload_n hx hb dL_law_335 rfl (lv_at hl 6 rfl) ?_
                      refine lv_iconst (v := nI 3) hx hb dL_law_336 (by decide) ?_
                      refine lv_iload hx hb dL_law_337 (lv_at hl 3 rfl) ?_
                      refine lv_aload_n hx hb dL_law_339 rfl (lv_at hl 7 rfl) ?_
                      refine lv_aload_n hx hb dL_law_340 rfl (lv_at hl 8 rfl) ?_
                      refine lv_aload hx hb dL_law_341 (lv_at hl 9 rfl) ?_
                      refine lv_aload hx hb dL_law_343 (lv_at hl 10 rfl) ?_
                      refine lv_aload hx hb dL_law_345 (lv_at hl 11 rfl) ?_
                      refine va_calli (va_runS (As := [.ref (ad 0), .int (nI (3)), .int ((r_3) >>> (nI (4) &&& 31)), .ref (ad 27), .ref (ad 28), .ref (ad 29), .ref (ad 30), .ref (ad 31)]) (rest := []) ⟨hx, hb, hml, hown, hts⟩ (l_lays3 l hfl hI hnd hAd (Nat.le_trans hz0 hS.1) hT (((r_3) >>> (nI (4) &&& 31)))) (va_cwS 8 hts gL_law_L_lays rfl rfl rfl (by decide +kernel) (by decide)) (psV hK hP hX (fun a h1 h2 => hS.2.1 a h1 h2)) rfl rfl hl.1 rfl (lv_room (Nat.le_of_ble_eq_true rfl)) dL_law_347 ⟨show 1000 + 320 * (i) + 10 ≤ 600130 by omega, show 10000 + 1920 * (i) + 60 ≤ 7301080 by omega⟩) hS (fun q _ h => h) (fun q h => h) (fun r9 u_17 t9 H locs ht9 hv9 hp9 hB9 hz1 hk1 hS => ?_)
                      obtain ⟨bb, hr9, hbt, hI, hT⟩ := hp9
                      subst hbt
                      subst hr9
                      have hP := hB9.2
                      rw [ht9] at hP
                      clear hB9 ht9 hv9 hz1 hk1
                      refine W.widen (show 1000 + 320 * (i) + 10 ≤ 1000 + 320 * (i) + 20 by omega) (show 10000 + 1920 * (i) + 60 ≤ 10000 + 1920 * (i) + 120 by omega) ?_
                      exact mg350 (u_17.1) (u_17.2.1) (u_17.2.2) hI hT _ _ hP hS _ (lv_sub hl [3, 5, 6, 7, 8, 9, 10, 11, 12, 13, 14, 15, 16, 17] rfl)
                    · skip
                      refine lv_aload_n hx hb dL_law_318 rfl (lv_at hl 6 rfl) ?_
                      refine lv_iload hx hb dL_law_319 (lv_at hl 3 rfl) ?_
                      refine lv_aload_n hx hb dL_law_321 rfl (lv_at hl 7 rfl) ?_
                      refine lv_aload_n hx hb dL_law_322 rfl (lv_at hl 8 rfl) ?_
                      refine lv_aload hx hb dL_law_323 (lv_at hl 9 rfl) ?_
                      refine lv_aload hx hb dL_law_325 (lv_at hl 10 rfl) ?_
                      refine lv_aload hx hb dL_law_327 (lv_at hl 11 rfl) ?_
                      refine va_calli (va_runS (As := [.ref (ad 0), .int ((r_3) >>> (nI (4) &&& 31)), .ref (ad 27), .ref (ad 28), .ref (ad 29), .ref (ad 30), .ref (ad 31)]) (rest := []) ⟨hx, hb, hml, hown, hts⟩ (l_deals l hfl hI hnd hAd (Nat.le_trans hz0 hS.1) hT (((r_3) >>> (nI (4) &&& 31)))) (va_cwS 7 hts gL_law_L_deals rfl rfl rfl (by decide +kernel) (by decide)) (psV hK hP hX (fun a h1 h2 => hS.2.1 a h1 h2)) rfl rfl hl.1 rfl (lv_room (Nat.le_of_ble_eq_true rfl)) dL_law_329 ⟨show 1000 + 320 * (i) + 20 ≤ 600130 by omega, show 10000 + 1920 * (i) + 120 ≤ 7301080 by omega⟩) hS (fun q _ h => h) (fun q h => h) (fun r9 u_18 t9 H locs ht9 hv9 hp9 hB9 hz1 hk1 hS => ?_)
                      obtain ⟨bb, hr9, hbt, hI, hT⟩ := hp9
                      subst hbt
                      subst hr9
                      have hP := hB9.2
                      rw [ht9] at hP
                      clear hB9 ht9 hv9 hz1 hk1
                      refine lv_goto (tgt := 350) hx hb dL_law_332 (by decide) ?_
                      refine W.widen (show 1000 + 320 * (i) + 20 ≤ 1000 + 320 * (i) + 20 by omega) (show 10000 + 1920 * (i) + 120 ≤ 10000 + 1920 * (i) + 120 by omega) ?_
                      exact mg350 (u_18.1) (u_18.2.1) (u_18.2.2) hI hT _ _ hP hS _ (lv_sub hl [3, 5, 6, 7, 8, 9, 10, 11, 12, 13, 14, 15, 16, 17] rfl)
                  · skip
                    refine lv_aload_n hx hb dL_law_285 rfl (lv_at hl 6 rfl) ?_
                    refine lv_iload hx hb dL_law_286 (lv_at hl 2 rfl) ?_
                    refine lv_bipush (v := nI 9) hx hb dL_law_288 (by decide) ?_
                    refine zb_ne (tgt := 297) hx hb (by omega) (by omega) dL_law_290 (by decide) (fun c_19 => ?_) (fun c_19 => ?_)
                    · skip
                      refine lv_iconst (v := nI 0) hx hb dL_law_297 (by decide) ?_
                      refine zt_i (y := bB false) rfl ?_
                      refine lv_iload hx hb dL_law_298 (lv_at hl 3 rfl) ?_
                      refine lv_aload_n hx hb dL_law_300 rfl (lv_at hl 7 rfl) ?_
                      refine lv_aload hx hb dL_law_301 (lv_at hl 0 rfl) ?_
                      refine lv_iload hx hb dL_law_303 (lv_at hl 1 rfl) ?_
                      refine va_calli (va_runS (As := [.ref (ad 0), .int (bB (false)), .int ((r_3) >>> (nI (4) &&& 31)), .ref (ad 27), .ref (ad (32 + (by5 (we9)))), .int (nI (we9))]) (rest := []) ⟨hx, hb, hml, hown, hts⟩ (l_pumps0 l hfl hI hnd hAd (Nat.le_trans hz0 hS.1) hT (((r_3) >>> (nI (4) &&& 31))) (b9 := by5 we9) (w9 := we9) (by5_lt _) (by omega) (fun h => by5_w (by omega))) (va_cwS 6 hts gL_law_L_pumps rfl rfl rfl (by decide +kernel) (by decide)) (psV hK hP hX (fun a h1 h2 => hS.2.1 a h1 h2)) rfl rfl hl.1 rfl (lv_room (Nat.le_of_ble_eq_true rfl)) dL_law_305 ⟨show 1000 + 320 * (i) + 10 ≤ 600130 by omega, show 10000 + 1920 * (i) + 60 ≤ 7301080 by omega⟩) hS (fun q _ h => h) (fun q h => h) (fun r9 u_20 t9 H locs ht9 hv9 hp9 hB9 hz1 hk1 hS => ?_)
                      obtain ⟨bb, hr9, hbt, hI, hT⟩ := hp9
                      subst hbt
                      subst hr9
                      have hP := hB9.2
                      rw [ht9] at hP
                      clear hB9 ht9 hv9 hz1 hk1
                      refine lv_goto (tgt := 350) hx hb dL_law_308 (by decide) ?_
                      refine W.widen (show 1000 + 320 * (i) + 10 ≤ 1000 + 320 * (i) + 20 by omega) (show 10000 + 1920 * (i) + 60 ≤ 10000 + 1920 * (i) + 120 by omega) ?_
                      exact mg350 (u_20.1) (u_20.2.1) (u_20.2.2) hI hT _ _ hP hS _ (lv_sub hl [3, 5, 6, 7, 8, 9, 10, 11, 12, 13, 14, 15, 16, 17] rfl)
                    · skip
                      refine lv_iconst (v := nI 1) hx hb dL_law_293 (by decide) ?_
                      refine lv_goto (tgt := 298) hx hb dL_law_294 (by decide) ?_
                      refine zt_i (y := bB true) rfl ?_
                      refine lv_iload hx hb dL_law_298 (lv_at hl 3 rfl) ?_
                      refine lv_aload_n hx hb dL_law_300 rfl (lv_at hl 7 rfl) ?_
                      refine lv_aload hx hb dL_law_301 (lv_at hl 0 rfl) ?_
                      refine lv_iload hx hb dL_law_303 (lv_at hl 1 rfl) ?_
                      refine va_calli (va_runS (As := [.ref (ad 0), .int (bB (true)), .int ((r_3) >>> (nI (4) &&& 31)), .ref (ad 27), .ref (ad (32 + (by5 (we9)))), .int (nI (we9))]) (rest := []) ⟨hx, hb, hml, hown, hts⟩ (l_pumps1 l hfl hI hnd hAd (Nat.le_trans hz0 hS.1) hT (((r_3) >>> (nI (4) &&& 31))) (b9 := by5 we9) (w9 := we9) (by5_lt _) (by omega) (fun h => by5_w (by omega))) (va_cwS 6 hts gL_law_L_pumps rfl rfl rfl (by decide +kernel) (by decide)) (psV hK hP hX (fun a h1 h2 => hS.2.1 a h1 h2)) rfl rfl hl.1 rfl (lv_room (Nat.le_of_ble_eq_true rfl)) dL_law_305 ⟨show 1000 + 320 * (i) + 10 ≤ 600130 by omega, show 10000 + 1920 * (i) + 60 ≤ 7301080 by omega⟩) hS (fun q _ h => h) (fun q h => h) (fun r9 u_21 t9 H locs ht9 hv9 hp9 hB9 hz1 hk1 hS => ?_)
                      obtain ⟨bb, hr9, hbt, hI, hT⟩ := hp9
                      subst hbt
                      subst hr9
                      have hP := hB9.2
                      rw [ht9] at hP
                      clear hB9 ht9 hv9 hz1 hk1
                      refine lv_goto (tgt := 350) hx hb dL_law_308 (by decide) ?_
                      refine W.widen (show 1000 + 320 * (i) + 10 ≤ 1000 + 320 * (i) + 20 by omega) (show 10000 + 1920 * (i) + 60 ≤ 10000 + 1920 * (i) + 120 by omega) ?_
                      exact mg350 (u_21.1) (u_21.2.1) (u_21.2.2) hI hT _ _ hP hS _ (lv_sub hl [3, 5, 6, 7, 8, 9, 10, 11, 12, 13, 14, 15, 16, 17] rfl)
                · skip
                  rcases (show kd9 = 0 ∨ kd9 = 1 ∨ kd9 = 2 ∨ kd9 = 3 by omega) with rfl | rfl | rfl | rfl
                  · skip
                    refine lv_aload_n hx hb dL_law_259 rfl (lv_at hl 6 rfl) ?_
                    refine lv_iload hx hb dL_law_260 (lv_at hl 2 rfl) ?_
                    refine lv_iload hx hb dL_law_262 (lv_at hl 3 rfl) ?_
                    refine lv_aload_n hx hb dL_law_264 rfl (lv_at hl 7 rfl) ?_
                    refine lv_aload_n hx hb dL_law_265 rfl (lv_at hl 8 rfl) ?_
                    refine lv_aload hx hb dL_law_266 (lv_at hl 9 rfl) ?_
                    refine lv_aload hx hb dL_law_268 (lv_at hl 10 rfl) ?_
                    refine lv_aload hx hb dL_law_270 (lv_at hl 11 rfl) ?_
                    refine va_calli (va_runS (As := [.ref (ad 0), .int (nI (0)), .int ((r_3) >>> (nI (4) &&& 31)), .ref (ad 27), .ref (ad 28), .ref (ad 29), .ref (ad 30), .ref (ad 31)]) (rest := []) ⟨hx, hb, hml, hown, hts⟩ (l_lays0 l hfl hI hnd hAd (Nat.le_trans hz0 hS.1) hT (((r_3) >>> (nI (4) &&& 31)))) (va_cwS 8 hts gL_law_L_lays rfl rfl rfl (by decide +kernel) (by decide)) (psV hK hP hX (fun a h1 h2 => hS.2.1 a h1 h2)) rfl rfl hl.1 rfl (lv_room (Nat.le_of_ble_eq_true rfl)) dL_law_272 ⟨show 1000 + 320 * (i) + 10 ≤ 600130 by omega, show 10000 + 1920 * (i) + 60 ≤ 7301080 by omega⟩) hS (fun q _ h => h) (fun q h => h) (fun r9 u_22 t9 H locs ht9 hv9 hp9 hB9 hz1 hk1 hS => ?_)
                    obtain ⟨bb, hr9, hbt, hI, hT⟩ := hp9
                    subst hbt
                    subst hr9
                    have hP := hB9.2
                    rw [ht9] at hP
                    clear hB9 ht9 hv9 hz1 hk1
                    refine lv_goto (tgt := 350) hx hb dL_law_275 (by decide) ?_
                    refine W.widen (show 1000 + 320 * (i) + 10 ≤ 1000 + 320 * (i) + 20 by omega) (show 10000 + 1920 * (i) + 60 ≤ 10000 + 1920 * (i) + 120 by omega) ?_
                    exact mg350 (u_22.1) (u_22.2.1) (u_22.2.2) hI hT _ _ hP hS _ (lv_sub hl [3, 5, 6, 7, 8, 9, 10, 11, 12, 13, 14, 15, 16, 17] rfl)
                  · skip
                    refine lv_aload_n hx hb dL_law_259 rfl (lv_at hl 6 rfl) ?_
                    refine lv_iload hx hb dL_law_260 (lv_at hl 2 rfl) ?_
                    refine lv_iload hx hb dL_law_262 (lv_at hl 3 rfl) ?_
                    refine lv_aload_n hx hb dL_law_264 rfl (lv_at hl 7 rfl) ?_
                    refine lv_aload_n hx hb dL_law_265 rfl (lv_at hl 8 rfl) ?_
                    refine lv_aload hx hb dL_law_266 (lv_at hl 9 rfl) ?_
                    refine lv_aload hx hb dL_law_268 (lv_at hl 10 rfl) ?_
                    refine lv_aload hx hb dL_law_270 (lv_at hl 11 rfl) ?_
                    refine va_calli (va_runS (As := [.ref (ad 0), .int (nI (1)), .int ((r_3) >>> (nI (4) &&& 31)), .ref (ad 27), .ref (ad 28), .ref (ad 29), .ref (ad 30), .ref (ad 31)]) (rest := []) ⟨hx, hb, hml, hown, hts⟩ (l_lays1 l hfl hI hnd hAd (Nat.le_trans hz0 hS.1) hT (((r_3) >>> (nI (4) &&& 31)))) (va_cwS 8 hts gL_law_L_lays rfl rfl rfl (by decide +kernel) (by decide)) (psV hK hP hX (fun a h1 h2 => hS.2.1 a h1 h2)) rfl rfl hl.1 rfl (lv_room (Nat.le_of_ble_eq_true rfl)) dL_law_272 ⟨show 1000 + 320 * (i) + 10 ≤ 600130 by omega, show 10000 + 1920 * (i) + 60 ≤ 7301080 by omega⟩) hS (fun q _ h => h) (fun q h => h) (fun r9 u_23 t9 H locs ht9 hv9 hp9 hB9 hz1 hk1 hS => ?_)
                    obtain ⟨bb, hr9, hbt, hI, hT⟩ := hp9
                    subst hbt
                    subst hr9
                    have hP := hB9.2
                    rw [ht9] at hP
                    clear hB9 ht9 hv9 hz1 hk1
                    refine lv_goto (tgt := 350) hx hb dL_law_275 (by decide) ?_
                    refine W.widen (show 1000 + 320 * (i) + 10 ≤ 1000 + 320 * (i) + 20 by omega) (show 10000 + 1920 * (i) + 60 ≤ 10000 + 1920 * (i) + 120 by omega) ?_
                    exact mg350 (u_23.1) (u_23.2.1) (u_23.2.2) hI hT _ _ hP hS _ (lv_sub hl [3, 5, 6, 7, 8, 9, 10, 11, 12, 13, 14, 15, 16, 17] rfl)
                  · skip
                    refine lv_aload_n hx hb dL_law_259 rfl (lv_at hl 6 rfl) ?_
                    refine lv_iload hx hb dL_law_260 (lv_at hl 2 rfl) ?_
                    refine lv_iload hx hb dL_law_262 (lv_at hl 3 rfl) ?_
                    refine lv_aload_n hx hb dL_law_264 rfl (lv_at hl 7 rfl) ?_
                    refine lv_aload_n hx hb dL_law_265 rfl (lv_at hl 8 rfl) ?_
                    refine lv_aload hx hb dL_law_266 (lv_at hl 9 rfl) ?_
                    refine lv_aload hx hb dL_law_268 (lv_at hl 10 rfl) ?_
                    refine lv_aload hx hb dL_law_270 (lv_at hl 11 rfl) ?_
                    refine va_calli (va_runS (As := [.ref (ad 0), .int (nI (2)), .int ((r_3) >>> (nI (4) &&& 31)), .ref (ad 27), .ref (ad 28), .ref (ad 29), .ref (ad 30), .ref (ad 31)]) (rest := []) ⟨hx, hb, hml, hown, hts⟩ (l_lays2 l hfl hI hnd hAd (Nat.le_trans hz0 hS.1) hT (((r_3) >>> (nI (4) &&& 31)))) (va_cwS 8 hts gL_law_L_lays rfl rfl rfl (by decide +kernel) (by decide)) (psV hK hP hX (fun a h1 h2 => hS.2.1 a h1 h2)) rfl rfl hl.1 rfl (lv_room (Nat.le_of_ble_eq_true rfl)) dL_law_272 ⟨show 1000 + 320 * (i) + 10 ≤ 600130 by omega, show 10000 + 1920 * (i) + 60 ≤ 7301080 by omega⟩) hS (fun q _ h => h) (fun q h => h) (fun r9 u_24 t9 H locs ht9 hv9 hp9 hB9 hz1 hk1 hS => ?_)
                    obtain ⟨bb, hr9, hbt, hI, hT⟩ := hp9
                    subst hbt
                    subst hr9
                    have hP := hB9.2
                    rw [ht9] at hP
                    clear hB9 ht9 hv9 hz1 hk1
                    refine lv_goto (tgt := 350) hx hb dL_law_275 (by decide) ?_
                    refine W.widen (show 1000 + 320 * (i) + 10 ≤ 1000 + 320 * (i) + 20 by omega) (show 10000 + 1920 * (i) + 60 ≤ 10000 + 1920 * (i) + 120 by omega) ?_
                    exact mg350 (u_24.1) (u_24.2.1) (u_24.2.2) hI hT _ _ hP hS _ (lv_sub hl [3, 5, 6, 7, 8, 9, 10, 11, 12, 13, 14, 15, 16, 17] rfl)
                  · skip
                    refine lv_aload_n hx hb dL_law_259 rfl (lv_at hl 6 rfl) ?_
                    refine lv_iload hx hb dL_law_260 (lv_at hl 2 rfl) ?_
                    refine lv_iload hx hb dL_law_262 (lv_at hl 3 rfl) ?_
                    refine lv_aload_n hx hb dL_law_264 rfl (lv_at hl 7 rfl) ?_
                    refine lv_aload_n hx hb dL_law_265 rfl (lv_at hl 8 rfl) ?_
                    refine lv_aload hx hb dL_law_266 (lv_at hl 9 rfl) ?_
                    refine lv_aload hx hb dL_law_268 (lv_at hl 10 rfl) ?_
                    refine lv_aload hx hb dL_law_270 (lv_at hl 11 rfl) ?_
                    refine va_calli (va_runS (As := [.ref (ad 0), .int (nI (3)), .int ((r_3) >>> (nI (4) &&& 31)), .ref (ad 27), .ref (ad 28), .ref (ad 29), .ref (ad 30), .ref (ad 31)]) (rest := []) ⟨hx, hb, hml, hown, hts⟩ (l_lays3 l hfl hI hnd hAd (Nat.le_trans hz0 hS.1) hT (((r_3) >>> (nI (4) &&& 31)))) (va_cwS 8 hts gL_law_L_lays rfl rfl rfl (by decide +kernel) (by decide)) (psV hK hP hX (fun a h1 h2 => hS.2.1 a h1 h2)) rfl rfl hl.1 rfl (lv_room (Nat.le_of_ble_eq_true rfl)) dL_law_272 ⟨show 1000 + 320 * (i) + 10 ≤ 600130 by omega, show 10000 + 1920 * (i) + 60 ≤ 7301080 by omega⟩) hS (fun q _ h => h) (fun q h => h) (fun r9 u_25 t9 H locs ht9 hv9 hp9 hB9 hz1 hk1 hS => ?_)
                    obtain ⟨bb, hr9, hbt, hI, hT⟩ := hp9
                    subst hbt
                    subst hr9
                    have hP := hB9.2
                    rw [ht9] at hP
                    clear hB9 ht9 hv9 hz1 hk1
                    refine lv_goto (tgt := 350) hx hb dL_law_275 (by decide) ?_
                    refine W.widen (show 1000 + 320 * (i) + 10 ≤ 1000 + 320 * (i) + 20 by omega) (show 10000 + 1920 * (i) + 60 ≤ 10000 + 1920 * (i) + 120 by omega) ?_
                    exact mg350 (u_25.1) (u_25.2.1) (u_25.2.2) hI hT _ _ hP hS _ (lv_sub hl [3, 5, 6, 7, 8, 9, 10, 11, 12, 13, 14, 15, 16, 17] rfl)
              · skip
                refine lv_aload_n hx hb dL_law_235 rfl (lv_at hl 6 rfl) ?_
                refine lv_iconst (v := nI 3) hx hb dL_law_236 (by decide) ?_
                refine lv_iload hx hb dL_law_237 (lv_at hl 3 rfl) ?_
                refine lv_aload_n hx hb dL_law_239 rfl (lv_at hl 7 rfl) ?_
                refine lv_aload_n hx hb dL_law_240 rfl (lv_at hl 8 rfl) ?_
                refine lv_aload hx hb dL_law_241 (lv_at hl 9 rfl) ?_
                refine lv_aload hx hb dL_law_243 (lv_at hl 10 rfl) ?_
                refine lv_aload hx hb dL_law_245 (lv_at hl 11 rfl) ?_
                refine va_calli (va_runS (As := [.ref (ad 0), .int (nI (3)), .int ((r_3) >>> (nI (4) &&& 31)), .ref (ad 27), .ref (ad 28), .ref (ad 29), .ref (ad 30), .ref (ad 31)]) (rest := []) ⟨hx, hb, hml, hown, hts⟩ (l_lays3 l hfl hI hnd hAd (Nat.le_trans hz0 hS.1) hT (((r_3) >>> (nI (4) &&& 31)))) (va_cwS 8 hts gL_law_L_lays rfl rfl rfl (by decide +kernel) (by decide)) (psV hK hP hX (fun a h1 h2 => hS.2.1 a h1 h2)) rfl rfl hl.1 rfl (lv_room (Nat.le_of_ble_eq_true rfl)) dL_law_247 ⟨show 1000 + 320 * (i) + 10 ≤ 600130 by omega, show 10000 + 1920 * (i) + 60 ≤ 7301080 by omega⟩) hS (fun q _ h => h) (fun q h => h) (fun r9 u_26 t9 H locs ht9 hv9 hp9 hB9 hz1 hk1 hS => ?_)
                obtain ⟨bb, hr9, hbt, hI, hT⟩ := hp9
                subst hbt
                subst hr9
                have hP := hB9.2
                rw [ht9] at hP
                clear hB9 ht9 hv9 hz1 hk1
                refine lv_goto (tgt := 350) hx hb dL_law_250 (by decide) ?_
                refine W.widen (show 1000 + 320 * (i) + 10 ≤ 1000 + 320 * (i) + 20 by omega) (show 10000 + 1920 * (i) + 60 ≤ 10000 + 1920 * (i) + 120 by omega) ?_
                exact mg350 (u_26.1) (u_26.2.1) (u_26.2.2) hI hT _ _ hP hS _ (lv_sub hl [3, 5, 6, 7, 8, 9, 10, 11, 12, 13, 14, 15, 16, 17] rfl)
            · skip
              refine lv_aload_n hx hb dL_law_210 rfl (lv_at hl 6 rfl) ?_
              refine lv_iconst (v := nI 1) hx hb dL_law_211 (by decide) ?_
              refine lv_iload hx hb dL_law_212 (lv_at hl 3 rfl) ?_
              refine lv_aload_n hx hb dL_law_214 rfl (lv_at hl 7 rfl) ?_
              refine lv_aload_n hx hb dL_law_215 rfl (lv_at hl 8 rfl) ?_
              refine lv_aload hx hb dL_law_216 (lv_at hl 9 rfl) ?_
              refine lv_aload hx hb dL_law_218 (lv_at hl 10 rfl) ?_
              refine lv_aload hx hb dL_law_220 (lv_at hl 11 rfl) ?_
              refine va_calli (va_runS (As := [.ref (ad 0), .int (nI (1)), .int ((r_3) >>> (nI (4) &&& 31)), .ref (ad 27), .ref (ad 28), .ref (ad 29), .ref (ad 30), .ref (ad 31)]) (rest := []) ⟨hx, hb, hml, hown, hts⟩ (l_lays1 l hfl hI hnd hAd (Nat.le_trans hz0 hS.1) hT (((r_3) >>> (nI (4) &&& 31)))) (va_cwS 8 hts gL_law_L_lays rfl rfl rfl (by decide +kernel) (by decide)) (psV hK hP hX (fun a h1 h2 => hS.2.1 a h1 h2)) rfl rfl hl.1 rfl (lv_room (Nat.le_of_ble_eq_true rfl)) dL_law_222 ⟨show 1000 + 320 * (i) + 10 ≤ 600130 by omega, show 10000 + 1920 * (i) + 60 ≤ 7301080 by omega⟩) hS (fun q _ h => h) (fun q h => h) (fun r9 u_27 t9 H locs ht9 hv9 hp9 hB9 hz1 hk1 hS => ?_)
              obtain ⟨bb, hr9, hbt, hI, hT⟩ := hp9
              subst hbt
              subst hr9
              have hP := hB9.2
              rw [ht9] at hP
              clear hB9 ht9 hv9 hz1 hk1
              refine lv_goto (tgt := 350) hx hb dL_law_225 (by decide) ?_
              refine W.widen (show 1000 + 320 * (i) + 10 ≤ 1000 + 320 * (i) + 20 by omega) (show 10000 + 1920 * (i) + 60 ≤ 10000 + 1920 * (i) + 120 by omega) ?_
              exact mg350 (u_27.1) (u_27.2.1) (u_27.2.2) hI hT _ _ hP hS _ (lv_sub hl [3, 5, 6, 7, 8, 9, 10, 11, 12, 13, 14, 15, 16, 17] rfl)
          · skip
            refine lv_aload_n hx hb dL_law_186 rfl (lv_at hl 6 rfl) ?_
            refine lv_iconst (v := nI 0) hx hb dL_law_187 (by decide) ?_
            refine lv_iload hx hb dL_law_188 (lv_at hl 3 rfl) ?_
            refine lv_aload_n hx hb dL_law_190 rfl (lv_at hl 7 rfl) ?_
            refine lv_aload_n hx hb dL_law_191 rfl (lv_at hl 8 rfl) ?_
            refine lv_aload hx hb dL_law_192 (lv_at hl 9 rfl) ?_
            refine lv_aload hx hb dL_law_194 (lv_at hl 10 rfl) ?_
            refine lv_aload hx hb dL_law_196 (lv_at hl 11 rfl) ?_
            refine va_calli (va_runS (As := [.ref (ad 0), .int (nI (0)), .int ((r_3) >>> (nI (4) &&& 31)), .ref (ad 27), .ref (ad 28), .ref (ad 29), .ref (ad 30), .ref (ad 31)]) (rest := []) ⟨hx, hb, hml, hown, hts⟩ (l_lays0 l hfl hI hnd hAd (Nat.le_trans hz0 hS.1) hT (((r_3) >>> (nI (4) &&& 31)))) (va_cwS 8 hts gL_law_L_lays rfl rfl rfl (by decide +kernel) (by decide)) (psV hK hP hX (fun a h1 h2 => hS.2.1 a h1 h2)) rfl rfl hl.1 rfl (lv_room (Nat.le_of_ble_eq_true rfl)) dL_law_198 ⟨show 1000 + 320 * (i) + 10 ≤ 600130 by omega, show 10000 + 1920 * (i) + 60 ≤ 7301080 by omega⟩) hS (fun q _ h => h) (fun q h => h) (fun r9 u_28 t9 H locs ht9 hv9 hp9 hB9 hz1 hk1 hS => ?_)
            obtain ⟨bb, hr9, hbt, hI, hT⟩ := hp9
            subst hbt
            subst hr9
            have hP := hB9.2
            rw [ht9] at hP
            clear hB9 ht9 hv9 hz1 hk1
            refine lv_goto (tgt := 350) hx hb dL_law_201 (by decide) ?_
            refine W.widen (show 1000 + 320 * (i) + 10 ≤ 1000 + 320 * (i) + 20 by omega) (show 10000 + 1920 * (i) + 60 ≤ 10000 + 1920 * (i) + 120 by omega) ?_
            exact mg350 (u_28.1) (u_28.2.1) (u_28.2.2) hI hT _ _ hP hS _ (lv_sub hl [3, 5, 6, 7, 8, 9, 10, 11, 12, 13, 14, 15, 16, 17] rfl)
        intro K ts pu hI hT H locs hP hS ls hl
        have b_nw := hI.nw
        have b_nv := hI.nv
        refine lv_istore (lv' := [(18, .int (bB (true))), (14, .int ((r_3) >>> (nI (4) &&& 31))), (0, .ref (b)), (1, .ref (ad 0)), (2, .ref (ad 27)), (3, .ref (ad 28)), (4, .ref (ad 29)), (5, .ref (ad 30)), (6, .ref (ad 31)), (7, .ref (ad 32)), (8, .ref (ad 33)), (9, .ref (ad 34)), (10, .ref (ad 35)), (11, .ref (ad 36)), (12, .int (nI (i)))]) hx hb dL_law_350 hl (by decide) rfl (fun ls hl => ?_)
        refine lv_iload hx hb dL_law_352 (lv_at hl 0 rfl) ?_
        refine zb_Beq (tgt := 419) hx hb dL_law_354 (by decide) (fun c_29 => False.elim (by revert c_29; decide)) (fun _ => ?_)
        suffices mg390 : ∀ (K : Mdl) (ts : Nat → Nat) (pu : Nat → Int64), Inl K → hTs K ts → ∀ (H : Heap) (locs : List Loc), va_P D vwCl (wz 37 ad (wxE ad cI cJ cQ (K) (ts) (pu) (K) (X))) H → va_S (zA s.heap.size) s.heap H locs → ∀ ls : Array Slot, lv_has ls 19 [(18, .int (bB (true))), (14, .int ((r_3) >>> (nI (4) &&& 31))), (0, .ref (b)), (1, .ref (ad 0)), (2, .ref (ad 27)), (3, .ref (ad 28)), (4, .ref (ad 29)), (5, .ref (ad 30)), (6, .ref (ad 31)), (7, .ref (ad 32)), (8, .ref (ad 33)), (9, .ref (ad 34)), (10, .ref (ad 35)), (11, .ref (ad 36)), (12, .int (nI (i)))] → W p l e room_1 s m #[Value.ref b] below meth c H locs (1000 + 320 * (i) + 20 + 100) (10000 + 1920 * (i) + 120 + 600) Q (F0 m 390 ls []) by
          refine lv_iload hx hb dL_law_357 (lv_at hl 14 rfl) ?_
          refine lv_iconst (v := nI 4) hx hb dL_law_359 (by decide) ?_
          refine zr_irem hx hb (by omega) (by omega) (by omega) dL_law_360 ?_
          refine lv_iconst (v := nI 2) hx hb dL_law_361 (by decide) ?_
          refine zb_ne (tgt := 390) hx hb (by omega) (by omega) dL_law_362 (by decide) (fun c_30 => ?_) (fun c_30 => ?_)
          · skip
            refine W.widen (show 1000 + 320 * (i) + 20 ≤ 1000 + 320 * (i) + 20 + 100 by omega) (show 10000 + 1920 * (i) + 120 ≤ 10000 + 1920 * (i) + 120 + 600 by omega) ?_
            exact mg390 (K) (ts) (pu) hI hT _ _ hP hS _ (lv_sub hl [0, 1, 2, 3, 4, 5, 6, 7, 8, 9, 10, 11, 12, 13, 14] rfl)
          · skip
            refine lv_aload_n hx hb dL_law_365 rfl (lv_at hl 3 rfl) ?_
            refine lv_iload hx hb dL_law_366 (lv_at hl 1 rfl) ?_
            refine lv_aload_n hx hb dL_law_368 rfl (lv_at hl 4 rfl) ?_
            refine lv_aload_n hx hb dL_law_369 rfl (lv_at hl 5 rfl) ?_
            refine lv_aload hx hb dL_law_370 (lv_at hl 6 rfl) ?_
            refine lv_aload hx hb dL_law_372 (lv_at hl 7 rfl) ?_
            refine lv_aload hx hb dL_law_374 (lv_at hl 9 rfl) ?_
            refine lv_aload hx hb dL_law_376 (lv_at hl 10 rfl) ?_
            refine lv_aload hx hb dL_law_378 (lv_at hl 11 rfl) ?_
            refine lv_aload hx hb dL_law_380 (lv_at hl 12 rfl) ?_
            refine lv_aload hx hb dL_law_382 (lv_at hl 13 rfl) ?_
            refine va_calli (va_runS (As := [.ref (ad 0), .int ((r_3) >>> (nI (4) &&& 31)), .ref (ad 27), .ref (ad 28), .ref (ad 29), .ref (ad 30), .ref (ad 32), .ref (ad 33), .ref (ad 34), .ref (ad 35), .ref (ad 36)]) (rest := []) ⟨hx, hb, hml, hown, hts⟩ (l_watches l hfl hI hnd hAd (Nat.le_trans hz0 hS.1) hT (((r_3) >>> (nI (4) &&& 31)))) (va_cwS 11 hts gL_law_L_watches rfl rfl rfl (by decide +kernel) (by decide)) (psV hK hP hX (fun a h1 h2 => hS.2.1 a h1 h2)) rfl rfl hl.1 rfl (lv_room (Nat.le_of_ble_eq_true rfl)) dL_law_384 ⟨show 1000 + 320 * (i) + 20 + 100 ≤ 600130 by omega, show 10000 + 1920 * (i) + 120 + 600 ≤ 7301080 by omega⟩) hS (fun q _ h => h) (fun q h => h) (fun r9 u_31 t9 H locs ht9 hv9 hp9 hB9 hz1 hk1 hS => ?_)
            obtain ⟨bb, hr9, hbt, hT⟩ := hp9
            subst hbt
            subst hr9
            have hP := hB9.2
            rw [ht9] at hP
            clear hB9 ht9 hv9 hz1 hk1
            refine zb_Beq (tgt := 419) hx hb dL_law_387 (by decide) (fun c_32 => False.elim (by revert c_32; decide)) (fun _ => ?_)
            refine W.widen (show 1000 + 320 * (i) + 20 + 100 ≤ 1000 + 320 * (i) + 20 + 100 by omega) (show 10000 + 1920 * (i) + 120 + 600 ≤ 10000 + 1920 * (i) + 120 + 600 by omega) ?_
            exact mg390 (K) (u_31.1) (u_31.2) hI hT _ _ hP hS _ (lv_sub hl [0, 1, 2, 3, 4, 5, 6, 7, 8, 9, 10, 11, 12, 13, 14] rfl)
        intro K ts pu hI hT H locs hP hS ls hl
        have b_nw := hI.nw
        have b_nv := hI.nv
        refine lv_iload hx hb dL_law_390 (lv_at hl 14 rfl) ?_
        refine lv_bipush (v := nI 10) hx hb dL_law_392 (by decide) ?_
        refine zr_irem hx hb (by omega) (by omega) (by omega) dL_law_394 ?_
        refine lv_bipush (v := nI 9) hx hb dL_law_395 (by decide) ?_
        refine zb_ne (tgt := 421) hx hb (by omega) (by omega) dL_law_397 (by decide) (fun c_33 => ?_) (fun c_33 => ?_)
        · skip
          refine lv_iinc (v := nI (i + 1)) (lv' := [(12, .int (nI (i + 1))), (18, .int (bB (true))), (14, .int ((r_3) >>> (nI (4) &&& 31))), (0, .ref (b)), (1, .ref (ad 0)), (2, .ref (ad 27)), (3, .ref (ad 28)), (4, .ref (ad 29)), (5, .ref (ad 30)), (6, .ref (ad 31)), (7, .ref (ad 32)), (8, .ref (ad 33)), (9, .ref (ad 34)), (10, .ref (ad 35)), (11, .ref (ad 36))]) hx hb dL_law_421 hl (k := 14) rfl (zn_inc (i)) (by decide) rfl (fun ls hl => ?_)
          refine lv_goto (tgt := 91) hx hb dL_law_424 (by decide) ?_
          refine W.widen (show 1000 + 320 * (i) + 20 + 100 ≤ 1000 + 320 * (i + 1) by omega) (show 10000 + 1920 * (i) + 120 + 600 ≤ 10000 + 1920 * (i + 1) by omega) ?_
          exact ih91 (i + 1) (by omega) (by omega) (K) (ts) (pu) hI hT _ _ hP hS _ (lv_sub hl [3, 4, 5, 6, 7, 8, 9, 10, 11, 12, 13, 14, 0] rfl)
        · skip
          refine lv_aload_n hx hb dL_law_400 rfl (lv_at hl 3 rfl) ?_
          refine lv_aload_n hx hb dL_law_401 rfl (lv_at hl 4 rfl) ?_
          refine lv_aload_n hx hb dL_law_402 rfl (lv_at hl 5 rfl) ?_
          refine lv_aload hx hb dL_law_403 (lv_at hl 9 rfl) ?_
          refine lv_aload hx hb dL_law_405 (lv_at hl 10 rfl) ?_
          refine lv_aload hx hb dL_law_407 (lv_at hl 11 rfl) ?_
          refine lv_aload hx hb dL_law_409 (lv_at hl 12 rfl) ?_
          refine lv_aload hx hb dL_law_411 (lv_at hl 13 rfl) ?_
          refine va_calli (va_runS (As := [.ref (ad 0), .ref (ad 27), .ref (ad 28), .ref (ad 32), .ref (ad 33), .ref (ad 34), .ref (ad 35), .ref (ad 36)]) (rest := []) ⟨hx, hb, hml, hown, hts⟩ (l_years l hfl hI hnd hAd (Nat.le_trans hz0 hS.1) hT) (va_cwS 8 hts gL_law_L_years rfl rfl rfl (by decide +kernel) (by decide)) (psV hK hP hX (fun a h1 h2 => hS.2.1 a h1 h2)) rfl rfl hl.1 rfl (lv_room (Nat.le_of_ble_eq_true rfl)) dL_law_413 ⟨show 1000 + 320 * (i) + 20 + 100 + 200 ≤ 600130 by omega, show 10000 + 1920 * (i) + 120 + 600 + 1200 ≤ 7301080 by omega⟩) hS (fun q _ h => h) (fun q h => h) (fun r9 u_34 t9 H locs ht9 hv9 hp9 hB9 hz1 hk1 hS => ?_)
          obtain ⟨bb, hr9, hbt, hT⟩ := hp9
          subst hbt
          subst hr9
          have hP := hB9.2
          rw [ht9] at hP
          clear hB9 ht9 hv9 hz1 hk1
          refine zb_Bne (tgt := 421) hx hb dL_law_416 (by decide) (fun _ => ?_) (fun c_35 => False.elim (by revert c_35; decide))
          refine lv_iinc (v := nI (i + 1)) (lv' := [(12, .int (nI (i + 1))), (18, .int (bB (true))), (14, .int ((r_3) >>> (nI (4) &&& 31))), (0, .ref (b)), (1, .ref (ad 0)), (2, .ref (ad 27)), (3, .ref (ad 28)), (4, .ref (ad 29)), (5, .ref (ad 30)), (6, .ref (ad 31)), (7, .ref (ad 32)), (8, .ref (ad 33)), (9, .ref (ad 34)), (10, .ref (ad 35)), (11, .ref (ad 36))]) hx hb dL_law_421 hl (k := 14) rfl (zn_inc (i)) (by decide) rfl (fun ls hl => ?_)
          refine lv_goto (tgt := 91) hx hb dL_law_424 (by decide) ?_
          refine W.widen (show 1000 + 320 * (i) + 20 + 100 + 200 ≤ 1000 + 320 * (i + 1) by omega) (show 10000 + 1920 * (i) + 120 + 600 + 1200 ≤ 10000 + 1920 * (i + 1) by omega) ?_
          exact ih91 (i + 1) (by omega) (by omega) (K) (u_34.1) (u_34.2) hI hT _ _ hP hS _ (lv_sub hl [3, 4, 5, 6, 7, 8, 9, 10, 11, 12, 13, 14, 0] rfl)
  refine W.widen (show 1000 + 320 * 0 ≤ 1000 + 320 * (0) by omega) (show 10000 + 1920 * 0 ≤ 10000 + 1920 * (0) by omega) ?_
  exact lp91 (100 - (0) + 1) (0) (by omega) (by omega) (K) (ts) (pu) hI hT _ _ hP hS _ (lv_sub hl [0, 1, 2, 3, 4, 5, 6, 7, 8, 9, 10, 11, 12] rfl)
