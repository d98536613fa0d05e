/-! the law's turns, one for each call -/
theorem rgB_le {p : Int32} {a b : Nat} (hb : b < 2 ^ 31) (ha : a < 2 ^ 31) (h : rgB p (nI a) (nI b) = true) : clN p ≤ b := by
  obtain ⟨j, h1, h2, rfl⟩ := rgB_of hb h ha
  rw [clN_nI (by omega)]
  exact h2
theorem band {a b : Bool} (h : (a && b) = true) : a = true ∧ b = true := Bool.and_eq_true_iff.mp h
theorem Inv_mo {c : Nat} {a M : Mdl} (h : Inv M) (h1 : c = 0 → Inv a) : Inv (moC c a M) := by
  by_cases q : c = 0
  · rw [moC_z q]; exact h1 q
  · rw [moC_n q]; exact h
theorem Inv_rst {M : Mdl} (h : Inv M) {w m : Nat} : ∀ {k : Nat}, Inv (rst M w m k)
  | 0 => h
  | k + 1 => Inv.up (Inv_rst h) (by omega) (by omega) (by omega) (by omega) (by omega) (by omega) (by omega) (by omega) (by omega) (by omega)
theorem cd3_abs {a b c : Bool} : cd3 a b (a && b && c) = cd3 a b c := by cases a <;> cases b <;> cases c <;> rfl
theorem and_abs {a b c : Bool} : (a && b && (a && b && c)) = (a && b && c) := by cases a <;> cases b <;> cases c <;> rfl

theorem Inv_well {M : Mdl} {p0 p1 p2 : Int32} (hI : Inv M) (h : (((rgB p0 (nI 0) (nI 99) && rgB p1 (nI 0) (nI 2) && rgB p2 (nI 0) (nI 5000)) && decide (M 0 0 < 8))) = true) : Inv (nx_well M (clN p0) (clN p1) (clN p2)) := by
  obtain ⟨h1, h2⟩ := band h
  obtain ⟨h1, h5⟩ := band h1
  obtain ⟨h3, h4⟩ := band h1
  have a0 := rgB_le (by decide) (by decide) h3
  have a1 := rgB_le (by decide) (by decide) h4
  have a2 := rgB_le (by decide) (by decide) h5
  have a3 := of_decide_eq_true h2
  exact Inv.up (Inv.up (Inv.up (Inv.up hI (by omega) (by omega) (by omega) (by omega) (by omega) (by omega) (by omega) (by omega) (by omega) (by omega)) (by omega) (by omega) (by omega) (by omega) (by omega) (by omega) (by omega) (by omega) (by omega) (by omega)) (by omega) (by omega) (by omega) (by omega) (by omega) (by omega) (by omega) (by omega) (by omega) (by omega)) (by omega) (by omega) (by omega) (by omega) (by omega) (by omega) (by omega) (by omega) (by omega) (by omega)
theorem Inv_watch {M : Mdl} {p0 p1 : Int32} (hI : Inv M) (h : (((rgB p0 (nI 0) (nI 99) && rgB p1 (nI 0) (nI 10000)) && decide (M 5 0 < 4))) = true) : Inv (nx_watch M (clN p0) (clN p1)) := by
  obtain ⟨h1, h2⟩ := band h
  obtain ⟨h3, h4⟩ := band h1
  have a0 := rgB_le (by decide) (by decide) h3
  have a1 := rgB_le (by decide) (by decide) h4
  have a3 := of_decide_eq_true h2
  exact Inv.up (Inv.up (Inv.up hI (by omega) (by omega) (by omega) (by omega) (by omega) (by omega) (by omega) (by omega) (by omega) (by omega)) (by omega) (by omega) (by omega) (by omega) (by omega) (by omega) (by omega) (by omega) (by omega) (by omega)) (by omega) (by omega) (by omega) (by omega) (by omega) (by omega) (by omega) (by omega) (by omega) (by omega)
theorem Inv_response {M : Mdl} {p0 p1 p2 : Int32} (hI : Inv M) (h : (((ixB p0 5 && ixB p1 12) && rgB p2 (nI 0) (nI 1000))) = true) : Inv (nx_response M (clN p0) (clN p1) (clN p2)) := by
  have a2 := rgB_le (by decide) (by decide) (band h).2
  exact Inv.up hI (by omega) (by omega) (by omega) (by omega) (by omega) (by omega) (by omega) (by omega) (by omega) (by omega)
theorem Inv_pump {M : Mdl} {p0 p1 p2 : Int32} (hI : Inv M) (h : (((ixB p0 (M 0 0) && ixB p1 36) && rgB p2 (nI 0) (nI 1000))) = true) : Inv (nx_pump M (clN p0) (clN p1) (clN p2)) := by
  have a2 := rgB_le (by decide) (by decide) (band h).2
  exact Inv.up hI (by omega) (by omega) (by omega) (by omega) (by omega) (by omega) (by omega) (by omega) (by omega) (by omega)
theorem Inv_rest {M : Mdl} {p0 p1 p2 : Int32} (hI : Inv M) (h : (((ixB p0 (M 0 0) && ixB p1 36) && rgB p2 (nI 1) (nI 36))) = true) : Inv (nx_rest M (clN p0) (clN p1) (clN p2)) := by
  exact Inv_rst hI
theorem Inv_ratio {M : Mdl} {p0 p1 p2 : Int32} (hI : Inv M) (h : (((ixB p0 3 && ixB p1 3) && rgB p2 (nI 0) (nI 200))) = true) : Inv (nx_ratio M (clN p0) (clN p1) (clN p2)) := by
  have a2 := rgB_le (by decide) (by decide) (band h).2
  exact Inv.up hI (by omega) (by omega) (by omega) (by omega) (by omega) (by omega) (by omega) (by omega) (by omega) (by omega)
theorem Inv_trade {M : Mdl} {p0 p1 p2 : Int32} (hI : Inv M) (h : (((ixB p0 (M 0 0) && ixB p1 (M 0 0)) && (decide (p0 ≠ p1) && rgB p2 (nI 1) (nI 5000)) && cn M (clN p0) (clN p1) (clN p2))) = true) : Inv (nx_trade M (clN p0) (clN p1) (clN p2)) := by
  have a2 := cn_s (band h).2
  have a3 := hI.li (clN p0)
  exact Inv.up (Inv.up hI (by omega) (by omega) (by omega) (by omega) (by omega) (by omega) (by omega) (by omega) (by omega) (by omega)) (by omega) (by omega) (by omega) (by omega) (by omega) (by omega) (by omega) (by omega) (by omega) (by omega)
set_option maxHeartbeats 4000000 in
theorem lc_well {p : Program} {l : Launch} {e : Env} {s : State} {m : MethodId} {below : List Frame} {meth : Method} {c : Code} {b L : Nat} {xs : Nat → Int32} {Q : State → Prop} {D : va_G} {ad ae : Nat → Nat} {cI cJ cQ : ClassId} {M : Mdl} {ts : Nat → Nat} {pu : Nat → Int64} {o : Int64} {th : Int32} {sa : Nat → Nat} {H : Heap} {locs : List Loc} {cells slots : Nat} {ls : Array Slot} {i : Nat} (C : LCx p s m c b L xs l D ad ae cI cJ cQ sa) (St : LSt s D ad ae cI cJ cQ M ts pu o th H locs) (hi : i + 4 ≤ L) (hL : L ≤ 2048) (hl : lv_has ls 8 [(0, .ref b), (1, .ref (ad 0)), (2, .ref (ae 0)), (3, .ref (ad 27)), (4, .int (nI i))]) (hc : cells + 5 ≤ room_1.cells) (hs : slots + 30 ≤ room_1.slots) (kk : LNext p l e s m below meth c b Q D ad ae cI cJ cQ i cells slots) : W p l e room_1 s m #[Value.ref b] below meth c H locs cells slots Q (F0 m 140 ls []) := by
  have C0 := C
  have St0 := St
  obtain ⟨hx, hb, hml, hown, hts, hX, hbl, hfl, hKL, hK, hnd, hne, hAd, hAe, hdj⟩ := C0
  obtain ⟨hI, hT, hP0, hP1, hS⟩ := St0
  refine lv_aload_n hx hb dL_law_140 rfl (lv_at hl 1 rfl) ?_
  refine law_arg C hS (i := i) (k := 1) (by omega) hL hl (List.mem_of_getElem? (i := 0) rfl) (List.mem_of_getElem? (i := 4) rfl) rfl dL_law_141 dL_law_142 dL_law_144 dL_law_145 dL_law_146 ?_
  refine law_arg C hS (i := i) (k := 2) (by omega) hL hl (List.mem_of_getElem? (i := 0) rfl) (List.mem_of_getElem? (i := 4) rfl) rfl dL_law_147 dL_law_148 dL_law_150 dL_law_151 dL_law_152 ?_
  refine law_arg C hS (i := i) (k := 3) (by omega) hL hl (List.mem_of_getElem? (i := 0) rfl) (List.mem_of_getElem? (i := 4) rfl) rfl dL_law_153 dL_law_154 dL_law_156 dL_law_157 dL_law_158 ?_
  refine lv_aload_n hx hb dL_law_159 rfl (lv_at hl 3 rfl) ?_
  refine law_cls C St (vx_runSX (As := [.ref (ad 0), .int (xs (i + 1)), .int (xs (i + 2)), .int (xs (i + 3)), .ref (ad 27)]) (rest := []) ⟨hx, hb, hml, hown, hts⟩ (w0_well l hfl hI hnd hT (xs (i + 1)) (xs (i + 2)) (xs (i + 3))) (vx_cwSW 5 hts gL_law_L_well rfl rfl rfl (by decide +kernel) (by decide)) (psW hK hP0 hKL (fun a h1 h2 => hS.2.1 a h1 h2)) rfl rfl hl.1 rfl (lv_room (Nat.le_of_ble_eq_true rfl)) dL_law_160 ⟨Nat.le_trans (Nat.add_le_add_left (by decide) _) hc, Nat.le_trans (Nat.add_le_add_left (by decide) _) hs⟩) (fun r1 u H1 locs1 hp1 hQ0 hQ1 hS1 => ?_)
  obtain ⟨rfl, hv, hT1⟩ := hp1
  have hI1 : Inv (moC (cd2 (rgB (xs (i + 1)) (nI 0) (nI 99) && rgB (xs (i + 2)) (nI 0) (nI 2) && rgB (xs (i + 3)) (nI 0) (nI 5000)) (decide (M 0 0 < 8))) (nx_well M (clN (xs (i + 1))) (clN (xs (i + 2))) (clN (xs (i + 3)))) M) := Inv_mo hI (fun h => Inv_well hI (cd2_z h))
  refine lv_istore (lv' := [(5, .int (nI (cd2 (rgB (xs (i + 1)) (nI 0) (nI 99) && rgB (xs (i + 2)) (nI 0) (nI 2) && rgB (xs (i + 3)) (nI 0) (nI 5000)) (decide (M 0 0 < 8))))), (0, .ref b), (1, .ref (ad 0)), (2, .ref (ae 0)), (3, .ref (ad 27)), (4, .int (nI i))]) hx hb dL_law_163 hl (by decide) rfl (fun ls hl => ?_)
  refine lv_aload_n hx hb dL_law_165 rfl (lv_at hl 3 rfl) ?_
  refine law_arg C hS1 (i := i) (k := 1) (by omega) hL hl (List.mem_of_getElem? (i := 1) rfl) (List.mem_of_getElem? (i := 5) rfl) rfl dL_law_166 dL_law_167 dL_law_169 dL_law_170 dL_law_171 ?_
  refine law_arg C hS1 (i := i) (k := 2) (by omega) hL hl (List.mem_of_getElem? (i := 1) rfl) (List.mem_of_getElem? (i := 5) rfl) rfl dL_law_172 dL_law_173 dL_law_175 dL_law_176 dL_law_177 ?_
  refine law_arg C hS1 (i := i) (k := 3) (by omega) hL hl (List.mem_of_getElem? (i := 1) rfl) (List.mem_of_getElem? (i := 5) rfl) rfl dL_law_178 dL_law_179 dL_law_181 dL_law_182 dL_law_183 ?_
  obtain ⟨a1, a2, a3⟩ := law_refA C hQ0 hS1
  refine va_calli (A0 := fun q => s.heap.size ≤ q) (H0 := s.heap) (va_runV (As := [.int (xs (i + 1)), .int (xs (i + 2)), .int (xs (i + 3))]) (rest := []) ⟨hx, hb, hml, hown, hts⟩ (r0_well l hI hne (xs (i + 1)) (xs (i + 2)) (xs (i + 3))) (cwV 3 hts gL_law_X1_well rfl rfl rfl (by decide +kernel) (by decide)) (pv1S (law_K1 C) hQ1) rfl rfl hl.1 rfl (lv_room (Nat.le_of_ble_eq_true rfl)) dL_law_184 ⟨by omega, by omega⟩) hS1 a1 a2 (fun r2 u2 t H2 locs2 ht hv2 hp2 hB hz hk hS2 => ?_)
  have hR0 := a3 H2 hk
  obtain ⟨M9, hB9, e1, e2⟩ := hB
  have e9 : M9 = (moC (cd2 (rgB (xs (i + 1)) (nI 0) (nI 99) && rgB (xs (i + 2)) (nI 0) (nI 2) && rgB (xs (i + 3)) (nI 0) (nI 5000)) (decide (M 0 0 < 8))) (nx_well M (clN (xs (i + 1))) (clN (xs (i + 2))) (clN (xs (i + 3)))) M) := by
    by_cases h : (((rgB (xs (i + 1)) (nI 0) (nI 99) && rgB (xs (i + 2)) (nI 0) (nI 2) && rgB (xs (i + 3)) (nI 0) (nI 5000)) && decide (M 0 0 < 8))) = true
    · rw [e1 h, moC_z (cd2_t h)]
    · rw [e2 (Bool.eq_false_iff.mpr h), moC_n (fun q => h (cd2_z q))]
  subst e9
  have hR1 : va_P D vwCl (wz 9 ae (wmE ae cI (moC (cd2 (rgB (xs (i + 1)) (nI 0) (nI 99) && rgB (xs (i + 2)) (nI 0) (nI 2) && rgB (xs (i + 3)) (nI 0) (nI 5000)) (decide (M 0 0 < 8))) (nx_well M (clN (xs (i + 1))) (clN (xs (i + 2))) (clN (xs (i + 3)))) M) (nI (cd2 (rgB (xs (i + 1)) (nI 0) (nI 99) && rgB (xs (i + 2)) (nI 0) (nI 2) && rgB (xs (i + 3)) (nI 0) (nI 5000)) (decide (M 0 0 < 8)))))) H2 := by rw [← ht]; exact hB9.2
  refine lv_istore (lv' := [(6, .int r2), (5, .int (nI (cd2 (rgB (xs (i + 1)) (nI 0) (nI 99) && rgB (xs (i + 2)) (nI 0) (nI 2) && rgB (xs (i + 3)) (nI 0) (nI 5000)) (decide (M 0 0 < 8))))), (0, .ref b), (1, .ref (ad 0)), (2, .ref (ae 0)), (3, .ref (ad 27)), (4, .int (nI i))]) hx hb dL_law_187 hl (by decide) rfl (fun ls hl => ?_)
  exact law_tail_i C (M := (moC (cd2 (rgB (xs (i + 1)) (nI 0) (nI 99) && rgB (xs (i + 2)) (nI 0) (nI 2) && rgB (xs (i + 3)) (nI 0) (nI 5000)) (decide (M 0 0 < 8))) (nx_well M (clN (xs (i + 1))) (clN (xs (i + 2))) (clN (xs (i + 3)))) M)) ⟨hI1, hT1, hR0, hR1, hS2⟩ (Nat.le_trans cd2_le (by decide)) (fun h => (hv h).trans (congrArg Int32.toInt64 (hp2 (cd2_z h)).symm)) (pc := 189) ⟨by omega, by omega⟩ hl dL_law_189 dL_law_190 dL_law_193 dL_law_195 dL_law_200 dL_law_202 dL_law_205 dL_law_206 dL_law_207 dL_law_208 dL_law_210 dL_law_211 dL_law_212 dL_law_217 (by decide) (kk _ _ _ _ _ _ _ _ _ _ (by omega) (by omega) ⟨hI1, hT1, hR0, hR1, hS2⟩ (lv_sub hl [2, 3, 4, 5, 6] rfl))
set_option maxHeartbeats 4000000 in
theorem lc_watch {p : Program} {l : Launch} {e : Env} {s : State} {m : MethodId} {below : List Frame} {meth : Method} {c : Code} {b L : Nat} {xs : Nat → Int32} {Q : State → Prop} {D : va_G} {ad ae : Nat → Nat} {cI cJ cQ : ClassId} {M : Mdl} {ts : Nat → Nat} {pu : Nat → Int64} {o : Int64} {th : Int32} {sa : Nat → Nat} {H : Heap} {locs : List Loc} {cells slots : Nat} {ls : Array Slot} {i : Nat} (C : LCx p s m c b L xs l D ad ae cI cJ cQ sa) (St : LSt s D ad ae cI cJ cQ M ts pu o th H locs) (hi : i + 4 ≤ L) (hL : L ≤ 2048) (hl : lv_has ls 8 [(0, .ref b), (1, .ref (ad 0)), (2, .ref (ae 0)), (3, .ref (ad 27)), (4, .int (nI i))]) (hc : cells + 5 ≤ room_1.cells) (hs : slots + 30 ≤ room_1.slots) (kk : LNext p l e s m below meth c b Q D ad ae cI cJ cQ i cells slots) : W p l e room_1 s m #[Value.ref b] below meth c H locs cells slots Q (F0 m 220 ls []) := by
  have C0 := C
  have St0 := St
  obtain ⟨hx, hb, hml, hown, hts, hX, hbl, hfl, hKL, hK, hnd, hne, hAd, hAe, hdj⟩ := C0
  obtain ⟨hI, hT, hP0, hP1, hS⟩ := St0
  refine lv_aload_n hx hb dL_law_220 rfl (lv_at hl 1 rfl) ?_
  refine law_arg C hS (i := i) (k := 1) (by omega) hL hl (List.mem_of_getElem? (i := 0) rfl) (List.mem_of_getElem? (i := 4) rfl) rfl dL_law_221 dL_law_222 dL_law_224 dL_law_225 dL_law_226 ?_
  refine law_arg C hS (i := i) (k := 2) (by omega) hL hl (List.mem_of_getElem? (i := 0) rfl) (List.mem_of_getElem? (i := 4) rfl) rfl dL_law_227 dL_law_228 dL_law_230 dL_law_231 dL_law_232 ?_
  refine lv_aload_n hx hb dL_law_233 rfl (lv_at hl 3 rfl) ?_
  refine law_cls C St (vx_runSX (As := [.ref (ad 0), .int (xs (i + 1)), .int (xs (i + 2)), .ref (ad 27)]) (rest := []) ⟨hx, hb, hml, hown, hts⟩ (w0_watch l hfl hI hnd hT (xs (i + 1)) (xs (i + 2))) (vx_cwSW 4 hts gL_law_L_watch rfl rfl rfl (by decide +kernel) (by decide)) (psW hK hP0 hKL (fun a h1 h2 => hS.2.1 a h1 h2)) rfl rfl hl.1 rfl (lv_room (Nat.le_of_ble_eq_true rfl)) dL_law_234 ⟨Nat.le_trans (Nat.add_le_add_left (by decide) _) hc, Nat.le_trans (Nat.add_le_add_left (by decide) _) hs⟩) (fun r1 u H1 locs1 hp1 hQ0 hQ1 hS1 => ?_)
  obtain ⟨rfl, hv, hT1⟩ := hp1
  have hI1 : Inv (moC (cd2 (rgB (xs (i + 1)) (nI 0) (nI 99) && rgB (xs (i + 2)) (nI 0) (nI 10000)) (decide (M 5 0 < 4))) (nx_watch M (clN (xs (i + 1))) (clN (xs (i + 2)))) M) := Inv_mo hI (fun h => Inv_watch hI (cd2_z h))
  refine lv_istore (lv' := [(5, .int (nI (cd2 (rgB (xs (i + 1)) (nI 0) (nI 99) && rgB (xs (i + 2)) (nI 0) (nI 10000)) (decide (M 5 0 < 4))))), (0, .ref b), (1, .ref (ad 0)), (2, .ref (ae 0)), (3, .ref (ad 27)), (4, .int (nI i))]) hx hb dL_law_237 hl (by decide) rfl (fun ls hl => ?_)
  refine lv_aload_n hx hb dL_law_239 rfl (lv_at hl 3 rfl) ?_
  refine law_arg C hS1 (i := i) (k := 1) (by omega) hL hl (List.mem_of_getElem? (i := 1) rfl) (List.mem_of_getElem? (i := 5) rfl) rfl dL_law_240 dL_law_241 dL_law_243 dL_law_244 dL_law_245 ?_
  refine law_arg C hS1 (i := i) (k := 2) (by omega) hL hl (List.mem_of_getElem? (i := 1) rfl) (List.mem_of_getElem? (i := 5) rfl) rfl dL_law_246 dL_law_247 dL_law_249 dL_law_250 dL_law_251 ?_
  obtain ⟨a1, a2, a3⟩ := law_refA C hQ0 hS1
  refine va_calli (A0 := fun q => s.heap.size ≤ q) (H0 := s.heap) (va_runV (As := [.int (xs (i + 1)), .int (xs (i + 2))]) (rest := []) ⟨hx, hb, hml, hown, hts⟩ (r0_watch l hI hne (xs (i + 1)) (xs (i + 2))) (cwV 2 hts gL_law_X1_watch rfl rfl rfl (by decide +kernel) (by decide)) (pv1S (law_K1 C) hQ1) rfl rfl hl.1 rfl (lv_room (Nat.le_of_ble_eq_true rfl)) dL_law_252 ⟨by omega, by omega⟩) hS1 a1 a2 (fun r2 u2 t H2 locs2 ht hv2 hp2 hB hz hk hS2 => ?_)
  have hR0 := a3 H2 hk
  obtain ⟨M9, hB9, e1, e2⟩ := hB
  have e9 : M9 = (moC (cd2 (rgB (xs (i + 1)) (nI 0) (nI 99) && rgB (xs (i + 2)) (nI 0) (nI 10000)) (decide (M 5 0 < 4))) (nx_watch M (clN (xs (i + 1))) (clN (xs (i + 2)))) M) := by
    by_cases h : (((rgB (xs (i + 1)) (nI 0) (nI 99) && rgB (xs (i + 2)) (nI 0) (nI 10000)) && decide (M 5 0 < 4))) = true
    · rw [e1 h, moC_z (cd2_t h)]
    · rw [e2 (Bool.eq_false_iff.mpr h), moC_n (fun q => h (cd2_z q))]
  subst e9
  have hR1 : va_P D vwCl (wz 9 ae (wmE ae cI (moC (cd2 (rgB (xs (i + 1)) (nI 0) (nI 99) && rgB (xs (i + 2)) (nI 0) (nI 10000)) (decide (M 5 0 < 4))) (nx_watch M (clN (xs (i + 1))) (clN (xs (i + 2)))) M) (nI (cd2 (rgB (xs (i + 1)) (nI 0) (nI 99) && rgB (xs (i + 2)) (nI 0) (nI 10000)) (decide (M 5 0 < 4)))))) H2 := by rw [← ht]; exact hB9.2
  refine lv_istore (lv' := [(6, .int r2), (5, .int (nI (cd2 (rgB (xs (i + 1)) (nI 0) (nI 99) && rgB (xs (i + 2)) (nI 0) (nI 10000)) (decide (M 5 0 < 4))))), (0, .ref b), (1, .ref (ad 0)), (2, .ref (ae 0)), (3, .ref (ad 27)), (4, .int (nI i))]) hx hb dL_law_255 hl (by decide) rfl (fun ls hl => ?_)
  exact law_tail_i C (M := (moC (cd2 (rgB (xs (i + 1)) (nI 0) (nI 99) && rgB (xs (i + 2)) (nI 0) (nI 10000)) (decide (M 5 0 < 4))) (nx_watch M (clN (xs (i + 1))) (clN (xs (i + 2)))) M)) ⟨hI1, hT1, hR0, hR1, hS2⟩ (Nat.le_trans cd2_le (by decide)) (fun h => (hv h).trans (congrArg Int32.toInt64 (hp2 (cd2_z h)).symm)) (pc := 257) ⟨by omega, by omega⟩ hl dL_law_257 dL_law_258 dL_law_261 dL_law_263 dL_law_268 dL_law_270 dL_law_273 dL_law_274 dL_law_275 dL_law_276 dL_law_278 dL_law_279 dL_law_280 dL_law_285 (by decide) (kk _ _ _ _ _ _ _ _ _ _ (by omega) (by omega) ⟨hI1, hT1, hR0, hR1, hS2⟩ (lv_sub hl [2, 3, 4, 5, 6] rfl))
set_option maxHeartbeats 4000000 in
theorem lc_response {p : Program} {l : Launch} {e : Env} {s : State} {m : MethodId} {below : List Frame} {meth : Method} {c : Code} {b L : Nat} {xs : Nat → Int32} {Q : State → Prop} {D : va_G} {ad ae : Nat → Nat} {cI cJ cQ : ClassId} {M : Mdl} {ts : Nat → Nat} {pu : Nat → Int64} {o : Int64} {th : Int32} {sa : Nat → Nat} {H : Heap} {locs : List Loc} {cells slots : Nat} {ls : Array Slot} {i : Nat} (C : LCx p s m c b L xs l D ad ae cI cJ cQ sa) (St : LSt s D ad ae cI cJ cQ M ts pu o th H locs) (hi : i + 4 ≤ L) (hL : L ≤ 2048) (hl : lv_has ls 8 [(0, .ref b), (1, .ref (ad 0)), (2, .ref (ae 0)), (3, .ref (ad 27)), (4, .int (nI i))]) (hc : cells + 5 ≤ room_1.cells) (hs : slots + 30 ≤ room_1.slots) (kk : LNext p l e s m below meth c b Q D ad ae cI cJ cQ i cells slots) : W p l e room_1 s m #[Value.ref b] below meth c H locs cells slots Q (F0 m 288 ls []) := by
  have C0 := C
  have St0 := St
  obtain ⟨hx, hb, hml, hown, hts, hX, hbl, hfl, hKL, hK, hnd, hne, hAd, hAe, hdj⟩ := C0
  obtain ⟨hI, hT, hP0, hP1, hS⟩ := St0
  refine lv_aload_n hx hb dL_law_288 rfl (lv_at hl 1 rfl) ?_
  refine law_arg C hS (i := i) (k := 1) (by omega) hL hl (List.mem_of_getElem? (i := 0) rfl) (List.mem_of_getElem? (i := 4) rfl) rfl dL_law_289 dL_law_290 dL_law_292 dL_law_293 dL_law_294 ?_
  refine law_arg C hS (i := i) (k := 2) (by omega) hL hl (List.mem_of_getElem? (i := 0) rfl) (List.mem_of_getElem? (i := 4) rfl) rfl dL_law_295 dL_law_296 dL_law_298 dL_law_299 dL_law_300 ?_
  refine law_arg C hS (i := i) (k := 3) (by omega) hL hl (List.mem_of_getElem? (i := 0) rfl) (List.mem_of_getElem? (i := 4) rfl) rfl dL_law_301 dL_law_302 dL_law_304 dL_law_305 dL_law_306 ?_
  refine lv_aload_n hx hb dL_law_307 rfl (lv_at hl 3 rfl) ?_
  refine law_cls C St (vx_runSX (As := [.ref (ad 0), .int (xs (i + 1)), .int (xs (i + 2)), .int (xs (i + 3)), .ref (ad 27)]) (rest := []) ⟨hx, hb, hml, hown, hts⟩ (w0_response l hfl hI hnd hT (xs (i + 1)) (xs (i + 2)) (xs (i + 3))) (vx_cwSW 5 hts gL_law_L_response rfl rfl rfl (by decide +kernel) (by decide)) (psW hK hP0 hKL (fun a h1 h2 => hS.2.1 a h1 h2)) rfl rfl hl.1 rfl (lv_room (Nat.le_of_ble_eq_true rfl)) dL_law_308 ⟨Nat.le_trans (Nat.add_le_add_left (by decide) _) hc, Nat.le_trans (Nat.add_le_add_left (by decide) _) hs⟩) (fun r1 u H1 locs1 hp1 hQ0 hQ1 hS1 => ?_)
  obtain ⟨rfl, hv, hT1⟩ := hp1
  have hI1 : Inv (moC (cd2 (ixB (xs (i + 1)) 5 && ixB (xs (i + 2)) 12) (rgB (xs (i + 3)) (nI 0) (nI 1000))) (nx_response M (clN (xs (i + 1))) (clN (xs (i + 2))) (clN (xs (i + 3)))) M) := Inv_mo hI (fun h => Inv_response hI (cd2_z h))
  refine lv_istore (lv' := [(5, .int (nI (cd2 (ixB (xs (i + 1)) 5 && ixB (xs (i + 2)) 12) (rgB (xs (i + 3)) (nI 0) (nI 1000))))), (0, .ref b), (1, .ref (ad 0)), (2, .ref (ae 0)), (3, .ref (ad 27)), (4, .int (nI i))]) hx hb dL_law_311 hl (by decide) rfl (fun ls hl => ?_)
  refine lv_aload_n hx hb dL_law_313 rfl (lv_at hl 3 rfl) ?_
  refine law_arg C hS1 (i := i) (k := 1) (by omega) hL hl (List.mem_of_getElem? (i := 1) rfl) (List.mem_of_getElem? (i := 5) rfl) rfl dL_law_314 dL_law_315 dL_law_317 dL_law_318 dL_law_319 ?_
  refine law_arg C hS1 (i := i) (k := 2) (by omega) hL hl (List.mem_of_getElem? (i := 1) rfl) (List.mem_of_getElem? (i := 5) rfl) rfl dL_law_320 dL_law_321 dL_law_323 dL_law_324 dL_law_325 ?_
  refine law_arg C hS1 (i := i) (k := 3) (by omega) hL hl (List.mem_of_getElem? (i := 1) rfl) (List.mem_of_getElem? (i := 5) rfl) rfl dL_law_326 dL_law_327 dL_law_329 dL_law_330 dL_law_331 ?_
  obtain ⟨a1, a2, a3⟩ := law_refA C hQ0 hS1
  refine va_calli (A0 := fun q => s.heap.size ≤ q) (H0 := s.heap) (va_runV (As := [.int (xs (i + 1)), .int (xs (i + 2)), .int (xs (i + 3))]) (rest := []) ⟨hx, hb, hml, hown, hts⟩ (r0_response l hI hne (xs (i + 1)) (xs (i + 2)) (xs (i + 3))) (cwV 3 hts gL_law_X1_response rfl rfl rfl (by decide +kernel) (by decide)) (pv1S (law_K1 C) hQ1) rfl rfl hl.1 rfl (lv_room (Nat.le_of_ble_eq_true rfl)) dL_law_332 ⟨by omega, by omega⟩) hS1 a1 a2 (fun r2 u2 t H2 locs2 ht hv2 hp2 hB hz hk hS2 => ?_)
  have hR0 := a3 H2 hk
  obtain ⟨M9, hB9, e1, e2⟩ := hB
  have e9 : M9 = (moC (cd2 (ixB (xs (i + 1)) 5 && ixB (xs (i + 2)) 12) (rgB (xs (i + 3)) (nI 0) (nI 1000))) (nx_response M (clN (xs (i + 1))) (clN (xs (i + 2))) (clN (xs (i + 3)))) M) := by
    by_cases h : (((ixB (xs (i + 1)) 5 && ixB (xs (i + 2)) 12) && rgB (xs (i + 3)) (nI 0) (nI 1000))) = true
    · rw [e1 h, moC_z (cd2_t h)]
    · rw [e2 (Bool.eq_false_iff.mpr h), moC_n (fun q => h (cd2_z q))]
  subst e9
  have hR1 : va_P D vwCl (wz 9 ae (wmE ae cI (moC (cd2 (ixB (xs (i + 1)) 5 && ixB (xs (i + 2)) 12) (rgB (xs (i + 3)) (nI 0) (nI 1000))) (nx_response M (clN (xs (i + 1))) (clN (xs (i + 2))) (clN (xs (i + 3)))) M) (nI (cd2 (ixB (xs (i + 1)) 5 && ixB (xs (i + 2)) 12) (rgB (xs (i + 3)) (nI 0) (nI 1000)))))) H2 := by rw [← ht]; exact hB9.2
  refine lv_istore (lv' := [(6, .int r2), (5, .int (nI (cd2 (ixB (xs (i + 1)) 5 && ixB (xs (i + 2)) 12) (rgB (xs (i + 3)) (nI 0) (nI 1000))))), (0, .ref b), (1, .ref (ad 0)), (2, .ref (ae 0)), (3, .ref (ad 27)), (4, .int (nI i))]) hx hb dL_law_335 hl (by decide) rfl (fun ls hl => ?_)
  exact law_tail_i C (M := (moC (cd2 (ixB (xs (i + 1)) 5 && ixB (xs (i + 2)) 12) (rgB (xs (i + 3)) (nI 0) (nI 1000))) (nx_response M (clN (xs (i + 1))) (clN (xs (i + 2))) (clN (xs (i + 3)))) M)) ⟨hI1, hT1, hR0, hR1, hS2⟩ (Nat.le_trans cd2_le (by decide)) (fun h => (hv h).trans (congrArg Int32.toInt64 (hp2 (cd2_z h)).symm)) (pc := 337) ⟨by omega, by omega⟩ hl dL_law_337 dL_law_338 dL_law_341 dL_law_343 dL_law_348 dL_law_350 dL_law_353 dL_law_354 dL_law_355 dL_law_356 dL_law_358 dL_law_359 dL_law_360 dL_law_365 (by decide) (kk _ _ _ _ _ _ _ _ _ _ (by omega) (by omega) ⟨hI1, hT1, hR0, hR1, hS2⟩ (lv_sub hl [2, 3, 4, 5, 6] rfl))
theorem lc_wells {p : Program} {l : Launch} {e : Env} {s : State} {m : MethodId} {below : List Frame} {meth : Method} {c : Code} {b L : Nat} {xs : Nat → Int32} {Q : State → Prop} {D : va_G} {ad ae : Nat → Nat} {cI cJ cQ : ClassId} {M : Mdl} {ts : Nat → Nat} {pu : Nat → Int64} {o : Int64} {th : Int32} {sa : Nat → Nat} {H : Heap} {locs : List Loc} {cells slots : Nat} {ls : Array Slot} {i : Nat} (C : LCx p s m c b L xs l D ad ae cI cJ cQ sa) (St : LSt s D ad ae cI cJ cQ M ts pu o th H locs) (hi : i + 4 ≤ L) (hL : L ≤ 2048) (hl : lv_has ls 8 [(0, .ref b), (1, .ref (ad 0)), (2, .ref (ae 0)), (3, .ref (ad 27)), (4, .int (nI i))]) (hc : cells + 5 ≤ room_1.cells) (hs : slots + 30 ≤ room_1.slots) (kk : LNext p l e s m below meth c b Q D ad ae cI cJ cQ i cells slots) : W p l e room_1 s m #[Value.ref b] below meth c H locs cells slots Q (F0 m 368 ls []) := by
  have C0 := C
  have St0 := St
  obtain ⟨hx, hb, hml, hown, hts, hX, hbl, hfl, hKL, hK, hnd, hne, hAd, hAe, hdj⟩ := C0
  obtain ⟨hI, hT, hP0, hP1, hS⟩ := St0
  refine lv_aload_n hx hb dL_law_368 rfl (lv_at hl 1 rfl) ?_
  refine vp_callSi (W.runV (As := []) (rest := []) ⟨hx, hb, hml, hown, hts⟩ (c0_wells l hI) (cwV 0 hts gL_law_X0_wells rfl rfl rfl (by decide +kernel) (by decide)) (pv0 hK (woP_c hP0)) rfl rfl hl.1 rfl (lv_room (Nat.le_of_ble_eq_true rfl)) dL_law_369 ⟨by omega, by omega⟩) (fun r9 hr9 => ?_)
  subst hr9
  refine lv_aload_n hx hb dL_law_372 rfl (lv_at hl 2 rfl) ?_
  obtain ⟨a1, a2, a3⟩ := law_refA C hP0 hS
  refine va_calli (A0 := fun q => s.heap.size ≤ q) (H0 := s.heap) (va_runV (As := []) (rest := [.int (nI (M 0 0))]) ⟨hx, hb, hml, hown, hts⟩ (r0_wells l hne) (cwV 0 hts gL_law_X1_wells rfl rfl rfl (by decide +kernel) (by decide)) (pv1S (law_K1 C) hP1) rfl rfl hl.1 rfl (lv_room (Nat.le_of_ble_eq_true rfl)) dL_law_373 ⟨by omega, by omega⟩) hS a1 a2 (fun r2 u2 t H2 locs2 ht hv2 hp2 hB hz hk hS2 => ?_)
  subst hp2
  have hR0 := a3 H2 hk
  have hR1 : va_P D vwCl (wz 9 ae (wmE ae cI M (nI 0))) H2 := by rw [← ht]; exact hB.2
  exact lv_icmp_eq (tgt := 1523) hx hb dL_law_376 (by decide) (fun _ => kk _ _ _ _ _ _ _ _ _ _ (by omega) (by omega) ⟨hI, hT, hR0, hR1, hS2⟩ hl) (fun q => absurd rfl q)
theorem lc_watches {p : Program} {l : Launch} {e : Env} {s : State} {m : MethodId} {below : List Frame} {meth : Method} {c : Code} {b L : Nat} {xs : Nat → Int32} {Q : State → Prop} {D : va_G} {ad ae : Nat → Nat} {cI cJ cQ : ClassId} {M : Mdl} {ts : Nat → Nat} {pu : Nat → Int64} {o : Int64} {th : Int32} {sa : Nat → Nat} {H : Heap} {locs : List Loc} {cells slots : Nat} {ls : Array Slot} {i : Nat} (C : LCx p s m c b L xs l D ad ae cI cJ cQ sa) (St : LSt s D ad ae cI cJ cQ M ts pu o th H locs) (hi : i + 4 ≤ L) (hL : L ≤ 2048) (hl : lv_has ls 8 [(0, .ref b), (1, .ref (ad 0)), (2, .ref (ae 0)), (3, .ref (ad 27)), (4, .int (nI i))]) (hc : cells + 5 ≤ room_1.cells) (hs : slots + 30 ≤ room_1.slots) (kk : LNext p l e s m below meth c b Q D ad ae cI cJ cQ i cells slots) : W p l e room_1 s m #[Value.ref b] below meth c H locs cells slots Q (F0 m 381 ls []) := by
  have C0 := C
  have St0 := St
  obtain ⟨hx, hb, hml, hown, hts, hX, hbl, hfl, hKL, hK, hnd, hne, hAd, hAe, hdj⟩ := C0
  obtain ⟨hI, hT, hP0, hP1, hS⟩ := St0
  refine lv_aload_n hx hb dL_law_381 rfl (lv_at hl 1 rfl) ?_
  refine vp_callSi (W.runV (As := []) (rest := []) ⟨hx, hb, hml, hown, hts⟩ (c0_watches l hI) (cwV 0 hts gL_law_X0_watches rfl rfl rfl (by decide +kernel) (by decide)) (pv0 hK (woP_c hP0)) rfl rfl hl.1 rfl (lv_room (Nat.le_of_ble_eq_true rfl)) dL_law_382 ⟨by omega, by omega⟩) (fun r9 hr9 => ?_)
  subst hr9
  refine lv_aload_n hx hb dL_law_385 rfl (lv_at hl 2 rfl) ?_
  obtain ⟨a1, a2, a3⟩ := law_refA C hP0 hS
  refine va_calli (A0 := fun q => s.heap.size ≤ q) (H0 := s.heap) (va_runV (As := []) (rest := [.int (nI (M 5 0))]) ⟨hx, hb, hml, hown, hts⟩ (r0_watches l hne) (cwV 0 hts gL_law_X1_watches rfl rfl rfl (by decide +kernel) (by decide)) (pv1S (law_K1 C) hP1) rfl rfl hl.1 rfl (lv_room (Nat.le_of_ble_eq_true rfl)) dL_law_386 ⟨by omega, by omega⟩) hS a1 a2 (fun r2 u2 t H2 locs2 ht hv2 hp2 hB hz hk hS2 => ?_)
  subst hp2
  have hR0 := a3 H2 hk
  have hR1 : va_P D vwCl (wz 9 ae (wmE ae cI M (nI 0))) H2 := by rw [← ht]; exact hB.2
  exact lv_icmp_eq (tgt := 1523) hx hb dL_law_389 (by decide) (fun _ => kk _ _ _ _ _ _ _ _ _ _ (by omega) (by omega) ⟨hI, hT, hR0, hR1, hS2⟩ hl) (fun q => absurd rfl q)
set_option maxHeartbeats 4000000 in
theorem lc_pump {p : Program} {l : Launch} {e : Env} {s : State} {m : MethodId} {below : List Frame} {meth : Method} {c : Code} {b L : Nat} {xs : Nat → Int32} {Q : State → Prop} {D : va_G} {ad ae : Nat → Nat} {cI cJ cQ : ClassId} {M : Mdl} {ts : Nat → Nat} {pu : Nat → Int64} {o : Int64} {th : Int32} {sa : Nat → Nat} {H : Heap} {locs : List Loc} {cells slots : Nat} {ls : Array Slot} {i : Nat} (C : LCx p s m c b L xs l D ad ae cI cJ cQ sa) (St : LSt s D ad ae cI cJ cQ M ts pu o th H locs) (hi : i + 4 ≤ L) (hL : L ≤ 2048) (hl : lv_has ls 8 [(0, .ref b), (1, .ref (ad 0)), (2, .ref (ae 0)), (3, .ref (ad 27)), (4, .int (nI i))]) (hc : cells + 5 ≤ room_1.cells) (hs : slots + 30 ≤ room_1.slots) (kk : LNext p l e s m below meth c b Q D ad ae cI cJ cQ i cells slots) : W p l e room_1 s m #[Value.ref b] below meth c H locs cells slots Q (F0 m 394 ls []) := by
  have C0 := C
  have St0 := St
  obtain ⟨hx, hb, hml, hown, hts, hX, hbl, hfl, hKL, hK, hnd, hne, hAd, hAe, hdj⟩ := C0
  obtain ⟨hI, hT, hP0, hP1, hS⟩ := St0
  refine lv_aload_n hx hb dL_law_394 rfl (lv_at hl 1 rfl) ?_
  refine law_arg C hS (i := i) (k := 1) (by omega) hL hl (List.mem_of_getElem? (i := 0) rfl) (List.mem_of_getElem? (i := 4) rfl) rfl dL_law_395 dL_law_396 dL_law_398 dL_law_399 dL_law_400 ?_
  refine law_arg C hS (i := i) (k := 2) (by omega) hL hl (List.mem_of_getElem? (i := 0) rfl) (List.mem_of_getElem? (i := 4) rfl) rfl dL_law_401 dL_law_402 dL_law_404 dL_law_405 dL_law_406 ?_
  refine law_arg C hS (i := i) (k := 3) (by omega) hL hl (List.mem_of_getElem? (i := 0) rfl) (List.mem_of_getElem? (i := 4) rfl) rfl dL_law_407 dL_law_408 dL_law_410 dL_law_411 dL_law_412 ?_
  refine lv_aload_n hx hb dL_law_413 rfl (lv_at hl 3 rfl) ?_
  refine law_cls C St (vx_runSX (As := [.ref (ad 0), .int (xs (i + 1)), .int (xs (i + 2)), .int (xs (i + 3)), .ref (ad 27)]) (rest := []) ⟨hx, hb, hml, hown, hts⟩ (w0_pump l hfl hI hnd hT (xs (i + 1)) (xs (i + 2)) (xs (i + 3))) (vx_cwSW 5 hts gL_law_L_pump rfl rfl rfl (by decide +kernel) (by decide)) (psW hK hP0 hKL (fun a h1 h2 => hS.2.1 a h1 h2)) rfl rfl hl.1 rfl (lv_room (Nat.le_of_ble_eq_true rfl)) dL_law_414 ⟨Nat.le_trans (Nat.add_le_add_left (by decide) _) hc, Nat.le_trans (Nat.add_le_add_left (by decide) _) hs⟩) (fun r1 u H1 locs1 hp1 hQ0 hQ1 hS1 => ?_)
  obtain ⟨rfl, hv, hT1⟩ := hp1
  have hI1 : Inv (moC (cd2 (ixB (xs (i + 1)) (M 0 0) && ixB (xs (i + 2)) 36) (rgB (xs (i + 3)) (nI 0) (nI 1000))) (nx_pump M (clN (xs (i + 1))) (clN (xs (i + 2))) (clN (xs (i + 3)))) M) := Inv_mo hI (fun h => Inv_pump hI (cd2_z h))
  refine lv_istore (lv' := [(5, .int (nI (cd2 (ixB (xs (i + 1)) (M 0 0) && ixB (xs (i + 2)) 36) (rgB (xs (i + 3)) (nI 0) (nI 1000))))), (0, .ref b), (1, .ref (ad 0)), (2, .ref (ae 0)), (3, .ref (ad 27)), (4, .int (nI i))]) hx hb dL_law_417 hl (by decide) rfl (fun ls hl => ?_)
  refine lv_aload_n hx hb dL_law_419 rfl (lv_at hl 3 rfl) ?_
  refine law_arg C hS1 (i := i) (k := 1) (by omega) hL hl (List.mem_of_getElem? (i := 1) rfl) (List.mem_of_getElem? (i := 5) rfl) rfl dL_law_420 dL_law_421 dL_law_423 dL_law_424 dL_law_425 ?_
  refine law_arg C hS1 (i := i) (k := 2) (by omega) hL hl (List.mem_of_getElem? (i := 1) rfl) (List.mem_of_getElem? (i := 5) rfl) rfl dL_law_426 dL_law_427 dL_law_429 dL_law_430 dL_law_431 ?_
  refine law_arg C hS1 (i := i) (k := 3) (by omega) hL hl (List.mem_of_getElem? (i := 1) rfl) (List.mem_of_getElem? (i := 5) rfl) rfl dL_law_432 dL_law_433 dL_law_435 dL_law_436 dL_law_437 ?_
  obtain ⟨a1, a2, a3⟩ := law_refA C hQ0 hS1
  refine va_calli (A0 := fun q => s.heap.size ≤ q) (H0 := s.heap) (va_runV (As := [.int (xs (i + 1)), .int (xs (i + 2)), .int (xs (i + 3))]) (rest := []) ⟨hx, hb, hml, hown, hts⟩ (r0_pump l hI hne (xs (i + 1)) (xs (i + 2)) (xs (i + 3))) (cwV 3 hts gL_law_X1_pump rfl rfl rfl (by decide +kernel) (by decide)) (pv1S (law_K1 C) hQ1) rfl rfl hl.1 rfl (lv_room (Nat.le_of_ble_eq_true rfl)) dL_law_438 ⟨by omega, by omega⟩) hS1 a1 a2 (fun r2 u2 t H2 locs2 ht hv2 hp2 hB hz hk hS2 => ?_)
  have hR0 := a3 H2 hk
  obtain ⟨M9, hB9, e1, e2⟩ := hB
  have e9 : M9 = (moC (cd2 (ixB (xs (i + 1)) (M 0 0) && ixB (xs (i + 2)) 36) (rgB (xs (i + 3)) (nI 0) (nI 1000))) (nx_pump M (clN (xs (i + 1))) (clN (xs (i + 2))) (clN (xs (i + 3)))) M) := by
    by_cases h : (((ixB (xs (i + 1)) (M 0 0) && ixB (xs (i + 2)) 36) && rgB (xs (i + 3)) (nI 0) (nI 1000))) = true
    · rw [e1 h, moC_z (cd2_t h)]
    · rw [e2 (Bool.eq_false_iff.mpr h), moC_n (fun q => h (cd2_z q))]
  subst e9
  have hR1 : va_P D vwCl (wz 9 ae (wmE ae cI (moC (cd2 (ixB (xs (i + 1)) (M 0 0) && ixB (xs (i + 2)) 36) (rgB (xs (i + 3)) (nI 0) (nI 1000))) (nx_pump M (clN (xs (i + 1))) (clN (xs (i + 2))) (clN (xs (i + 3)))) M) (nI (cd2 (ixB (xs (i + 1)) (M 0 0) && ixB (xs (i + 2)) 36) (rgB (xs (i + 3)) (nI 0) (nI 1000)))))) H2 := by rw [← ht]; exact hB9.2
  refine lv_istore (lv' := [(6, .int r2), (5, .int (nI (cd2 (ixB (xs (i + 1)) (M 0 0) && ixB (xs (i + 2)) 36) (rgB (xs (i + 3)) (nI 0) (nI 1000))))), (0, .ref b), (1, .ref (ad 0)), (2, .ref (ae 0)), (3, .ref (ad 27)), (4, .int (nI i))]) hx hb dL_law_441 hl (by decide) rfl (fun ls hl => ?_)
  exact law_tail_i C (M := (moC (cd2 (ixB (xs (i + 1)) (M 0 0) && ixB (xs (i + 2)) 36) (rgB (xs (i + 3)) (nI 0) (nI 1000))) (nx_pump M (clN (xs (i + 1))) (clN (xs (i + 2))) (clN (xs (i + 3)))) M)) ⟨hI1, hT1, hR0, hR1, hS2⟩ (Nat.le_trans cd2_le (by decide)) (fun h => (hv h).trans (congrArg Int32.toInt64 (hp2 (cd2_z h)).symm)) (pc := 443) ⟨by omega, by omega⟩ hl dL_law_443 dL_law_444 dL_law_447 dL_law_449 dL_law_454 dL_law_456 dL_law_459 dL_law_460 dL_law_461 dL_law_462 dL_law_464 dL_law_465 dL_law_466 dL_law_471 (by decide) (kk _ _ _ _ _ _ _ _ _ _ (by omega) (by omega) ⟨hI1, hT1, hR0, hR1, hS2⟩ (lv_sub hl [2, 3, 4, 5, 6] rfl))
set_option maxHeartbeats 4000000 in
theorem lc_rest {p : Program} {l : Launch} {e : Env} {s : State} {m : MethodId} {below : List Frame} {meth : Method} {c : Code} {b L : Nat} {xs : Nat → Int32} {Q : State → Prop} {D : va_G} {ad ae : Nat → Nat} {cI cJ cQ : ClassId} {M : Mdl} {ts : Nat → Nat} {pu : Nat → Int64} {o : Int64} {th : Int32} {sa : Nat → Nat} {H : Heap} {locs : List Loc} {cells slots : Nat} {ls : Array Slot} {i : Nat} (C : LCx p s m c b L xs l D ad ae cI cJ cQ sa) (St : LSt s D ad ae cI cJ cQ M ts pu o th H locs) (hi : i + 4 ≤ L) (hL : L ≤ 2048) (hl : lv_has ls 8 [(0, .ref b), (1, .ref (ad 0)), (2, .ref (ae 0)), (3, .ref (ad 27)), (4, .int (nI i))]) (hc : cells + 5 ≤ room_1.cells) (hs : slots + 30 ≤ room_1.slots) (kk : LNext p l e s m below meth c b Q D ad ae cI cJ cQ i cells slots) : W p l e room_1 s m #[Value.ref b] below meth c H locs cells slots Q (F0 m 474 ls []) := by
  have C0 := C
  have St0 := St
  obtain ⟨hx, hb, hml, hown, hts, hX, hbl, hfl, hKL, hK, hnd, hne, hAd, hAe, hdj⟩ := C0
  obtain ⟨hI, hT, hP0, hP1, hS⟩ := St0
  refine lv_aload_n hx hb dL_law_474 rfl (lv_at hl 1 rfl) ?_
  refine law_arg C hS (i := i) (k := 1) (by omega) hL hl (List.mem_of_getElem? (i := 0) rfl) (List.mem_of_getElem? (i := 4) rfl) rfl dL_law_475 dL_law_476 dL_law_478 dL_law_479 dL_law_480 ?_
  refine law_arg C hS (i := i) (k := 2) (by omega) hL hl (List.mem_of_getElem? (i := 0) rfl) (List.mem_of_getElem? (i := 4) rfl) rfl dL_law_481 dL_law_482 dL_law_484 dL_law_485 dL_law_486 ?_
  refine law_arg C hS (i := i) (k := 3) (by omega) hL hl (List.mem_of_getElem? (i := 0) rfl) (List.mem_of_getElem? (i := 4) rfl) rfl dL_law_487 dL_law_488 dL_law_490 dL_law_491 dL_law_492 ?_
  refine lv_aload_n hx hb dL_law_493 rfl (lv_at hl 3 rfl) ?_
  refine law_cls C St (vx_runSX (As := [.ref (ad 0), .int (xs (i + 1)), .int (xs (i + 2)), .int (xs (i + 3)), .ref (ad 27)]) (rest := []) ⟨hx, hb, hml, hown, hts⟩ (w0_rest l hfl hI hnd hT (xs (i + 1)) (xs (i + 2)) (xs (i + 3))) (vx_cwSW 5 hts gL_law_L_rest rfl rfl rfl (by decide +kernel) (by decide)) (psW hK hP0 hKL (fun a h1 h2 => hS.2.1 a h1 h2)) rfl rfl hl.1 rfl (lv_room (Nat.le_of_ble_eq_true rfl)) dL_law_494 ⟨Nat.le_trans (Nat.add_le_add_left (by decide) _) hc, Nat.le_trans (Nat.add_le_add_left (by decide) _) hs⟩) (fun r1 u H1 locs1 hp1 hQ0 hQ1 hS1 => ?_)
  obtain ⟨rfl, hv, hT1⟩ := hp1
  have hI1 : Inv (moC (cd2 (ixB (xs (i + 1)) (M 0 0) && ixB (xs (i + 2)) 36) (rgB (xs (i + 3)) (nI 1) (nI 36))) (nx_rest M (clN (xs (i + 1))) (clN (xs (i + 2))) (clN (xs (i + 3)))) M) := Inv_mo hI (fun h => Inv_rest hI (cd2_z h))
  refine lv_istore (lv' := [(5, .int (nI (cd2 (ixB (xs (i + 1)) (M 0 0) && ixB (xs (i + 2)) 36) (rgB (xs (i + 3)) (nI 1) (nI 36))))), (0, .ref b), (1, .ref (ad 0)), (2, .ref (ae 0)), (3, .ref (ad 27)), (4, .int (nI i))]) hx hb dL_law_497 hl (by decide) rfl (fun ls hl => ?_)
  refine lv_aload_n hx hb dL_law_499 rfl (lv_at hl 3 rfl) ?_
  refine law_arg C hS1 (i := i) (k := 1) (by omega) hL hl (List.mem_of_getElem? (i := 1) rfl) (List.mem_of_getElem? (i := 5) rfl) rfl dL_law_500 dL_law_501 dL_law_503 dL_law_504 dL_law_505 ?_
  refine law_arg C hS1 (i := i) (k := 2) (by omega) hL hl (List.mem_of_getElem? (i := 1) rfl) (List.mem_of_getElem? (i := 5) rfl) rfl dL_law_506 dL_law_507 dL_law_509 dL_law_510 dL_law_511 ?_
  refine law_arg C hS1 (i := i) (k := 3) (by omega) hL hl (List.mem_of_getElem? (i := 1) rfl) (List.mem_of_getElem? (i := 5) rfl) rfl dL_law_512 dL_law_513 dL_law_515 dL_law_516 dL_law_517 ?_
  obtain ⟨a1, a2, a3⟩ := law_refA C hQ0 hS1
  refine va_calli (A0 := fun q => s.heap.size ≤ q) (H0 := s.heap) (va_runV (As := [.int (xs (i + 1)), .int (xs (i + 2)), .int (xs (i + 3))]) (rest := []) ⟨hx, hb, hml, hown, hts⟩ (r0_rest l hI hne (xs (i + 1)) (xs (i + 2)) (xs (i + 3))) (cwV 3 hts gL_law_X1_rest rfl rfl rfl (by decide +kernel) (by decide)) (pv1S (law_K1 C) hQ1) rfl rfl hl.1 rfl (lv_room (Nat.le_of_ble_eq_true rfl)) dL_law_518 ⟨by omega, by omega⟩) hS1 a1 a2 (fun r2 u2 t H2 locs2 ht hv2 hp2 hB hz hk hS2 => ?_)
  have hR0 := a3 H2 hk
  obtain ⟨M9, hB9, e1, e2⟩ := hB
  have e9 : M9 = (moC (cd2 (ixB (xs (i + 1)) (M 0 0) && ixB (xs (i + 2)) 36) (rgB (xs (i + 3)) (nI 1) (nI 36))) (nx_rest M (clN (xs (i + 1))) (clN (xs (i + 2))) (clN (xs (i + 3)))) M) := by
    by_cases h : (((ixB (xs (i + 1)) (M 0 0) && ixB (xs (i + 2)) 36) && rgB (xs (i + 3)) (nI 1) (nI 36))) = true
    · rw [e1 h, moC_z (cd2_t h)]
    · rw [e2 (Bool.eq_false_iff.mpr h), moC_n (fun q => h (cd2_z q))]
  subst e9
  have hR1 : va_P D vwCl (wz 9 ae (wmE ae cI (moC (cd2 (ixB (xs (i + 1)) (M 0 0) && ixB (xs (i + 2)) 36) (rgB (xs (i + 3)) (nI 1) (nI 36))) (nx_rest M (clN (xs (i + 1))) (clN (xs (i + 2))) (clN (xs (i + 3)))) M) (nI (cd2 (ixB (xs (i + 1)) (M 0 0) && ixB (xs (i + 2)) 36) (rgB (xs (i + 3)) (nI 1) (nI 36)))))) H2 := by rw [← ht]; exact hB9.2
  refine lv_istore (lv' := [(6, .int r2), (5, .int (nI (cd2 (ixB (xs (i + 1)) (M 0 0) && ixB (xs (i + 2)) 36) (rgB (xs (i + 3)) (nI 1) (nI 36))))), (0, .ref b), (1, .ref (ad 0)), (2, .ref (ae 0)), (3, .ref (ad 27)), (4, .int (nI i))]) hx hb dL_law_521 hl (by decide) rfl (fun ls hl => ?_)
  exact law_tail_i C (M := (moC (cd2 (ixB (xs (i + 1)) (M 0 0) && ixB (xs (i + 2)) 36) (rgB (xs (i + 3)) (nI 1) (nI 36))) (nx_rest M (clN (xs (i + 1))) (clN (xs (i + 2))) (clN (xs (i + 3)))) M)) ⟨hI1, hT1, hR0, hR1, hS2⟩ (Nat.le_trans cd2_le (by decide)) (fun h => (hv h).trans (congrArg Int32.toInt64 (hp2 (cd2_z h)).symm)) (pc := 523) ⟨by omega, by omega⟩ hl dL_law_523 dL_law_524 dL_law_527 dL_law_529 dL_law_534 dL_law_536 dL_law_539 dL_law_540 dL_law_541 dL_law_542 dL_law_544 dL_law_545 dL_law_546 dL_law_551 (by decide) (kk _ _ _ _ _ _ _ _ _ _ (by omega) (by omega) ⟨hI1, hT1, hR0, hR1, hS2⟩ (lv_sub hl [2, 3, 4, 5, 6] rfl))
set_option maxHeartbeats 4000000 in
theorem lc_pumped {p : Program} {l : Launch} {e : Env} {s : State} {m : MethodId} {below : List Frame} {meth : Method} {c : Code} {b L : Nat} {xs : Nat → Int32} {Q : State → Prop} {D : va_G} {ad ae : Nat → Nat} {cI cJ cQ : ClassId} {M : Mdl} {ts : Nat → Nat} {pu : Nat → Int64} {o : Int64} {th : Int32} {sa : Nat → Nat} {H : Heap} {locs : List Loc} {cells slots : Nat} {ls : Array Slot} {i : Nat} (C : LCx p s m c b L xs l D ad ae cI cJ cQ sa) (St : LSt s D ad ae cI cJ cQ M ts pu o th H locs) (hi : i + 4 ≤ L) (hL : L ≤ 2048) (hl : lv_has ls 8 [(0, .ref b), (1, .ref (ad 0)), (2, .ref (ae 0)), (3, .ref (ad 27)), (4, .int (nI i))]) (hc : cells + 5 ≤ room_1.cells) (hs : slots + 30 ≤ room_1.slots) (kk : LNext p l e s m below meth c b Q D ad ae cI cJ cQ i cells slots) : W p l e room_1 s m #[Value.ref b] below meth c H locs cells slots Q (F0 m 554 ls []) := by
  have C0 := C
  have St0 := St
  obtain ⟨hx, hb, hml, hown, hts, hX, hbl, hfl, hKL, hK, hnd, hne, hAd, hAe, hdj⟩ := C0
  obtain ⟨hI, hT, hP0, hP1, hS⟩ := St0
  refine lv_aload_n hx hb dL_law_554 rfl (lv_at hl 1 rfl) ?_
  refine law_arg C hS (i := i) (k := 1) (by omega) hL hl (List.mem_of_getElem? (i := 0) rfl) (List.mem_of_getElem? (i := 4) rfl) rfl dL_law_555 dL_law_556 dL_law_558 dL_law_559 dL_law_560 ?_
  refine law_arg C hS (i := i) (k := 2) (by omega) hL hl (List.mem_of_getElem? (i := 0) rfl) (List.mem_of_getElem? (i := 4) rfl) rfl dL_law_561 dL_law_562 dL_law_564 dL_law_565 dL_law_566 ?_
  refine lv_aload_n hx hb dL_law_567 rfl (lv_at hl 3 rfl) ?_
  refine law_cls C St (vx_runSX (As := [.ref (ad 0), .int (xs (i + 1)), .int (xs (i + 2)), .ref (ad 27)]) (rest := []) ⟨hx, hb, hml, hown, hts⟩ (w0_pumped l hfl hI hnd hT (xs (i + 1)) (xs (i + 2))) (vx_cwSW 4 hts gL_law_L_pumped rfl rfl rfl (by decide +kernel) (by decide)) (psW hK hP0 hKL (fun a h1 h2 => hS.2.1 a h1 h2)) rfl rfl hl.1 rfl (lv_room (Nat.le_of_ble_eq_true rfl)) dL_law_568 ⟨Nat.le_trans (Nat.add_le_add_left (by decide) _) hc, Nat.le_trans (Nat.add_le_add_left (by decide) _) hs⟩) (fun r1 u H1 locs1 hp1 hQ0 hQ1 hS1 => ?_)
  obtain ⟨rfl, hv, hT1⟩ := hp1
  have hI1 := hI
  refine lv_istore (lv' := [(5, .int (nI (cd1 (ixB (xs (i + 1)) (M 0 0) && ixB (xs (i + 2)) 3)))), (0, .ref b), (1, .ref (ad 0)), (2, .ref (ae 0)), (3, .ref (ad 27)), (4, .int (nI i))]) hx hb dL_law_571 hl (by decide) rfl (fun ls hl => ?_)
  refine lv_aload_n hx hb dL_law_573 rfl (lv_at hl 3 rfl) ?_
  refine law_arg C hS1 (i := i) (k := 1) (by omega) hL hl (List.mem_of_getElem? (i := 1) rfl) (List.mem_of_getElem? (i := 5) rfl) rfl dL_law_574 dL_law_575 dL_law_577 dL_law_578 dL_law_579 ?_
  refine law_arg C hS1 (i := i) (k := 2) (by omega) hL hl (List.mem_of_getElem? (i := 1) rfl) (List.mem_of_getElem? (i := 5) rfl) rfl dL_law_580 dL_law_581 dL_law_583 dL_law_584 dL_law_585 ?_
  obtain ⟨a1, a2, a3⟩ := law_refA C hQ0 hS1
  refine va_calli (A0 := fun q => s.heap.size ≤ q) (H0 := s.heap) (va_runV (As := [.int (xs (i + 1)), .int (xs (i + 2))]) (rest := []) ⟨hx, hb, hml, hown, hts⟩ (r0_pumped l hI hne (xs (i + 1)) (xs (i + 2))) (cwV 2 hts gL_law_X1_pumped rfl rfl rfl (by decide +kernel) (by decide)) (pv1S (law_K1 C) hQ1) rfl rfl hl.1 rfl (lv_room (Nat.le_of_ble_eq_true rfl)) dL_law_586 ⟨by omega, by omega⟩) hS1 a1 a2 (fun r2 u2 t H2 locs2 ht hv2 hp2 hB hz hk hS2 => ?_)
  have hR0 := a3 H2 hk
  have hR1 : va_P D vwCl (wz 9 ae (wmE ae cI M (nI (cd1 (ixB (xs (i + 1)) (M 0 0) && ixB (xs (i + 2)) 3))))) H2 := by rw [← ht]; exact hB.2
  refine lv_istore (lv' := [(6, .int r2), (5, .int (nI (cd1 (ixB (xs (i + 1)) (M 0 0) && ixB (xs (i + 2)) 3)))), (0, .ref b), (1, .ref (ad 0)), (2, .ref (ae 0)), (3, .ref (ad 27)), (4, .int (nI i))]) hx hb dL_law_589 hl (by decide) rfl (fun ls hl => ?_)
  exact law_tail_i C (M := M) ⟨hI1, hT1, hR0, hR1, hS2⟩ (Nat.le_trans cd1_le (by decide)) (fun h => (hv h).trans (congrArg Int32.toInt64 (hp2 (cd1_z h)).symm)) (pc := 591) ⟨by omega, by omega⟩ hl dL_law_591 dL_law_592 dL_law_595 dL_law_597 dL_law_602 dL_law_604 dL_law_607 dL_law_608 dL_law_609 dL_law_610 dL_law_612 dL_law_613 dL_law_614 dL_law_619 (by decide) (kk _ _ _ _ _ _ _ _ _ _ (by omega) (by omega) ⟨hI1, hT1, hR0, hR1, hS2⟩ (lv_sub hl [2, 3, 4, 5, 6] rfl))
set_option maxHeartbeats 4000000 in
theorem lc_beyond {p : Program} {l : Launch} {e : Env} {s : State} {m : MethodId} {below : List Frame} {meth : Method} {c : Code} {b L : Nat} {xs : Nat → Int32} {Q : State → Prop} {D : va_G} {ad ae : Nat → Nat} {cI cJ cQ : ClassId} {M : Mdl} {ts : Nat → Nat} {pu : Nat → Int64} {o : Int64} {th : Int32} {sa : Nat → Nat} {H : Heap} {locs : List Loc} {cells slots : Nat} {ls : Array Slot} {i : Nat} (C : LCx p s m c b L xs l D ad ae cI cJ cQ sa) (St : LSt s D ad ae cI cJ cQ M ts pu o th H locs) (hi : i + 4 ≤ L) (hL : L ≤ 2048) (hl : lv_has ls 8 [(0, .ref b), (1, .ref (ad 0)), (2, .ref (ae 0)), (3, .ref (ad 27)), (4, .int (nI i))]) (hc : cells + 5 ≤ room_1.cells) (hs : slots + 30 ≤ room_1.slots) (kk : LNext p l e s m below meth c b Q D ad ae cI cJ cQ i cells slots) : W p l e room_1 s m #[Value.ref b] below meth c H locs cells slots Q (F0 m 622 ls []) := by
  have C0 := C
  have St0 := St
  obtain ⟨hx, hb, hml, hown, hts, hX, hbl, hfl, hKL, hK, hnd, hne, hAd, hAe, hdj⟩ := C0
  obtain ⟨hI, hT, hP0, hP1, hS⟩ := St0
  refine lv_aload_n hx hb dL_law_622 rfl (lv_at hl 1 rfl) ?_
  refine law_arg C hS (i := i) (k := 1) (by omega) hL hl (List.mem_of_getElem? (i := 0) rfl) (List.mem_of_getElem? (i := 4) rfl) rfl dL_law_623 dL_law_624 dL_law_626 dL_law_627 dL_law_628 ?_
  refine lv_aload_n hx hb dL_law_629 rfl (lv_at hl 3 rfl) ?_
  refine law_cls C St (vx_runSX (As := [.ref (ad 0), .int (xs (i + 1)), .ref (ad 27)]) (rest := []) ⟨hx, hb, hml, hown, hts⟩ (w0_beyond l hfl hI hnd hT (xs (i + 1))) (vx_cwSW 3 hts gL_law_L_beyond rfl rfl rfl (by decide +kernel) (by decide)) (psW hK hP0 hKL (fun a h1 h2 => hS.2.1 a h1 h2)) rfl rfl hl.1 rfl (lv_room (Nat.le_of_ble_eq_true rfl)) dL_law_630 ⟨Nat.le_trans (Nat.add_le_add_left (by decide) _) hc, Nat.le_trans (Nat.add_le_add_left (by decide) _) hs⟩) (fun r1 u H1 locs1 hp1 hQ0 hQ1 hS1 => ?_)
  obtain ⟨rfl, hv, hT1⟩ := hp1
  have hI1 := hI
  refine lv_istore (lv' := [(5, .int (nI (cd1 (ixB (xs (i + 1)) 3)))), (0, .ref b), (1, .ref (ad 0)), (2, .ref (ae 0)), (3, .ref (ad 27)), (4, .int (nI i))]) hx hb dL_law_633 hl (by decide) rfl (fun ls hl => ?_)
  refine lv_aload_n hx hb dL_law_635 rfl (lv_at hl 3 rfl) ?_
  refine law_arg C hS1 (i := i) (k := 1) (by omega) hL hl (List.mem_of_getElem? (i := 1) rfl) (List.mem_of_getElem? (i := 5) rfl) rfl dL_law_636 dL_law_637 dL_law_639 dL_law_640 dL_law_641 ?_
  obtain ⟨a1, a2, a3⟩ := law_refA C hQ0 hS1
  refine va_calli (A0 := fun q => s.heap.size ≤ q) (H0 := s.heap) (va_runV (As := [.int (xs (i + 1))]) (rest := []) ⟨hx, hb, hml, hown, hts⟩ (r0_beyond l hI hne (xs (i + 1))) (cwV 1 hts gL_law_X1_beyond rfl rfl rfl (by decide +kernel) (by decide)) (pv1S (law_K1 C) hQ1) rfl rfl hl.1 rfl (lv_room (Nat.le_of_ble_eq_true rfl)) dL_law_642 ⟨by omega, by omega⟩) hS1 a1 a2 (fun r2 u2 t H2 locs2 ht hv2 hp2 hB hz hk hS2 => ?_)
  have hR0 := a3 H2 hk
  have hR1 : va_P D vwCl (wz 9 ae (wmE ae cI M (nI (cd1 (ixB (xs (i + 1)) 3))))) H2 := by rw [← ht]; exact hB.2
  refine lv_istore (lv' := [(6, .int r2), (5, .int (nI (cd1 (ixB (xs (i + 1)) 3)))), (0, .ref b), (1, .ref (ad 0)), (2, .ref (ae 0)), (3, .ref (ad 27)), (4, .int (nI i))]) hx hb dL_law_645 hl (by decide) rfl (fun ls hl => ?_)
  exact law_tail_i C (M := M) ⟨hI1, hT1, hR0, hR1, hS2⟩ (Nat.le_trans cd1_le (by decide)) (fun h => (hv h).trans (congrArg Int32.toInt64 (hp2 (cd1_z h)).symm)) (pc := 647) ⟨by omega, by omega⟩ hl dL_law_647 dL_law_648 dL_law_651 dL_law_653 dL_law_658 dL_law_660 dL_law_663 dL_law_664 dL_law_665 dL_law_666 dL_law_668 dL_law_669 dL_law_670 dL_law_675 (by decide) (kk _ _ _ _ _ _ _ _ _ _ (by omega) (by omega) ⟨hI1, hT1, hR0, hR1, hS2⟩ (lv_sub hl [2, 3, 4, 5, 6] rfl))
set_option maxHeartbeats 4000000 in
theorem lc_drawdown {p : Program} {l : Launch} {e : Env} {s : State} {m : MethodId} {below : List Frame} {meth : Method} {c : Code} {b L : Nat} {xs : Nat → Int32} {Q : State → Prop} {D : va_G} {ad ae : Nat → Nat} {cI cJ cQ : ClassId} {M : Mdl} {ts : Nat → Nat} {pu : Nat → Int64} {o : Int64} {th : Int32} {sa : Nat → Nat} {H : Heap} {locs : List Loc} {cells slots : Nat} {ls : Array Slot} {i : Nat} (C : LCx p s m c b L xs l D ad ae cI cJ cQ sa) (St : LSt s D ad ae cI cJ cQ M ts pu o th H locs) (hi : i + 4 ≤ L) (hL : L ≤ 2048) (hl : lv_has ls 8 [(0, .ref b), (1, .ref (ad 0)), (2, .ref (ae 0)), (3, .ref (ad 27)), (4, .int (nI i))]) (hc : cells + 5 ≤ room_1.cells) (hs : slots + 30 ≤ room_1.slots) (kk : LNext p l e s m below meth c b Q D ad ae cI cJ cQ i cells slots) : W p l e room_1 s m #[Value.ref b] below meth c H locs cells slots Q (F0 m 678 ls []) := by
  have C0 := C
  have St0 := St
  obtain ⟨hx, hb, hml, hown, hts, hX, hbl, hfl, hKL, hK, hnd, hne, hAd, hAe, hdj⟩ := C0
  obtain ⟨hI, hT, hP0, hP1, hS⟩ := St0
  refine lv_aload_n hx hb dL_law_678 rfl (lv_at hl 1 rfl) ?_
  refine law_arg C hS (i := i) (k := 1) (by omega) hL hl (List.mem_of_getElem? (i := 0) rfl) (List.mem_of_getElem? (i := 4) rfl) rfl dL_law_679 dL_law_680 dL_law_682 dL_law_683 dL_law_684 ?_
  refine law_arg C hS (i := i) (k := 2) (by omega) hL hl (List.mem_of_getElem? (i := 0) rfl) (List.mem_of_getElem? (i := 4) rfl) rfl dL_law_685 dL_law_686 dL_law_688 dL_law_689 dL_law_690 ?_
  refine lv_aload_n hx hb dL_law_691 rfl (lv_at hl 3 rfl) ?_
  refine law_cls C St (vx_runSX (As := [.ref (ad 0), .int (xs (i + 1)), .int (xs (i + 2)), .ref (ad 27)]) (rest := []) ⟨hx, hb, hml, hown, hts⟩ (w0_drawdown l hfl hI hnd hT (xs (i + 1)) (xs (i + 2))) (vx_cwSW 4 hts gL_law_L_drawdown rfl rfl rfl (by decide +kernel) (by decide)) (psW hK hP0 hKL (fun a h1 h2 => hS.2.1 a h1 h2)) rfl rfl hl.1 rfl (lv_room (Nat.le_of_ble_eq_true rfl)) dL_law_692 ⟨Nat.le_trans (Nat.add_le_add_left (by decide) _) hc, Nat.le_trans (Nat.add_le_add_left (by decide) _) hs⟩) (fun r1 u H1 locs1 hp1 hQ0 hQ1 hS1 => ?_)
  obtain ⟨rfl, hv, hT1⟩ := hp1
  have hI1 := hI
  refine lv_istore (lv' := [(5, .int (nI (cd1 (ixB (xs (i + 1)) (M 5 0) && ixB (xs (i + 2)) 36)))), (0, .ref b), (1, .ref (ad 0)), (2, .ref (ae 0)), (3, .ref (ad 27)), (4, .int (nI i))]) hx hb dL_law_695 hl (by decide) rfl (fun ls hl => ?_)
  refine lv_aload_n hx hb dL_law_697 rfl (lv_at hl 3 rfl) ?_
  refine law_arg C hS1 (i := i) (k := 1) (by omega) hL hl (List.mem_of_getElem? (i := 1) rfl) (List.mem_of_getElem? (i := 5) rfl) rfl dL_law_698 dL_law_699 dL_law_701 dL_law_702 dL_law_703 ?_
  refine law_arg C hS1 (i := i) (k := 2) (by omega) hL hl (List.mem_of_getElem? (i := 1) rfl) (List.mem_of_getElem? (i := 5) rfl) rfl dL_law_704 dL_law_705 dL_law_707 dL_law_708 dL_law_709 ?_
  obtain ⟨a1, a2, a3⟩ := law_refA C hQ0 hS1
  refine va_calll (A0 := fun q => s.heap.size ≤ q) (H0 := s.heap) (va_runV (As := [.int (xs (i + 1)), .int (xs (i + 2))]) (rest := []) ⟨hx, hb, hml, hown, hts⟩ (r0_drawdown l hI hne (xs (i + 1)) (xs (i + 2))) (cwV 2 hts gL_law_X1_drawdown rfl rfl rfl (by decide +kernel) (by decide)) (pv1S (law_K1 C) hQ1) rfl rfl hl.1 rfl (lv_room (Nat.le_of_ble_eq_true rfl)) dL_law_710 ⟨by omega, by omega⟩) hS1 a1 a2 (fun r2 u2 t H2 locs2 ht hv2 hp2 hB hz hk hS2 => ?_)
  have hR0 := a3 H2 hk
  have hR1 : va_P D vwCl (wz 9 ae (wmE ae cI M (nI (cd1 (ixB (xs (i + 1)) (M 5 0) && ixB (xs (i + 2)) 36))))) H2 := by rw [← ht]; exact hB.2
  refine lv_lstore (lv' := [(6, .long r2), (5, .int (nI (cd1 (ixB (xs (i + 1)) (M 5 0) && ixB (xs (i + 2)) 36)))), (0, .ref b), (1, .ref (ad 0)), (2, .ref (ae 0)), (3, .ref (ad 27)), (4, .int (nI i))]) hx hb dL_law_713 hl (by decide) rfl (fun ls hl => ?_)
  exact law_tail_l C (M := M) ⟨hI1, hT1, hR0, hR1, hS2⟩ (Nat.le_trans cd1_le (by decide)) (fun h => (hv h).trans (hp2 (cd1_z h)).symm) (pc := 715) ⟨by omega, by omega⟩ hl dL_law_715 dL_law_716 dL_law_719 dL_law_721 dL_law_726 dL_law_728 dL_law_731 dL_law_732 dL_law_733 dL_law_734 dL_law_736 dL_law_737 dL_law_742 (by decide) (kk _ _ _ _ _ _ _ _ _ _ (by omega) (by omega) ⟨hI1, hT1, hR0, hR1, hS2⟩ (lv_sub hl [2, 3, 4, 5, 6] rfl))
set_option maxHeartbeats 4000000 in
theorem lc_drawdownByPulses {p : Program} {l : Launch} {e : Env} {s : State} {m : MethodId} {below : List Frame} {meth : Method} {c : Code} {b L : Nat} {xs : Nat → Int32} {Q : State → Prop} {D : va_G} {ad ae : Nat → Nat} {cI cJ cQ : ClassId} {M : Mdl} {ts : Nat → Nat} {pu : Nat → Int64} {o : Int64} {th : Int32} {sa : Nat → Nat} {H : Heap} {locs : List Loc} {cells slots : Nat} {ls : Array Slot} {i : Nat} (C : LCx p s m c b L xs l D ad ae cI cJ cQ sa) (St : LSt s D ad ae cI cJ cQ M ts pu o th H locs) (hi : i + 4 ≤ L) (hL : L ≤ 2048) (hl : lv_has ls 8 [(0, .ref b), (1, .ref (ad 0)), (2, .ref (ae 0)), (3, .ref (ad 27)), (4, .int (nI i))]) (hc : cells + 5 ≤ room_1.cells) (hs : slots + 30 ≤ room_1.slots) (kk : LNext p l e s m below meth c b Q D ad ae cI cJ cQ i cells slots) : W p l e room_1 s m #[Value.ref b] below meth c H locs cells slots Q (F0 m 745 ls []) := by
  have C0 := C
  have St0 := St
  obtain ⟨hx, hb, hml, hown, hts, hX, hbl, hfl, hKL, hK, hnd, hne, hAd, hAe, hdj⟩ := C0
  obtain ⟨hI, hT, hP0, hP1, hS⟩ := St0
  refine lv_aload_n hx hb dL_law_745 rfl (lv_at hl 1 rfl) ?_
  refine law_arg C hS (i := i) (k := 1) (by omega) hL hl (List.mem_of_getElem? (i := 0) rfl) (List.mem_of_getElem? (i := 4) rfl) rfl dL_law_746 dL_law_747 dL_law_749 dL_law_750 dL_law_751 ?_
  refine law_arg C hS (i := i) (k := 2) (by omega) hL hl (List.mem_of_getElem? (i := 0) rfl) (List.mem_of_getElem? (i := 4) rfl) rfl dL_law_752 dL_law_753 dL_law_755 dL_law_756 dL_law_757 ?_
  refine lv_aload_n hx hb dL_law_758 rfl (lv_at hl 3 rfl) ?_
  refine law_cls C St (vx_runSX (As := [.ref (ad 0), .int (xs (i + 1)), .int (xs (i + 2)), .ref (ad 27)]) (rest := []) ⟨hx, hb, hml, hown, hts⟩ (w0_drawdownByPulses l hfl hI hnd hT (xs (i + 1)) (xs (i + 2))) (vx_cwSW 4 hts gL_law_L_drawdownByPulses rfl rfl rfl (by decide +kernel) (by decide)) (psW hK hP0 hKL (fun a h1 h2 => hS.2.1 a h1 h2)) rfl rfl hl.1 rfl (lv_room (Nat.le_of_ble_eq_true rfl)) dL_law_759 ⟨Nat.le_trans (Nat.add_le_add_left (by decide) _) hc, Nat.le_trans (Nat.add_le_add_left (by decide) _) hs⟩) (fun r1 u H1 locs1 hp1 hQ0 hQ1 hS1 => ?_)
  obtain ⟨rfl, hv, hT1⟩ := hp1
  have hI1 := hI
  refine lv_istore (lv' := [(5, .int (nI (cd1 (ixB (xs (i + 1)) (M 5 0) && ixB (xs (i + 2)) 36)))), (0, .ref b), (1, .ref (ad 0)), (2, .ref (ae 0)), (3, .ref (ad 27)), (4, .int (nI i))]) hx hb dL_law_762 hl (by decide) rfl (fun ls hl => ?_)
  refine lv_aload_n hx hb dL_law_764 rfl (lv_at hl 3 rfl) ?_
  refine law_arg C hS1 (i := i) (k := 1) (by omega) hL hl (List.mem_of_getElem? (i := 1) rfl) (List.mem_of_getElem? (i := 5) rfl) rfl dL_law_765 dL_law_766 dL_law_768 dL_law_769 dL_law_770 ?_
  refine law_arg C hS1 (i := i) (k := 2) (by omega) hL hl (List.mem_of_getElem? (i := 1) rfl) (List.mem_of_getElem? (i := 5) rfl) rfl dL_law_771 dL_law_772 dL_law_774 dL_law_775 dL_law_776 ?_
  obtain ⟨a1, a2, a3⟩ := law_refA C hQ0 hS1
  refine va_calll (A0 := fun q => s.heap.size ≤ q) (H0 := s.heap) (va_runV (As := [.int (xs (i + 1)), .int (xs (i + 2))]) (rest := []) ⟨hx, hb, hml, hown, hts⟩ (r0_drawdownByPulses l hI hne (xs (i + 1)) (xs (i + 2))) (cwV 2 hts gL_law_X1_drawdownByPulses rfl rfl rfl (by decide +kernel) (by decide)) (pv1S (law_K1 C) hQ1) rfl rfl hl.1 rfl (lv_room (Nat.le_of_ble_eq_true rfl)) dL_law_777 ⟨by omega, by omega⟩) hS1 a1 a2 (fun r2 u2 t H2 locs2 ht hv2 hp2 hB hz hk hS2 => ?_)
  have hR0 := a3 H2 hk
  have hR1 : va_P D vwCl (wz 9 ae (wmE ae cI M (nI (cd1 (ixB (xs (i + 1)) (M 5 0) && ixB (xs (i + 2)) 36))))) H2 := by rw [← ht]; exact hB.2
  refine lv_lstore (lv' := [(6, .long r2), (5, .int (nI (cd1 (ixB (xs (i + 1)) (M 5 0) && ixB (xs (i + 2)) 36)))), (0, .ref b), (1, .ref (ad 0)), (2, .ref (ae 0)), (3, .ref (ad 27)), (4, .int (nI i))]) hx hb dL_law_780 hl (by decide) rfl (fun ls hl => ?_)
  exact law_tail_l C (M := M) ⟨hI1, hT1, hR0, hR1, hS2⟩ (Nat.le_trans cd1_le (by decide)) (fun h => (hv h).trans (hp2 (cd1_z h)).symm) (pc := 782) ⟨by omega, by omega⟩ hl dL_law_782 dL_law_783 dL_law_786 dL_law_788 dL_law_793 dL_law_795 dL_law_798 dL_law_799 dL_law_800 dL_law_801 dL_law_803 dL_law_804 dL_law_809 (by decide) (kk _ _ _ _ _ _ _ _ _ _ (by omega) (by omega) ⟨hI1, hT1, hR0, hR1, hS2⟩ (lv_sub hl [2, 3, 4, 5, 6] rfl))
set_option maxHeartbeats 4000000 in
theorem lc_worstMonth {p : Program} {l : Launch} {e : Env} {s : State} {m : MethodId} {below : List Frame} {meth : Method} {c : Code} {b L : Nat} {xs : Nat → Int32} {Q : State → Prop} {D : va_G} {ad ae : Nat → Nat} {cI cJ cQ : ClassId} {M : Mdl} {ts : Nat → Nat} {pu : Nat → Int64} {o : Int64} {th : Int32} {sa : Nat → Nat} {H : Heap} {locs : List Loc} {cells slots : Nat} {ls : Array Slot} {i : Nat} (C : LCx p s m c b L xs l D ad ae cI cJ cQ sa) (St : LSt s D ad ae cI cJ cQ M ts pu o th H locs) (hi : i + 4 ≤ L) (hL : L ≤ 2048) (hl : lv_has ls 8 [(0, .ref b), (1, .ref (ad 0)), (2, .ref (ae 0)), (3, .ref (ad 27)), (4, .int (nI i))]) (hc : cells + 5 ≤ room_1.cells) (hs : slots + 30 ≤ room_1.slots) (kk : LNext p l e s m below meth c b Q D ad ae cI cJ cQ i cells slots) : W p l e room_1 s m #[Value.ref b] below meth c H locs cells slots Q (F0 m 812 ls []) := by
  have C0 := C
  have St0 := St
  obtain ⟨hx, hb, hml, hown, hts, hX, hbl, hfl, hKL, hK, hnd, hne, hAd, hAe, hdj⟩ := C0
  obtain ⟨hI, hT, hP0, hP1, hS⟩ := St0
  refine lv_aload_n hx hb dL_law_812 rfl (lv_at hl 1 rfl) ?_
  refine law_arg C hS (i := i) (k := 1) (by omega) hL hl (List.mem_of_getElem? (i := 0) rfl) (List.mem_of_getElem? (i := 4) rfl) rfl dL_law_813 dL_law_814 dL_law_816 dL_law_817 dL_law_818 ?_
  refine lv_aload_n hx hb dL_law_819 rfl (lv_at hl 3 rfl) ?_
  refine law_cls C St (vx_runSX (As := [.ref (ad 0), .int (xs (i + 1)), .ref (ad 27)]) (rest := []) ⟨hx, hb, hml, hown, hts⟩ (w0_worstMonth l hfl hI hnd hT (xs (i + 1))) (vx_cwSW 3 hts gL_law_L_worstMonth rfl rfl rfl (by decide +kernel) (by decide)) (psW hK hP0 hKL (fun a h1 h2 => hS.2.1 a h1 h2)) rfl rfl hl.1 rfl (lv_room (Nat.le_of_ble_eq_true rfl)) dL_law_820 ⟨Nat.le_trans (Nat.add_le_add_left (by decide) _) hc, Nat.le_trans (Nat.add_le_add_left (by decide) _) hs⟩) (fun r1 u H1 locs1 hp1 hQ0 hQ1 hS1 => ?_)
  obtain ⟨rfl, hv, hT1⟩ := hp1
  have hI1 := hI
  refine lv_istore (lv' := [(5, .int (nI (cd1 (ixB (xs (i + 1)) (M 5 0))))), (0, .ref b), (1, .ref (ad 0)), (2, .ref (ae 0)), (3, .ref (ad 27)), (4, .int (nI i))]) hx hb dL_law_823 hl (by decide) rfl (fun ls hl => ?_)
  refine lv_aload_n hx hb dL_law_825 rfl (lv_at hl 3 rfl) ?_
  refine law_arg C hS1 (i := i) (k := 1) (by omega) hL hl (List.mem_of_getElem? (i := 1) rfl) (List.mem_of_getElem? (i := 5) rfl) rfl dL_law_826 dL_law_827 dL_law_829 dL_law_830 dL_law_831 ?_
  obtain ⟨a1, a2, a3⟩ := law_refA C hQ0 hS1
  refine va_calli (A0 := fun q => s.heap.size ≤ q) (H0 := s.heap) (va_runV (As := [.int (xs (i + 1))]) (rest := []) ⟨hx, hb, hml, hown, hts⟩ (r0_worstMonth l hI hne (xs (i + 1))) (cwV 1 hts gL_law_X1_worstMonth rfl rfl rfl (by decide +kernel) (by decide)) (pv1S (law_K1 C) hQ1) rfl rfl hl.1 rfl (lv_room (Nat.le_of_ble_eq_true rfl)) dL_law_832 ⟨by omega, by omega⟩) hS1 a1 a2 (fun r2 u2 t H2 locs2 ht hv2 hp2 hB hz hk hS2 => ?_)
  have hR0 := a3 H2 hk
  have hR1 : va_P D vwCl (wz 9 ae (wmE ae cI M (nI (cd1 (ixB (xs (i + 1)) (M 5 0)))))) H2 := by rw [← ht]; exact hB.2
  refine lv_istore (lv' := [(6, .int r2), (5, .int (nI (cd1 (ixB (xs (i + 1)) (M 5 0))))), (0, .ref b), (1, .ref (ad 0)), (2, .ref (ae 0)), (3, .ref (ad 27)), (4, .int (nI i))]) hx hb dL_law_835 hl (by decide) rfl (fun ls hl => ?_)
  exact law_tail_i C (M := M) ⟨hI1, hT1, hR0, hR1, hS2⟩ (Nat.le_trans cd1_le (by decide)) (fun h => (hv h).trans (congrArg Int32.toInt64 (hp2 (cd1_z h)).symm)) (pc := 837) ⟨by omega, by omega⟩ hl dL_law_837 dL_law_838 dL_law_841 dL_law_843 dL_law_848 dL_law_850 dL_law_853 dL_law_854 dL_law_855 dL_law_856 dL_law_858 dL_law_859 dL_law_860 dL_law_865 (by decide) (kk _ _ _ _ _ _ _ _ _ _ (by omega) (by omega) ⟨hI1, hT1, hR0, hR1, hS2⟩ (lv_sub hl [2, 3, 4, 5, 6] rfl))
set_option maxHeartbeats 4000000 in
theorem lc_over {p : Program} {l : Launch} {e : Env} {s : State} {m : MethodId} {below : List Frame} {meth : Method} {c : Code} {b L : Nat} {xs : Nat → Int32} {Q : State → Prop} {D : va_G} {ad ae : Nat → Nat} {cI cJ cQ : ClassId} {M : Mdl} {ts : Nat → Nat} {pu : Nat → Int64} {o : Int64} {th : Int32} {sa : Nat → Nat} {H : Heap} {locs : List Loc} {cells slots : Nat} {ls : Array Slot} {i : Nat} (C : LCx p s m c b L xs l D ad ae cI cJ cQ sa) (St : LSt s D ad ae cI cJ cQ M ts pu o th H locs) (hi : i + 4 ≤ L) (hL : L ≤ 2048) (hl : lv_has ls 8 [(0, .ref b), (1, .ref (ad 0)), (2, .ref (ae 0)), (3, .ref (ad 27)), (4, .int (nI i))]) (hc : cells + 5 ≤ room_1.cells) (hs : slots + 30 ≤ room_1.slots) (kk : LNext p l e s m below meth c b Q D ad ae cI cJ cQ i cells slots) : W p l e room_1 s m #[Value.ref b] below meth c H locs cells slots Q (F0 m 868 ls []) := by
  have C0 := C
  have St0 := St
  obtain ⟨hx, hb, hml, hown, hts, hX, hbl, hfl, hKL, hK, hnd, hne, hAd, hAe, hdj⟩ := C0
  obtain ⟨hI, hT, hP0, hP1, hS⟩ := St0
  refine lv_aload_n hx hb dL_law_868 rfl (lv_at hl 1 rfl) ?_
  refine law_arg C hS (i := i) (k := 1) (by omega) hL hl (List.mem_of_getElem? (i := 0) rfl) (List.mem_of_getElem? (i := 4) rfl) rfl dL_law_869 dL_law_870 dL_law_872 dL_law_873 dL_law_874 ?_
  refine lv_aload_n hx hb dL_law_875 rfl (lv_at hl 3 rfl) ?_
  refine law_cls C St (vx_runSX (As := [.ref (ad 0), .int (xs (i + 1)), .ref (ad 27)]) (rest := []) ⟨hx, hb, hml, hown, hts⟩ (w0_over l hfl hI hnd hT (xs (i + 1))) (vx_cwSW 3 hts gL_law_L_over rfl rfl rfl (by decide +kernel) (by decide)) (psW hK hP0 hKL (fun a h1 h2 => hS.2.1 a h1 h2)) rfl rfl hl.1 rfl (lv_room (Nat.le_of_ble_eq_true rfl)) dL_law_876 ⟨Nat.le_trans (Nat.add_le_add_left (by decide) _) hc, Nat.le_trans (Nat.add_le_add_left (by decide) _) hs⟩) (fun r1 u H1 locs1 hp1 hQ0 hQ1 hS1 => ?_)
  obtain ⟨rfl, hv, hT1⟩ := hp1
  have hI1 := hI
  refine lv_istore (lv' := [(5, .int (nI (cd1 (ixB (xs (i + 1)) (M 5 0))))), (0, .ref b), (1, .ref (ad 0)), (2, .ref (ae 0)), (3, .ref (ad 27)), (4, .int (nI i))]) hx hb dL_law_879 hl (by decide) rfl (fun ls hl => ?_)
  refine lv_aload_n hx hb dL_law_881 rfl (lv_at hl 3 rfl) ?_
  refine law_arg C hS1 (i := i) (k := 1) (by omega) hL hl (List.mem_of_getElem? (i := 1) rfl) (List.mem_of_getElem? (i := 5) rfl) rfl dL_law_882 dL_law_883 dL_law_885 dL_law_886 dL_law_887 ?_
  obtain ⟨a1, a2, a3⟩ := law_refA C hQ0 hS1
  refine va_calli (A0 := fun q => s.heap.size ≤ q) (H0 := s.heap) (va_runV (As := [.int (xs (i + 1))]) (rest := []) ⟨hx, hb, hml, hown, hts⟩ (r0_over l hI hne (xs (i + 1))) (cwV 1 hts gL_law_X1_over rfl rfl rfl (by decide +kernel) (by decide)) (pv1S (law_K1 C) hQ1) rfl rfl hl.1 rfl (lv_room (Nat.le_of_ble_eq_true rfl)) dL_law_888 ⟨by omega, by omega⟩) hS1 a1 a2 (fun r2 u2 t H2 locs2 ht hv2 hp2 hB hz hk hS2 => ?_)
  have hR0 := a3 H2 hk
  have hR1 : va_P D vwCl (wz 9 ae (wmE ae cI M (nI (cd1 (ixB (xs (i + 1)) (M 5 0)))))) H2 := by rw [← ht]; exact hB.2
  refine lv_istore (lv' := [(6, .int r2), (5, .int (nI (cd1 (ixB (xs (i + 1)) (M 5 0))))), (0, .ref b), (1, .ref (ad 0)), (2, .ref (ae 0)), (3, .ref (ad 27)), (4, .int (nI i))]) hx hb dL_law_891 hl (by decide) rfl (fun ls hl => ?_)
  exact law_tail_i C (M := M) ⟨hI1, hT1, hR0, hR1, hS2⟩ (Nat.le_trans cd1_le (by decide)) (fun h => (hv h).trans (congrArg Int32.toInt64 (hp2 (cd1_z h)).symm)) (pc := 893) ⟨by omega, by omega⟩ hl dL_law_893 dL_law_894 dL_law_897 dL_law_899 dL_law_904 dL_law_906 dL_law_909 dL_law_910 dL_law_911 dL_law_912 dL_law_914 dL_law_915 dL_law_916 dL_law_921 (by decide) (kk _ _ _ _ _ _ _ _ _ _ (by omega) (by omega) ⟨hI1, hT1, hR0, hR1, hS2⟩ (lv_sub hl [2, 3, 4, 5, 6] rfl))
set_option maxHeartbeats 4000000 in
theorem lc_headroom {p : Program} {l : Launch} {e : Env} {s : State} {m : MethodId} {below : List Frame} {meth : Method} {c : Code} {b L : Nat} {xs : Nat → Int32} {Q : State → Prop} {D : va_G} {ad ae : Nat → Nat} {cI cJ cQ : ClassId} {M : Mdl} {ts : Nat → Nat} {pu : Nat → Int64} {o : Int64} {th : Int32} {sa : Nat → Nat} {H : Heap} {locs : List Loc} {cells slots : Nat} {ls : Array Slot} {i : Nat} (C : LCx p s m c b L xs l D ad ae cI cJ cQ sa) (St : LSt s D ad ae cI cJ cQ M ts pu o th H locs) (hi : i + 4 ≤ L) (hL : L ≤ 2048) (hl : lv_has ls 8 [(0, .ref b), (1, .ref (ad 0)), (2, .ref (ae 0)), (3, .ref (ad 27)), (4, .int (nI i))]) (hc : cells + 5 ≤ room_1.cells) (hs : slots + 30 ≤ room_1.slots) (kk : LNext p l e s m below meth c b Q D ad ae cI cJ cQ i cells slots) : W p l e room_1 s m #[Value.ref b] below meth c H locs cells slots Q (F0 m 924 ls []) := by
  have C0 := C
  have St0 := St
  obtain ⟨hx, hb, hml, hown, hts, hX, hbl, hfl, hKL, hK, hnd, hne, hAd, hAe, hdj⟩ := C0
  obtain ⟨hI, hT, hP0, hP1, hS⟩ := St0
  refine lv_aload_n hx hb dL_law_924 rfl (lv_at hl 1 rfl) ?_
  refine law_arg C hS (i := i) (k := 1) (by omega) hL hl (List.mem_of_getElem? (i := 0) rfl) (List.mem_of_getElem? (i := 4) rfl) rfl dL_law_925 dL_law_926 dL_law_928 dL_law_929 dL_law_930 ?_
  refine law_arg C hS (i := i) (k := 2) (by omega) hL hl (List.mem_of_getElem? (i := 0) rfl) (List.mem_of_getElem? (i := 4) rfl) rfl dL_law_931 dL_law_932 dL_law_934 dL_law_935 dL_law_936 ?_
  refine lv_aload_n hx hb dL_law_937 rfl (lv_at hl 3 rfl) ?_
  refine law_cls C St (vx_runSX (As := [.ref (ad 0), .int (xs (i + 1)), .int (xs (i + 2)), .ref (ad 27)]) (rest := []) ⟨hx, hb, hml, hown, hts⟩ (w0_headroom l hfl hI hnd hT (xs (i + 1)) (xs (i + 2))) (vx_cwSW 4 hts gL_law_L_headroom rfl rfl rfl (by decide +kernel) (by decide)) (psW hK hP0 hKL (fun a h1 h2 => hS.2.1 a h1 h2)) rfl rfl hl.1 rfl (lv_room (Nat.le_of_ble_eq_true rfl)) dL_law_938 ⟨Nat.le_trans (Nat.add_le_add_left (by decide) _) hc, Nat.le_trans (Nat.add_le_add_left (by decide) _) hs⟩) (fun r1 u H1 locs1 hp1 hQ0 hQ1 hS1 => ?_)
  obtain ⟨rfl, hv, hT1⟩ := hp1
  have hI1 := hI
  refine lv_istore (lv' := [(5, .int (nI (cd1 (ixB (xs (i + 1)) (M 0 0) && ixB (xs (i + 2)) 36)))), (0, .ref b), (1, .ref (ad 0)), (2, .ref (ae 0)), (3, .ref (ad 27)), (4, .int (nI i))]) hx hb dL_law_941 hl (by decide) rfl (fun ls hl => ?_)
  refine lv_aload_n hx hb dL_law_943 rfl (lv_at hl 3 rfl) ?_
  refine law_arg C hS1 (i := i) (k := 1) (by omega) hL hl (List.mem_of_getElem? (i := 1) rfl) (List.mem_of_getElem? (i := 5) rfl) rfl dL_law_944 dL_law_945 dL_law_947 dL_law_948 dL_law_949 ?_
  refine law_arg C hS1 (i := i) (k := 2) (by omega) hL hl (List.mem_of_getElem? (i := 1) rfl) (List.mem_of_getElem? (i := 5) rfl) rfl dL_law_950 dL_law_951 dL_law_953 dL_law_954 dL_law_955 ?_
  obtain ⟨a1, a2, a3⟩ := law_refA C hQ0 hS1
  refine va_calli (A0 := fun q => s.heap.size ≤ q) (H0 := s.heap) (va_runV (As := [.int (xs (i + 1)), .int (xs (i + 2))]) (rest := []) ⟨hx, hb, hml, hown, hts⟩ (r0_headroom l hI hne (xs (i + 1)) (xs (i + 2))) (cwV 2 hts gL_law_X1_headroom rfl rfl rfl (by decide +kernel) (by decide)) (pv1S (law_K1 C) hQ1) rfl rfl hl.1 rfl (lv_room (Nat.le_of_ble_eq_true rfl)) dL_law_956 ⟨by omega, by omega⟩) hS1 a1 a2 (fun r2 u2 t H2 locs2 ht hv2 hp2 hB hz hk hS2 => ?_)
  have hR0 := a3 H2 hk
  have hR1 : va_P D vwCl (wz 9 ae (wmE ae cI M (nI (cd1 (ixB (xs (i + 1)) (M 0 0) && ixB (xs (i + 2)) 36))))) H2 := by rw [← ht]; exact hB.2
  refine lv_istore (lv' := [(6, .int r2), (5, .int (nI (cd1 (ixB (xs (i + 1)) (M 0 0) && ixB (xs (i + 2)) 36)))), (0, .ref b), (1, .ref (ad 0)), (2, .ref (ae 0)), (3, .ref (ad 27)), (4, .int (nI i))]) hx hb dL_law_959 hl (by decide) rfl (fun ls hl => ?_)
  exact law_tail_i C (M := M) ⟨hI1, hT1, hR0, hR1, hS2⟩ (Nat.le_trans cd1_le (by decide)) (fun h => (hv h).trans (congrArg Int32.toInt64 (hp2 (cd1_z h)).symm)) (pc := 961) ⟨by omega, by omega⟩ hl dL_law_961 dL_law_962 dL_law_965 dL_law_967 dL_law_972 dL_law_974 dL_law_977 dL_law_978 dL_law_979 dL_law_980 dL_law_982 dL_law_983 dL_law_984 dL_law_989 (by decide) (kk _ _ _ _ _ _ _ _ _ _ (by omega) (by omega) ⟨hI1, hT1, hR0, hR1, hS2⟩ (lv_sub hl [2, 3, 4, 5, 6] rfl))
set_option maxHeartbeats 4000000 in
theorem lc_heaviest {p : Program} {l : Launch} {e : Env} {s : State} {m : MethodId} {below : List Frame} {meth : Method} {c : Code} {b L : Nat} {xs : Nat → Int32} {Q : State → Prop} {D : va_G} {ad ae : Nat → Nat} {cI cJ cQ : ClassId} {M : Mdl} {ts : Nat → Nat} {pu : Nat → Int64} {o : Int64} {th : Int32} {sa : Nat → Nat} {H : Heap} {locs : List Loc} {cells slots : Nat} {ls : Array Slot} {i : Nat} (C : LCx p s m c b L xs l D ad ae cI cJ cQ sa) (St : LSt s D ad ae cI cJ cQ M ts pu o th H locs) (hi : i + 4 ≤ L) (hL : L ≤ 2048) (hl : lv_has ls 8 [(0, .ref b), (1, .ref (ad 0)), (2, .ref (ae 0)), (3, .ref (ad 27)), (4, .int (nI i))]) (hc : cells + 5 ≤ room_1.cells) (hs : slots + 30 ≤ room_1.slots) (kk : LNext p l e s m below meth c b Q D ad ae cI cJ cQ i cells slots) : W p l e room_1 s m #[Value.ref b] below meth c H locs cells slots Q (F0 m 992 ls []) := by
  have C0 := C
  have St0 := St
  obtain ⟨hx, hb, hml, hown, hts, hX, hbl, hfl, hKL, hK, hnd, hne, hAd, hAe, hdj⟩ := C0
  obtain ⟨hI, hT, hP0, hP1, hS⟩ := St0
  refine lv_aload_n hx hb dL_law_992 rfl (lv_at hl 1 rfl) ?_
  refine law_arg C hS (i := i) (k := 1) (by omega) hL hl (List.mem_of_getElem? (i := 0) rfl) (List.mem_of_getElem? (i := 4) rfl) rfl dL_law_993 dL_law_994 dL_law_996 dL_law_997 dL_law_998 ?_
  refine law_arg C hS (i := i) (k := 2) (by omega) hL hl (List.mem_of_getElem? (i := 0) rfl) (List.mem_of_getElem? (i := 4) rfl) rfl dL_law_999 dL_law_1000 dL_law_1002 dL_law_1003 dL_law_1004 ?_
  refine lv_aload_n hx hb dL_law_1005 rfl (lv_at hl 3 rfl) ?_
  refine law_cls C St (vx_runSX (As := [.ref (ad 0), .int (xs (i + 1)), .int (xs (i + 2)), .ref (ad 27)]) (rest := []) ⟨hx, hb, hml, hown, hts⟩ (w0_heaviest l hfl hI hnd hT (xs (i + 1)) (xs (i + 2))) (vx_cwSW 4 hts gL_law_L_heaviest rfl rfl rfl (by decide +kernel) (by decide)) (psW hK hP0 hKL (fun a h1 h2 => hS.2.1 a h1 h2)) rfl rfl hl.1 rfl (lv_room (Nat.le_of_ble_eq_true rfl)) dL_law_1006 ⟨Nat.le_trans (Nat.add_le_add_left (by decide) _) hc, Nat.le_trans (Nat.add_le_add_left (by decide) _) hs⟩) (fun r1 u H1 locs1 hp1 hQ0 hQ1 hS1 => ?_)
  obtain ⟨rfl, hv, hT1⟩ := hp1
  have hI1 := hI
  refine lv_istore (lv' := [(5, .int (nI (cd1 (ixB (xs (i + 1)) (M 5 0) && ixB (xs (i + 2)) 36)))), (0, .ref b), (1, .ref (ad 0)), (2, .ref (ae 0)), (3, .ref (ad 27)), (4, .int (nI i))]) hx hb dL_law_1009 hl (by decide) rfl (fun ls hl => ?_)
  refine lv_aload_n hx hb dL_law_1011 rfl (lv_at hl 3 rfl) ?_
  refine law_arg C hS1 (i := i) (k := 1) (by omega) hL hl (List.mem_of_getElem? (i := 1) rfl) (List.mem_of_getElem? (i := 5) rfl) rfl dL_law_1012 dL_law_1013 dL_law_1015 dL_law_1016 dL_law_1017 ?_
  refine law_arg C hS1 (i := i) (k := 2) (by omega) hL hl (List.mem_of_getElem? (i := 1) rfl) (List.mem_of_getElem? (i := 5) rfl) rfl dL_law_1018 dL_law_1019 dL_law_1021 dL_law_1022 dL_law_1023 ?_
  obtain ⟨a1, a2, a3⟩ := law_refA C hQ0 hS1
  refine va_calli (A0 := fun q => s.heap.size ≤ q) (H0 := s.heap) (va_runV (As := [.int (xs (i + 1)), .int (xs (i + 2))]) (rest := []) ⟨hx, hb, hml, hown, hts⟩ (r0_heaviest l hI hne (xs (i + 1)) (xs (i + 2))) (cwV 2 hts gL_law_X1_heaviest rfl rfl rfl (by decide +kernel) (by decide)) (pv1S (law_K1 C) hQ1) rfl rfl hl.1 rfl (lv_room (Nat.le_of_ble_eq_true rfl)) dL_law_1024 ⟨by omega, by omega⟩) hS1 a1 a2 (fun r2 u2 t H2 locs2 ht hv2 hp2 hB hz hk hS2 => ?_)
  have hR0 := a3 H2 hk
  have hR1 : va_P D vwCl (wz 9 ae (wmE ae cI M (nI (cd1 (ixB (xs (i + 1)) (M 5 0) && ixB (xs (i + 2)) 36))))) H2 := by rw [← ht]; exact hB.2
  refine lv_istore (lv' := [(6, .int r2), (5, .int (nI (cd1 (ixB (xs (i + 1)) (M 5 0) && ixB (xs (i + 2)) 36)))), (0, .ref b), (1, .ref (ad 0)), (2, .ref (ae 0)), (3, .ref (ad 27)), (4, .int (nI i))]) hx hb dL_law_1027 hl (by decide) rfl (fun ls hl => ?_)
  exact law_tail_i C (M := M) ⟨hI1, hT1, hR0, hR1, hS2⟩ (Nat.le_trans cd1_le (by decide)) (fun h => (hv h).trans (congrArg Int32.toInt64 (hp2 (cd1_z h)).symm)) (pc := 1029) ⟨by omega, by omega⟩ hl dL_law_1029 dL_law_1030 dL_law_1033 dL_law_1035 dL_law_1040 dL_law_1042 dL_law_1045 dL_law_1046 dL_law_1047 dL_law_1048 dL_law_1050 dL_law_1051 dL_law_1052 dL_law_1057 (by decide) (kk _ _ _ _ _ _ _ _ _ _ (by omega) (by omega) ⟨hI1, hT1, hR0, hR1, hS2⟩ (lv_sub hl [2, 3, 4, 5, 6] rfl))
set_option maxHeartbeats 4000000 in
theorem lc_taken {p : Program} {l : Launch} {e : Env} {s : State} {m : MethodId} {below : List Frame} {meth : Method} {c : Code} {b L : Nat} {xs : Nat → Int32} {Q : State → Prop} {D : va_G} {ad ae : Nat → Nat} {cI cJ cQ : ClassId} {M : Mdl} {ts : Nat → Nat} {pu : Nat → Int64} {o : Int64} {th : Int32} {sa : Nat → Nat} {H : Heap} {locs : List Loc} {cells slots : Nat} {ls : Array Slot} {i : Nat} (C : LCx p s m c b L xs l D ad ae cI cJ cQ sa) (St : LSt s D ad ae cI cJ cQ M ts pu o th H locs) (hi : i + 4 ≤ L) (hL : L ≤ 2048) (hl : lv_has ls 8 [(0, .ref b), (1, .ref (ad 0)), (2, .ref (ae 0)), (3, .ref (ad 27)), (4, .int (nI i))]) (hc : cells + 5 ≤ room_1.cells) (hs : slots + 30 ≤ room_1.slots) (kk : LNext p l e s m below meth c b Q D ad ae cI cJ cQ i cells slots) : W p l e room_1 s m #[Value.ref b] below meth c H locs cells slots Q (F0 m 1060 ls []) := by
  have C0 := C
  have St0 := St
  obtain ⟨hx, hb, hml, hown, hts, hX, hbl, hfl, hKL, hK, hnd, hne, hAd, hAe, hdj⟩ := C0
  obtain ⟨hI, hT, hP0, hP1, hS⟩ := St0
  refine lv_aload_n hx hb dL_law_1060 rfl (lv_at hl 1 rfl) ?_
  refine law_arg C hS (i := i) (k := 1) (by omega) hL hl (List.mem_of_getElem? (i := 0) rfl) (List.mem_of_getElem? (i := 4) rfl) rfl dL_law_1061 dL_law_1062 dL_law_1064 dL_law_1065 dL_law_1066 ?_
  refine lv_aload_n hx hb dL_law_1067 rfl (lv_at hl 3 rfl) ?_
  refine law_cls C St (vx_runSX (As := [.ref (ad 0), .int (xs (i + 1)), .ref (ad 27)]) (rest := []) ⟨hx, hb, hml, hown, hts⟩ (w0_taken l hfl hI hnd hT (xs (i + 1))) (vx_cwSW 3 hts gL_law_L_taken rfl rfl rfl (by decide +kernel) (by decide)) (psW hK hP0 hKL (fun a h1 h2 => hS.2.1 a h1 h2)) rfl rfl hl.1 rfl (lv_room (Nat.le_of_ble_eq_true rfl)) dL_law_1068 ⟨Nat.le_trans (Nat.add_le_add_left (by decide) _) hc, Nat.le_trans (Nat.add_le_add_left (by decide) _) hs⟩) (fun r1 u H1 locs1 hp1 hQ0 hQ1 hS1 => ?_)
  obtain ⟨rfl, hv, hT1⟩ := hp1
  have hI1 := hI
  refine lv_istore (lv' := [(5, .int (nI (cd1 (ixB (xs (i + 1)) 3)))), (0, .ref b), (1, .ref (ad 0)), (2, .ref (ae 0)), (3, .ref (ad 27)), (4, .int (nI i))]) hx hb dL_law_1071 hl (by decide) rfl (fun ls hl => ?_)
  refine lv_aload_n hx hb dL_law_1073 rfl (lv_at hl 3 rfl) ?_
  refine law_arg C hS1 (i := i) (k := 1) (by omega) hL hl (List.mem_of_getElem? (i := 1) rfl) (List.mem_of_getElem? (i := 5) rfl) rfl dL_law_1074 dL_law_1075 dL_law_1077 dL_law_1078 dL_law_1079 ?_
  obtain ⟨a1, a2, a3⟩ := law_refA C hQ0 hS1
  refine va_calli (A0 := fun q => s.heap.size ≤ q) (H0 := s.heap) (va_runV (As := [.int (xs (i + 1))]) (rest := []) ⟨hx, hb, hml, hown, hts⟩ (r0_taken l hI hne (xs (i + 1))) (cwV 1 hts gL_law_X1_taken rfl rfl rfl (by decide +kernel) (by decide)) (pv1S (law_K1 C) hQ1) rfl rfl hl.1 rfl (lv_room (Nat.le_of_ble_eq_true rfl)) dL_law_1080 ⟨by omega, by omega⟩) hS1 a1 a2 (fun r2 u2 t H2 locs2 ht hv2 hp2 hB hz hk hS2 => ?_)
  have hR0 := a3 H2 hk
  have hR1 : va_P D vwCl (wz 9 ae (wmE ae cI M (nI (cd1 (ixB (xs (i + 1)) 3))))) H2 := by rw [← ht]; exact hB.2
  refine lv_istore (lv' := [(6, .int r2), (5, .int (nI (cd1 (ixB (xs (i + 1)) 3)))), (0, .ref b), (1, .ref (ad 0)), (2, .ref (ae 0)), (3, .ref (ad 27)), (4, .int (nI i))]) hx hb dL_law_1083 hl (by decide) rfl (fun ls hl => ?_)
  exact law_tail_i C (M := M) ⟨hI1, hT1, hR0, hR1, hS2⟩ (Nat.le_trans cd1_le (by decide)) (fun h => (hv h).trans (congrArg Int32.toInt64 (hp2 (cd1_z h)).symm)) (pc := 1085) ⟨by omega, by omega⟩ hl dL_law_1085 dL_law_1086 dL_law_1089 dL_law_1091 dL_law_1096 dL_law_1098 dL_law_1101 dL_law_1102 dL_law_1103 dL_law_1104 dL_law_1106 dL_law_1107 dL_law_1108 dL_law_1113 (by decide) (kk _ _ _ _ _ _ _ _ _ _ (by omega) (by omega) ⟨hI1, hT1, hR0, hR1, hS2⟩ (lv_sub hl [2, 3, 4, 5, 6] rfl))
set_option maxHeartbeats 4000000 in
theorem lc_takenLate {p : Program} {l : Launch} {e : Env} {s : State} {m : MethodId} {below : List Frame} {meth : Method} {c : Code} {b L : Nat} {xs : Nat → Int32} {Q : State → Prop} {D : va_G} {ad ae : Nat → Nat} {cI cJ cQ : ClassId} {M : Mdl} {ts : Nat → Nat} {pu : Nat → Int64} {o : Int64} {th : Int32} {sa : Nat → Nat} {H : Heap} {locs : List Loc} {cells slots : Nat} {ls : Array Slot} {i : Nat} (C : LCx p s m c b L xs l D ad ae cI cJ cQ sa) (St : LSt s D ad ae cI cJ cQ M ts pu o th H locs) (hi : i + 4 ≤ L) (hL : L ≤ 2048) (hl : lv_has ls 8 [(0, .ref b), (1, .ref (ad 0)), (2, .ref (ae 0)), (3, .ref (ad 27)), (4, .int (nI i))]) (hc : cells + 5 ≤ room_1.cells) (hs : slots + 30 ≤ room_1.slots) (kk : LNext p l e s m below meth c b Q D ad ae cI cJ cQ i cells slots) : W p l e room_1 s m #[Value.ref b] below meth c H locs cells slots Q (F0 m 1116 ls []) := by
  have C0 := C
  have St0 := St
  obtain ⟨hx, hb, hml, hown, hts, hX, hbl, hfl, hKL, hK, hnd, hne, hAd, hAe, hdj⟩ := C0
  obtain ⟨hI, hT, hP0, hP1, hS⟩ := St0
  refine lv_aload_n hx hb dL_law_1116 rfl (lv_at hl 1 rfl) ?_
  refine law_arg C hS (i := i) (k := 1) (by omega) hL hl (List.mem_of_getElem? (i := 0) rfl) (List.mem_of_getElem? (i := 4) rfl) rfl dL_law_1117 dL_law_1118 dL_law_1120 dL_law_1121 dL_law_1122 ?_
  refine law_arg C hS (i := i) (k := 2) (by omega) hL hl (List.mem_of_getElem? (i := 0) rfl) (List.mem_of_getElem? (i := 4) rfl) rfl dL_law_1123 dL_law_1124 dL_law_1126 dL_law_1127 dL_law_1128 ?_
  refine lv_aload_n hx hb dL_law_1129 rfl (lv_at hl 3 rfl) ?_
  refine law_cls C St (vx_runSX (As := [.ref (ad 0), .int (xs (i + 1)), .int (xs (i + 2)), .ref (ad 27)]) (rest := []) ⟨hx, hb, hml, hown, hts⟩ (w0_takenLate l hfl hI hnd hT (xs (i + 1)) (xs (i + 2))) (vx_cwSW 4 hts gL_law_L_takenLate rfl rfl rfl (by decide +kernel) (by decide)) (psW hK hP0 hKL (fun a h1 h2 => hS.2.1 a h1 h2)) rfl rfl hl.1 rfl (lv_room (Nat.le_of_ble_eq_true rfl)) dL_law_1130 ⟨Nat.le_trans (Nat.add_le_add_left (by decide) _) hc, Nat.le_trans (Nat.add_le_add_left (by decide) _) hs⟩) (fun r1 u H1 locs1 hp1 hQ0 hQ1 hS1 => ?_)
  obtain ⟨rfl, hv, hT1⟩ := hp1
  have hI1 := hI
  refine lv_istore (lv' := [(5, .int (nI (cd1 (ixB (xs (i + 1)) (M 0 0) && ixB (xs (i + 2)) 3)))), (0, .ref b), (1, .ref (ad 0)), (2, .ref (ae 0)), (3, .ref (ad 27)), (4, .int (nI i))]) hx hb dL_law_1133 hl (by decide) rfl (fun ls hl => ?_)
  refine lv_aload_n hx hb dL_law_1135 rfl (lv_at hl 3 rfl) ?_
  refine law_arg C hS1 (i := i) (k := 1) (by omega) hL hl (List.mem_of_getElem? (i := 1) rfl) (List.mem_of_getElem? (i := 5) rfl) rfl dL_law_1136 dL_law_1137 dL_law_1139 dL_law_1140 dL_law_1141 ?_
  refine law_arg C hS1 (i := i) (k := 2) (by omega) hL hl (List.mem_of_getElem? (i := 1) rfl) (List.mem_of_getElem? (i := 5) rfl) rfl dL_law_1142 dL_law_1143 dL_law_1145 dL_law_1146 dL_law_1147 ?_
  obtain ⟨a1, a2, a3⟩ := law_refA C hQ0 hS1
  refine va_calli (A0 := fun q => s.heap.size ≤ q) (H0 := s.heap) (va_runV (As := [.int (xs (i + 1)), .int (xs (i + 2))]) (rest := []) ⟨hx, hb, hml, hown, hts⟩ (r0_takenLate l hI hne (xs (i + 1)) (xs (i + 2))) (cwV 2 hts gL_law_X1_takenLate rfl rfl rfl (by decide +kernel) (by decide)) (pv1S (law_K1 C) hQ1) rfl rfl hl.1 rfl (lv_room (Nat.le_of_ble_eq_true rfl)) dL_law_1148 ⟨by omega, by omega⟩) hS1 a1 a2 (fun r2 u2 t H2 locs2 ht hv2 hp2 hB hz hk hS2 => ?_)
  have hR0 := a3 H2 hk
  have hR1 : va_P D vwCl (wz 9 ae (wmE ae cI M (nI (cd1 (ixB (xs (i + 1)) (M 0 0) && ixB (xs (i + 2)) 3))))) H2 := by rw [← ht]; exact hB.2
  refine lv_istore (lv' := [(6, .int r2), (5, .int (nI (cd1 (ixB (xs (i + 1)) (M 0 0) && ixB (xs (i + 2)) 3)))), (0, .ref b), (1, .ref (ad 0)), (2, .ref (ae 0)), (3, .ref (ad 27)), (4, .int (nI i))]) hx hb dL_law_1151 hl (by decide) rfl (fun ls hl => ?_)
  exact law_tail_i C (M := M) ⟨hI1, hT1, hR0, hR1, hS2⟩ (Nat.le_trans cd1_le (by decide)) (fun h => (hv h).trans (congrArg Int32.toInt64 (hp2 (cd1_z h)).symm)) (pc := 1153) ⟨by omega, by omega⟩ hl dL_law_1153 dL_law_1154 dL_law_1157 dL_law_1159 dL_law_1164 dL_law_1166 dL_law_1169 dL_law_1170 dL_law_1171 dL_law_1172 dL_law_1174 dL_law_1175 dL_law_1176 dL_law_1181 (by decide) (kk _ _ _ _ _ _ _ _ _ _ (by omega) (by omega) ⟨hI1, hT1, hR0, hR1, hS2⟩ (lv_sub hl [2, 3, 4, 5, 6] rfl))
set_option maxHeartbeats 4000000 in
theorem lc_licence {p : Program} {l : Launch} {e : Env} {s : State} {m : MethodId} {below : List Frame} {meth : Method} {c : Code} {b L : Nat} {xs : Nat → Int32} {Q : State → Prop} {D : va_G} {ad ae : Nat → Nat} {cI cJ cQ : ClassId} {M : Mdl} {ts : Nat → Nat} {pu : Nat → Int64} {o : Int64} {th : Int32} {sa : Nat → Nat} {H : Heap} {locs : List Loc} {cells slots : Nat} {ls : Array Slot} {i : Nat} (C : LCx p s m c b L xs l D ad ae cI cJ cQ sa) (St : LSt s D ad ae cI cJ cQ M ts pu o th H locs) (hi : i + 4 ≤ L) (hL : L ≤ 2048) (hl : lv_has ls 8 [(0, .ref b), (1, .ref (ad 0)), (2, .ref (ae 0)), (3, .ref (ad 27)), (4, .int (nI i))]) (hc : cells + 5 ≤ room_1.cells) (hs : slots + 30 ≤ room_1.slots) (kk : LNext p l e s m below meth c b Q D ad ae cI cJ cQ i cells slots) : W p l e room_1 s m #[Value.ref b] below meth c H locs cells slots Q (F0 m 1184 ls []) := by
  have C0 := C
  have St0 := St
  obtain ⟨hx, hb, hml, hown, hts, hX, hbl, hfl, hKL, hK, hnd, hne, hAd, hAe, hdj⟩ := C0
  obtain ⟨hI, hT, hP0, hP1, hS⟩ := St0
  refine lv_aload_n hx hb dL_law_1184 rfl (lv_at hl 1 rfl) ?_
  refine law_arg C hS (i := i) (k := 1) (by omega) hL hl (List.mem_of_getElem? (i := 0) rfl) (List.mem_of_getElem? (i := 4) rfl) rfl dL_law_1185 dL_law_1186 dL_law_1188 dL_law_1189 dL_law_1190 ?_
  refine lv_aload_n hx hb dL_law_1191 rfl (lv_at hl 3 rfl) ?_
  refine law_cls C St (vx_runSX (As := [.ref (ad 0), .int (xs (i + 1)), .ref (ad 27)]) (rest := []) ⟨hx, hb, hml, hown, hts⟩ (w0_licence l hfl hI hnd hT (xs (i + 1))) (vx_cwSW 3 hts gL_law_L_licence rfl rfl rfl (by decide +kernel) (by decide)) (psW hK hP0 hKL (fun a h1 h2 => hS.2.1 a h1 h2)) rfl rfl hl.1 rfl (lv_room (Nat.le_of_ble_eq_true rfl)) dL_law_1192 ⟨Nat.le_trans (Nat.add_le_add_left (by decide) _) hc, Nat.le_trans (Nat.add_le_add_left (by decide) _) hs⟩) (fun r1 u H1 locs1 hp1 hQ0 hQ1 hS1 => ?_)
  obtain ⟨rfl, hv, hT1⟩ := hp1
  have hI1 := hI
  refine lv_istore (lv' := [(5, .int (nI (cd1 (ixB (xs (i + 1)) (M 0 0))))), (0, .ref b), (1, .ref (ad 0)), (2, .ref (ae 0)), (3, .ref (ad 27)), (4, .int (nI i))]) hx hb dL_law_1195 hl (by decide) rfl (fun ls hl => ?_)
  refine lv_aload_n hx hb dL_law_1197 rfl (lv_at hl 3 rfl) ?_
  refine law_arg C hS1 (i := i) (k := 1) (by omega) hL hl (List.mem_of_getElem? (i := 1) rfl) (List.mem_of_getElem? (i := 5) rfl) rfl dL_law_1198 dL_law_1199 dL_law_1201 dL_law_1202 dL_law_1203 ?_
  obtain ⟨a1, a2, a3⟩ := law_refA C hQ0 hS1
  refine va_calli (A0 := fun q => s.heap.size ≤ q) (H0 := s.heap) (va_runV (As := [.int (xs (i + 1))]) (rest := []) ⟨hx, hb, hml, hown, hts⟩ (r0_licence l hI hne (xs (i + 1))) (cwV 1 hts gL_law_X1_licence rfl rfl rfl (by decide +kernel) (by decide)) (pv1S (law_K1 C) hQ1) rfl rfl hl.1 rfl (lv_room (Nat.le_of_ble_eq_true rfl)) dL_law_1204 ⟨by omega, by omega⟩) hS1 a1 a2 (fun r2 u2 t H2 locs2 ht hv2 hp2 hB hz hk hS2 => ?_)
  have hR0 := a3 H2 hk
  have hR1 : va_P D vwCl (wz 9 ae (wmE ae cI M (nI (cd1 (ixB (xs (i + 1)) (M 0 0)))))) H2 := by rw [← ht]; exact hB.2
  refine lv_istore (lv' := [(6, .int r2), (5, .int (nI (cd1 (ixB (xs (i + 1)) (M 0 0))))), (0, .ref b), (1, .ref (ad 0)), (2, .ref (ae 0)), (3, .ref (ad 27)), (4, .int (nI i))]) hx hb dL_law_1207 hl (by decide) rfl (fun ls hl => ?_)
  exact law_tail_i C (M := M) ⟨hI1, hT1, hR0, hR1, hS2⟩ (Nat.le_trans cd1_le (by decide)) (fun h => (hv h).trans (congrArg Int32.toInt64 (hp2 (cd1_z h)).symm)) (pc := 1209) ⟨by omega, by omega⟩ hl dL_law_1209 dL_law_1210 dL_law_1213 dL_law_1215 dL_law_1220 dL_law_1222 dL_law_1225 dL_law_1226 dL_law_1227 dL_law_1228 dL_law_1230 dL_law_1231 dL_law_1232 dL_law_1237 (by decide) (kk _ _ _ _ _ _ _ _ _ _ (by omega) (by omega) ⟨hI1, hT1, hR0, hR1, hS2⟩ (lv_sub hl [2, 3, 4, 5, 6] rfl))
set_option maxHeartbeats 4000000 in
theorem lc_ratio {p : Program} {l : Launch} {e : Env} {s : State} {m : MethodId} {below : List Frame} {meth : Method} {c : Code} {b L : Nat} {xs : Nat → Int32} {Q : State → Prop} {D : va_G} {ad ae : Nat → Nat} {cI cJ cQ : ClassId} {M : Mdl} {ts : Nat → Nat} {pu : Nat → Int64} {o : Int64} {th : Int32} {sa : Nat → Nat} {H : Heap} {locs : List Loc} {cells slots : Nat} {ls : Array Slot} {i : Nat} (C : LCx p s m c b L xs l D ad ae cI cJ cQ sa) (St : LSt s D ad ae cI cJ cQ M ts pu o th H locs) (hi : i + 4 ≤ L) (hL : L ≤ 2048) (hl : lv_has ls 8 [(0, .ref b), (1, .ref (ad 0)), (2, .ref (ae 0)), (3, .ref (ad 27)), (4, .int (nI i))]) (hc : cells + 5 ≤ room_1.cells) (hs : slots + 30 ≤ room_1.slots) (kk : LNext p l e s m below meth c b Q D ad ae cI cJ cQ i cells slots) : W p l e room_1 s m #[Value.ref b] below meth c H locs cells slots Q (F0 m 1240 ls []) := by
  have C0 := C
  have St0 := St
  obtain ⟨hx, hb, hml, hown, hts, hX, hbl, hfl, hKL, hK, hnd, hne, hAd, hAe, hdj⟩ := C0
  obtain ⟨hI, hT, hP0, hP1, hS⟩ := St0
  refine lv_aload_n hx hb dL_law_1240 rfl (lv_at hl 1 rfl) ?_
  refine law_arg C hS (i := i) (k := 1) (by omega) hL hl (List.mem_of_getElem? (i := 0) rfl) (List.mem_of_getElem? (i := 4) rfl) rfl dL_law_1241 dL_law_1242 dL_law_1244 dL_law_1245 dL_law_1246 ?_
  refine law_arg C hS (i := i) (k := 2) (by omega) hL hl (List.mem_of_getElem? (i := 0) rfl) (List.mem_of_getElem? (i := 4) rfl) rfl dL_law_1247 dL_law_1248 dL_law_1250 dL_law_1251 dL_law_1252 ?_
  refine law_arg C hS (i := i) (k := 3) (by omega) hL hl (List.mem_of_getElem? (i := 0) rfl) (List.mem_of_getElem? (i := 4) rfl) rfl dL_law_1253 dL_law_1254 dL_law_1256 dL_law_1257 dL_law_1258 ?_
  refine lv_aload_n hx hb dL_law_1259 rfl (lv_at hl 3 rfl) ?_
  refine law_cls C St (vx_runSX (As := [.ref (ad 0), .int (xs (i + 1)), .int (xs (i + 2)), .int (xs (i + 3)), .ref (ad 27)]) (rest := []) ⟨hx, hb, hml, hown, hts⟩ (w0_ratio l hfl hI hnd hT (xs (i + 1)) (xs (i + 2)) (xs (i + 3))) (vx_cwSW 5 hts gL_law_L_ratio rfl rfl rfl (by decide +kernel) (by decide)) (psW hK hP0 hKL (fun a h1 h2 => hS.2.1 a h1 h2)) rfl rfl hl.1 rfl (lv_room (Nat.le_of_ble_eq_true rfl)) dL_law_1260 ⟨Nat.le_trans (Nat.add_le_add_left (by decide) _) hc, Nat.le_trans (Nat.add_le_add_left (by decide) _) hs⟩) (fun r1 u H1 locs1 hp1 hQ0 hQ1 hS1 => ?_)
  obtain ⟨rfl, hv, hT1⟩ := hp1
  have hI1 : Inv (moC (cd2 (ixB (xs (i + 1)) 3 && ixB (xs (i + 2)) 3) (rgB (xs (i + 3)) (nI 0) (nI 200))) (nx_ratio M (clN (xs (i + 1))) (clN (xs (i + 2))) (clN (xs (i + 3)))) M) := Inv_mo hI (fun h => Inv_ratio hI (cd2_z h))
  refine lv_istore (lv' := [(5, .int (nI (cd2 (ixB (xs (i + 1)) 3 && ixB (xs (i + 2)) 3) (rgB (xs (i + 3)) (nI 0) (nI 200))))), (0, .ref b), (1, .ref (ad 0)), (2, .ref (ae 0)), (3, .ref (ad 27)), (4, .int (nI i))]) hx hb dL_law_1263 hl (by decide) rfl (fun ls hl => ?_)
  refine lv_aload_n hx hb dL_law_1265 rfl (lv_at hl 3 rfl) ?_
  refine law_arg C hS1 (i := i) (k := 1) (by omega) hL hl (List.mem_of_getElem? (i := 1) rfl) (List.mem_of_getElem? (i := 5) rfl) rfl dL_law_1266 dL_law_1267 dL_law_1269 dL_law_1270 dL_law_1271 ?_
  refine law_arg C hS1 (i := i) (k := 2) (by omega) hL hl (List.mem_of_getElem? (i := 1) rfl) (List.mem_of_getElem? (i := 5) rfl) rfl dL_law_1272 dL_law_1273 dL_law_1275 dL_law_1276 dL_law_1277 ?_
  refine law_arg C hS1 (i := i) (k := 3) (by omega) hL hl (List.mem_of_getElem? (i := 1) rfl) (List.mem_of_getElem? (i := 5) rfl) rfl dL_law_1278 dL_law_1279 dL_law_1281 dL_law_1282 dL_law_1283 ?_
  obtain ⟨a1, a2, a3⟩ := law_refA C hQ0 hS1
  refine va_calli (A0 := fun q => s.heap.size ≤ q) (H0 := s.heap) (va_runV (As := [.int (xs (i + 1)), .int (xs (i + 2)), .int (xs (i + 3))]) (rest := []) ⟨hx, hb, hml, hown, hts⟩ (r0_ratio l hI hne (xs (i + 1)) (xs (i + 2)) (xs (i + 3))) (cwV 3 hts gL_law_X1_ratio rfl rfl rfl (by decide +kernel) (by decide)) (pv1S (law_K1 C) hQ1) rfl rfl hl.1 rfl (lv_room (Nat.le_of_ble_eq_true rfl)) dL_law_1284 ⟨by omega, by omega⟩) hS1 a1 a2 (fun r2 u2 t H2 locs2 ht hv2 hp2 hB hz hk hS2 => ?_)
  have hR0 := a3 H2 hk
  obtain ⟨M9, hB9, e1, e2⟩ := hB
  have e9 : M9 = (moC (cd2 (ixB (xs (i + 1)) 3 && ixB (xs (i + 2)) 3) (rgB (xs (i + 3)) (nI 0) (nI 200))) (nx_ratio M (clN (xs (i + 1))) (clN (xs (i + 2))) (clN (xs (i + 3)))) M) := by
    by_cases h : (((ixB (xs (i + 1)) 3 && ixB (xs (i + 2)) 3) && rgB (xs (i + 3)) (nI 0) (nI 200))) = true
    · rw [e1 h, moC_z (cd2_t h)]
    · rw [e2 (Bool.eq_false_iff.mpr h), moC_n (fun q => h (cd2_z q))]
  subst e9
  have hR1 : va_P D vwCl (wz 9 ae (wmE ae cI (moC (cd2 (ixB (xs (i + 1)) 3 && ixB (xs (i + 2)) 3) (rgB (xs (i + 3)) (nI 0) (nI 200))) (nx_ratio M (clN (xs (i + 1))) (clN (xs (i + 2))) (clN (xs (i + 3)))) M) (nI (cd2 (ixB (xs (i + 1)) 3 && ixB (xs (i + 2)) 3) (rgB (xs (i + 3)) (nI 0) (nI 200)))))) H2 := by rw [← ht]; exact hB9.2
  refine lv_istore (lv' := [(6, .int r2), (5, .int (nI (cd2 (ixB (xs (i + 1)) 3 && ixB (xs (i + 2)) 3) (rgB (xs (i + 3)) (nI 0) (nI 200))))), (0, .ref b), (1, .ref (ad 0)), (2, .ref (ae 0)), (3, .ref (ad 27)), (4, .int (nI i))]) hx hb dL_law_1287 hl (by decide) rfl (fun ls hl => ?_)
  exact law_tail_i C (M := (moC (cd2 (ixB (xs (i + 1)) 3 && ixB (xs (i + 2)) 3) (rgB (xs (i + 3)) (nI 0) (nI 200))) (nx_ratio M (clN (xs (i + 1))) (clN (xs (i + 2))) (clN (xs (i + 3)))) M)) ⟨hI1, hT1, hR0, hR1, hS2⟩ (Nat.le_trans cd2_le (by decide)) (fun h => (hv h).trans (congrArg Int32.toInt64 (hp2 (cd2_z h)).symm)) (pc := 1289) ⟨by omega, by omega⟩ hl dL_law_1289 dL_law_1290 dL_law_1293 dL_law_1295 dL_law_1300 dL_law_1302 dL_law_1305 dL_law_1306 dL_law_1307 dL_law_1308 dL_law_1310 dL_law_1311 dL_law_1312 dL_law_1317 (by decide) (kk _ _ _ _ _ _ _ _ _ _ (by omega) (by omega) ⟨hI1, hT1, hR0, hR1, hS2⟩ (lv_sub hl [2, 3, 4, 5, 6] rfl))
set_option maxHeartbeats 4000000 in
theorem lc_burden {p : Program} {l : Launch} {e : Env} {s : State} {m : MethodId} {below : List Frame} {meth : Method} {c : Code} {b L : Nat} {xs : Nat → Int32} {Q : State → Prop} {D : va_G} {ad ae : Nat → Nat} {cI cJ cQ : ClassId} {M : Mdl} {ts : Nat → Nat} {pu : Nat → Int64} {o : Int64} {th : Int32} {sa : Nat → Nat} {H : Heap} {locs : List Loc} {cells slots : Nat} {ls : Array Slot} {i : Nat} (C : LCx p s m c b L xs l D ad ae cI cJ cQ sa) (St : LSt s D ad ae cI cJ cQ M ts pu o th H locs) (hi : i + 4 ≤ L) (hL : L ≤ 2048) (hl : lv_has ls 8 [(0, .ref b), (1, .ref (ad 0)), (2, .ref (ae 0)), (3, .ref (ad 27)), (4, .int (nI i))]) (hc : cells + 5 ≤ room_1.cells) (hs : slots + 30 ≤ room_1.slots) (kk : LNext p l e s m below meth c b Q D ad ae cI cJ cQ i cells slots) : W p l e room_1 s m #[Value.ref b] below meth c H locs cells slots Q (F0 m 1320 ls []) := by
  have C0 := C
  have St0 := St
  obtain ⟨hx, hb, hml, hown, hts, hX, hbl, hfl, hKL, hK, hnd, hne, hAd, hAe, hdj⟩ := C0
  obtain ⟨hI, hT, hP0, hP1, hS⟩ := St0
  refine lv_aload_n hx hb dL_law_1320 rfl (lv_at hl 1 rfl) ?_
  refine law_arg C hS (i := i) (k := 1) (by omega) hL hl (List.mem_of_getElem? (i := 0) rfl) (List.mem_of_getElem? (i := 4) rfl) rfl dL_law_1321 dL_law_1322 dL_law_1324 dL_law_1325 dL_law_1326 ?_
  refine lv_aload_n hx hb dL_law_1327 rfl (lv_at hl 3 rfl) ?_
  refine law_cls C St (vx_runSX (As := [.ref (ad 0), .int (xs (i + 1)), .ref (ad 27)]) (rest := []) ⟨hx, hb, hml, hown, hts⟩ (w0_burden l hfl hI hnd hT (xs (i + 1))) (vx_cwSW 3 hts gL_law_L_burden rfl rfl rfl (by decide +kernel) (by decide)) (psW hK hP0 hKL (fun a h1 h2 => hS.2.1 a h1 h2)) rfl rfl hl.1 rfl (lv_room (Nat.le_of_ble_eq_true rfl)) dL_law_1328 ⟨Nat.le_trans (Nat.add_le_add_left (by decide) _) hc, Nat.le_trans (Nat.add_le_add_left (by decide) _) hs⟩) (fun r1 u H1 locs1 hp1 hQ0 hQ1 hS1 => ?_)
  obtain ⟨rfl, hv, hT1⟩ := hp1
  have hI1 := hI
  refine lv_istore (lv' := [(5, .int (nI (cd1 (ixB (xs (i + 1)) (M 5 0))))), (0, .ref b), (1, .ref (ad 0)), (2, .ref (ae 0)), (3, .ref (ad 27)), (4, .int (nI i))]) hx hb dL_law_1331 hl (by decide) rfl (fun ls hl => ?_)
  refine lv_aload_n hx hb dL_law_1333 rfl (lv_at hl 3 rfl) ?_
  refine law_arg C hS1 (i := i) (k := 1) (by omega) hL hl (List.mem_of_getElem? (i := 1) rfl) (List.mem_of_getElem? (i := 5) rfl) rfl dL_law_1334 dL_law_1335 dL_law_1337 dL_law_1338 dL_law_1339 ?_
  obtain ⟨a1, a2, a3⟩ := law_refA C hQ0 hS1
  refine va_calll (A0 := fun q => s.heap.size ≤ q) (H0 := s.heap) (va_runV (As := [.int (xs (i + 1))]) (rest := []) ⟨hx, hb, hml, hown, hts⟩ (r0_burden l hI hne (xs (i + 1))) (cwV 1 hts gL_law_X1_burden rfl rfl rfl (by decide +kernel) (by decide)) (pv1S (law_K1 C) hQ1) rfl rfl hl.1 rfl (lv_room (Nat.le_of_ble_eq_true rfl)) dL_law_1340 ⟨by omega, by omega⟩) hS1 a1 a2 (fun r2 u2 t H2 locs2 ht hv2 hp2 hB hz hk hS2 => ?_)
  have hR0 := a3 H2 hk
  have hR1 : va_P D vwCl (wz 9 ae (wmE ae cI M (nI (cd1 (ixB (xs (i + 1)) (M 5 0)))))) H2 := by rw [← ht]; exact hB.2
  refine lv_lstore (lv' := [(6, .long r2), (5, .int (nI (cd1 (ixB (xs (i + 1)) (M 5 0))))), (0, .ref b), (1, .ref (ad 0)), (2, .ref (ae 0)), (3, .ref (ad 27)), (4, .int (nI i))]) hx hb dL_law_1343 hl (by decide) rfl (fun ls hl => ?_)
  exact law_tail_l C (M := M) ⟨hI1, hT1, hR0, hR1, hS2⟩ (Nat.le_trans cd1_le (by decide)) (fun h => (hv h).trans (hp2 (cd1_z h)).symm) (pc := 1345) ⟨by omega, by omega⟩ hl dL_law_1345 dL_law_1346 dL_law_1349 dL_law_1351 dL_law_1356 dL_law_1358 dL_law_1361 dL_law_1362 dL_law_1363 dL_law_1364 dL_law_1366 dL_law_1367 dL_law_1372 (by decide) (kk _ _ _ _ _ _ _ _ _ _ (by omega) (by omega) ⟨hI1, hT1, hR0, hR1, hS2⟩ (lv_sub hl [2, 3, 4, 5, 6] rfl))
set_option maxHeartbeats 4000000 in
theorem lc_trade {p : Program} {l : Launch} {e : Env} {s : State} {m : MethodId} {below : List Frame} {meth : Method} {c : Code} {b L : Nat} {xs : Nat → Int32} {Q : State → Prop} {D : va_G} {ad ae : Nat → Nat} {cI cJ cQ : ClassId} {M : Mdl} {ts : Nat → Nat} {pu : Nat → Int64} {o : Int64} {th : Int32} {sa : Nat → Nat} {H : Heap} {locs : List Loc} {cells slots : Nat} {ls : Array Slot} {i : Nat} (C : LCx p s m c b L xs l D ad ae cI cJ cQ sa) (St : LSt s D ad ae cI cJ cQ M ts pu o th H locs) (hi : i + 4 ≤ L) (hL : L ≤ 2048) (hl : lv_has ls 8 [(0, .ref b), (1, .ref (ad 0)), (2, .ref (ae 0)), (3, .ref (ad 27)), (4, .int (nI i))]) (hc : cells + 5 ≤ room_1.cells) (hs : slots + 30 ≤ room_1.slots) (kk : LNext p l e s m below meth c b Q D ad ae cI cJ cQ i cells slots) : W p l e room_1 s m #[Value.ref b] below meth c H locs cells slots Q (F0 m 1375 ls []) := by
  have C0 := C
  have St0 := St
  obtain ⟨hx, hb, hml, hown, hts, hX, hbl, hfl, hKL, hK, hnd, hne, hAd, hAe, hdj⟩ := C0
  obtain ⟨hI, hT, hP0, hP1, hS⟩ := St0
  refine lv_aload_n hx hb dL_law_1375 rfl (lv_at hl 1 rfl) ?_
  refine law_arg C hS (i := i) (k := 1) (by omega) hL hl (List.mem_of_getElem? (i := 0) rfl) (List.mem_of_getElem? (i := 4) rfl) rfl dL_law_1376 dL_law_1377 dL_law_1379 dL_law_1380 dL_law_1381 ?_
  refine law_arg C hS (i := i) (k := 2) (by omega) hL hl (List.mem_of_getElem? (i := 0) rfl) (List.mem_of_getElem? (i := 4) rfl) rfl dL_law_1382 dL_law_1383 dL_law_1385 dL_law_1386 dL_law_1387 ?_
  refine law_arg C hS (i := i) (k := 3) (by omega) hL hl (List.mem_of_getElem? (i := 0) rfl) (List.mem_of_getElem? (i := 4) rfl) rfl dL_law_1388 dL_law_1389 dL_law_1391 dL_law_1392 dL_law_1393 ?_
  refine lv_aload_n hx hb dL_law_1394 rfl (lv_at hl 3 rfl) ?_
  refine law_cls C St (vx_runSX (As := [.ref (ad 0), .int (xs (i + 1)), .int (xs (i + 2)), .int (xs (i + 3)), .ref (ad 27)]) (rest := []) ⟨hx, hb, hml, hown, hts⟩ (w0_trade l hfl hI hnd hT (xs (i + 1)) (xs (i + 2)) (xs (i + 3))) (vx_cwSW 5 hts gL_law_L_trade rfl rfl rfl (by decide +kernel) (by decide)) (psW hK hP0 hKL (fun a h1 h2 => hS.2.1 a h1 h2)) rfl rfl hl.1 rfl (lv_room (Nat.le_of_ble_eq_true rfl)) dL_law_1395 ⟨Nat.le_trans (Nat.add_le_add_left (by decide) _) hc, Nat.le_trans (Nat.add_le_add_left (by decide) _) hs⟩) (fun r1 u H1 locs1 hp1 hQ0 hQ1 hS1 => ?_)
  obtain ⟨rfl, hv, hT1⟩ := hp1
  have hI1 : Inv (moC (cd3 (ixB (xs (i + 1)) (M 0 0) && ixB (xs (i + 2)) (M 0 0)) (decide ((xs (i + 1)) ≠ (xs (i + 2))) && rgB (xs (i + 3)) (nI 1) (nI 5000)) (cn M (clN (xs (i + 1))) (clN (xs (i + 2))) (clN (xs (i + 3))))) (nx_trade M (clN (xs (i + 1))) (clN (xs (i + 2))) (clN (xs (i + 3)))) M) := Inv_mo hI (fun h => Inv_trade hI (cd3_z h))
  refine lv_istore (lv' := [(5, .int (nI (cd3 (ixB (xs (i + 1)) (M 0 0) && ixB (xs (i + 2)) (M 0 0)) (decide ((xs (i + 1)) ≠ (xs (i + 2))) && rgB (xs (i + 3)) (nI 1) (nI 5000)) (cn M (clN (xs (i + 1))) (clN (xs (i + 2))) (clN (xs (i + 3))))))), (0, .ref b), (1, .ref (ad 0)), (2, .ref (ae 0)), (3, .ref (ad 27)), (4, .int (nI i))]) hx hb dL_law_1398 hl (by decide) rfl (fun ls hl => ?_)
  refine lv_aload_n hx hb dL_law_1400 rfl (lv_at hl 3 rfl) ?_
  refine law_arg C hS1 (i := i) (k := 1) (by omega) hL hl (List.mem_of_getElem? (i := 1) rfl) (List.mem_of_getElem? (i := 5) rfl) rfl dL_law_1401 dL_law_1402 dL_law_1404 dL_law_1405 dL_law_1406 ?_
  refine law_arg C hS1 (i := i) (k := 2) (by omega) hL hl (List.mem_of_getElem? (i := 1) rfl) (List.mem_of_getElem? (i := 5) rfl) rfl dL_law_1407 dL_law_1408 dL_law_1410 dL_law_1411 dL_law_1412 ?_
  refine law_arg C hS1 (i := i) (k := 3) (by omega) hL hl (List.mem_of_getElem? (i := 1) rfl) (List.mem_of_getElem? (i := 5) rfl) rfl dL_law_1413 dL_law_1414 dL_law_1416 dL_law_1417 dL_law_1418 ?_
  obtain ⟨a1, a2, a3⟩ := law_refA C hQ0 hS1
  refine va_calli (A0 := fun q => s.heap.size ≤ q) (H0 := s.heap) (va_runV (As := [.int (xs (i + 1)), .int (xs (i + 2)), .int (xs (i + 3))]) (rest := []) ⟨hx, hb, hml, hown, hts⟩ (r0_trade l hI hne (xs (i + 1)) (xs (i + 2)) (xs (i + 3))) (cwV 3 hts gL_law_X1_trade rfl rfl rfl (by decide +kernel) (by decide)) (pv1S (law_K1 C) hQ1) rfl rfl hl.1 rfl (lv_room (Nat.le_of_ble_eq_true rfl)) dL_law_1419 ⟨by omega, by omega⟩) hS1 a1 a2 (fun r2 u2 t H2 locs2 ht hv2 hp2 hB hz hk hS2 => ?_)
  have hR0 := a3 H2 hk
  obtain ⟨M9, hB9, e1, e2⟩ := hB
  rw [and_abs] at e1 e2 hp2
  rw [cd3_abs] at hB9
  have e9 : M9 = (moC (cd3 (ixB (xs (i + 1)) (M 0 0) && ixB (xs (i + 2)) (M 0 0)) (decide ((xs (i + 1)) ≠ (xs (i + 2))) && rgB (xs (i + 3)) (nI 1) (nI 5000)) (cn M (clN (xs (i + 1))) (clN (xs (i + 2))) (clN (xs (i + 3))))) (nx_trade M (clN (xs (i + 1))) (clN (xs (i + 2))) (clN (xs (i + 3)))) M) := by
    by_cases h : (((ixB (xs (i + 1)) (M 0 0) && ixB (xs (i + 2)) (M 0 0)) && (decide ((xs (i + 1)) ≠ (xs (i + 2))) && rgB (xs (i + 3)) (nI 1) (nI 5000)) && cn M (clN (xs (i + 1))) (clN (xs (i + 2))) (clN (xs (i + 3))))) = true
    · rw [e1 h, moC_z (cd3_t h)]
    · rw [e2 (Bool.eq_false_iff.mpr h), moC_n (fun q => h (cd3_z q))]
  subst e9
  have hR1 : va_P D vwCl (wz 9 ae (wmE ae cI (moC (cd3 (ixB (xs (i + 1)) (M 0 0) && ixB (xs (i + 2)) (M 0 0)) (decide ((xs (i + 1)) ≠ (xs (i + 2))) && rgB (xs (i + 3)) (nI 1) (nI 5000)) (cn M (clN (xs (i + 1))) (clN (xs (i + 2))) (clN (xs (i + 3))))) (nx_trade M (clN (xs (i + 1))) (clN (xs (i + 2))) (clN (xs (i + 3)))) M) (nI (cd3 (ixB (xs (i + 1)) (M 0 0) && ixB (xs (i + 2)) (M 0 0)) (decide ((xs (i + 1)) ≠ (xs (i + 2))) && rgB (xs (i + 3)) (nI 1) (nI 5000)) (cn M (clN (xs (i + 1))) (clN (xs (i + 2))) (clN (xs (i + 3)))))))) H2 := by rw [← ht]; exact hB9.2
  refine lv_istore (lv' := [(6, .int r2), (5, .int (nI (cd3 (ixB (xs (i + 1)) (M 0 0) && ixB (xs (i + 2)) (M 0 0)) (decide ((xs (i + 1)) ≠ (xs (i + 2))) && rgB (xs (i + 3)) (nI 1) (nI 5000)) (cn M (clN (xs (i + 1))) (clN (xs (i + 2))) (clN (xs (i + 3))))))), (0, .ref b), (1, .ref (ad 0)), (2, .ref (ae 0)), (3, .ref (ad 27)), (4, .int (nI i))]) hx hb dL_law_1422 hl (by decide) rfl (fun ls hl => ?_)
  exact law_tail_i C (M := (moC (cd3 (ixB (xs (i + 1)) (M 0 0) && ixB (xs (i + 2)) (M 0 0)) (decide ((xs (i + 1)) ≠ (xs (i + 2))) && rgB (xs (i + 3)) (nI 1) (nI 5000)) (cn M (clN (xs (i + 1))) (clN (xs (i + 2))) (clN (xs (i + 3))))) (nx_trade M (clN (xs (i + 1))) (clN (xs (i + 2))) (clN (xs (i + 3)))) M)) ⟨hI1, hT1, hR0, hR1, hS2⟩ (Nat.le_trans cd3_le (by decide)) (fun h => (hv h).trans (congrArg Int32.toInt64 (hp2 (cd3_z h)).symm)) (pc := 1424) ⟨by omega, by omega⟩ hl dL_law_1424 dL_law_1425 dL_law_1428 dL_law_1430 dL_law_1435 dL_law_1437 dL_law_1440 dL_law_1441 dL_law_1442 dL_law_1443 dL_law_1445 dL_law_1446 dL_law_1447 dL_law_1452 (by decide) (kk _ _ _ _ _ _ _ _ _ _ (by omega) (by omega) ⟨hI1, hT1, hR0, hR1, hS2⟩ (lv_sub hl [2, 3, 4, 5, 6] rfl))
set_option maxHeartbeats 4000000 in
theorem lc_mostTraded {p : Program} {l : Launch} {e : Env} {s : State} {m : MethodId} {below : List Frame} {meth : Method} {c : Code} {b L : Nat} {xs : Nat → Int32} {Q : State → Prop} {D : va_G} {ad ae : Nat → Nat} {cI cJ cQ : ClassId} {M : Mdl} {ts : Nat → Nat} {pu : Nat → Int64} {o : Int64} {th : Int32} {sa : Nat → Nat} {H : Heap} {locs : List Loc} {cells slots : Nat} {ls : Array Slot} {i : Nat} (C : LCx p s m c b L xs l D ad ae cI cJ cQ sa) (St : LSt s D ad ae cI cJ cQ M ts pu o th H locs) (hi : i + 4 ≤ L) (hL : L ≤ 2048) (hl : lv_has ls 8 [(0, .ref b), (1, .ref (ad 0)), (2, .ref (ae 0)), (3, .ref (ad 27)), (4, .int (nI i))]) (hc : cells + 5 ≤ room_1.cells) (hs : slots + 30 ≤ room_1.slots) (kk : LNext p l e s m below meth c b Q D ad ae cI cJ cQ i cells slots) : W p l e room_1 s m #[Value.ref b] below meth c H locs cells slots Q (F0 m 1455 ls []) := by
  have C0 := C
  have St0 := St
  obtain ⟨hx, hb, hml, hown, hts, hX, hbl, hfl, hKL, hK, hnd, hne, hAd, hAe, hdj⟩ := C0
  obtain ⟨hI, hT, hP0, hP1, hS⟩ := St0
  refine lv_aload_n hx hb dL_law_1455 rfl (lv_at hl 1 rfl) ?_
  refine law_arg C hS (i := i) (k := 1) (by omega) hL hl (List.mem_of_getElem? (i := 0) rfl) (List.mem_of_getElem? (i := 4) rfl) rfl dL_law_1456 dL_law_1457 dL_law_1459 dL_law_1460 dL_law_1461 ?_
  refine law_arg C hS (i := i) (k := 2) (by omega) hL hl (List.mem_of_getElem? (i := 0) rfl) (List.mem_of_getElem? (i := 4) rfl) rfl dL_law_1462 dL_law_1463 dL_law_1465 dL_law_1466 dL_law_1467 ?_
  refine lv_aload_n hx hb dL_law_1468 rfl (lv_at hl 3 rfl) ?_
  refine law_cls C St (vx_runSX (As := [.ref (ad 0), .int (xs (i + 1)), .int (xs (i + 2)), .ref (ad 27)]) (rest := []) ⟨hx, hb, hml, hown, hts⟩ (w0_mostTraded l hfl hI hnd hT (xs (i + 1)) (xs (i + 2))) (vx_cwSW 4 hts gL_law_L_mostTraded rfl rfl rfl (by decide +kernel) (by decide)) (psW hK hP0 hKL (fun a h1 h2 => hS.2.1 a h1 h2)) rfl rfl hl.1 rfl (lv_room (Nat.le_of_ble_eq_true rfl)) dL_law_1469 ⟨Nat.le_trans (Nat.add_le_add_left (by decide) _) hc, Nat.le_trans (Nat.add_le_add_left (by decide) _) hs⟩) (fun r1 u H1 locs1 hp1 hQ0 hQ1 hS1 => ?_)
  obtain ⟨rfl, hv, hT1⟩ := hp1
  have hI1 := hI
  refine lv_istore (lv' := [(5, .int (nI (cd2 (ixB (xs (i + 1)) (M 0 0) && ixB (xs (i + 2)) (M 0 0)) (decide ((xs (i + 1)) ≠ (xs (i + 2))))))), (0, .ref b), (1, .ref (ad 0)), (2, .ref (ae 0)), (3, .ref (ad 27)), (4, .int (nI i))]) hx hb dL_law_1472 hl (by decide) rfl (fun ls hl => ?_)
  refine lv_aload_n hx hb dL_law_1474 rfl (lv_at hl 3 rfl) ?_
  refine law_arg C hS1 (i := i) (k := 1) (by omega) hL hl (List.mem_of_getElem? (i := 1) rfl) (List.mem_of_getElem? (i := 5) rfl) rfl dL_law_1475 dL_law_1476 dL_law_1478 dL_law_1479 dL_law_1480 ?_
  refine law_arg C hS1 (i := i) (k := 2) (by omega) hL hl (List.mem_of_getElem? (i := 1) rfl) (List.mem_of_getElem? (i := 5) rfl) rfl dL_law_1481 dL_law_1482 dL_law_1484 dL_law_1485 dL_law_1486 ?_
  obtain ⟨a1, a2, a3⟩ := law_refA C hQ0 hS1
  refine va_calli (A0 := fun q => s.heap.size ≤ q) (H0 := s.heap) (va_runV (As := [.int (xs (i + 1)), .int (xs (i + 2))]) (rest := []) ⟨hx, hb, hml, hown, hts⟩ (r0_mostTraded l hI hne (xs (i + 1)) (xs (i + 2))) (cwV 2 hts gL_law_X1_mostTraded rfl rfl rfl (by decide +kernel) (by decide)) (pv1S (law_K1 C) hQ1) rfl rfl hl.1 rfl (lv_room (Nat.le_of_ble_eq_true rfl)) dL_law_1487 ⟨by omega, by omega⟩) hS1 a1 a2 (fun r2 u2 t H2 locs2 ht hv2 hp2 hB hz hk hS2 => ?_)
  have hR0 := a3 H2 hk
  have hR1 : va_P D vwCl (wz 9 ae (wmE ae cI M (nI (cd2 (ixB (xs (i + 1)) (M 0 0) && ixB (xs (i + 2)) (M 0 0)) (decide ((xs (i + 1)) ≠ (xs (i + 2)))))))) H2 := by rw [← ht]; exact hB.2
  refine lv_istore (lv' := [(6, .int r2), (5, .int (nI (cd2 (ixB (xs (i + 1)) (M 0 0) && ixB (xs (i + 2)) (M 0 0)) (decide ((xs (i + 1)) ≠ (xs (i + 2))))))), (0, .ref b), (1, .ref (ad 0)), (2, .ref (ae 0)), (3, .ref (ad 27)), (4, .int (nI i))]) hx hb dL_law_1490 hl (by decide) rfl (fun ls hl => ?_)
  exact law_tail_i C (M := M) ⟨hI1, hT1, hR0, hR1, hS2⟩ (Nat.le_trans cd2_le (by decide)) (fun h => (hv h).trans (congrArg Int32.toInt64 (hp2 (cd2_z h)).symm)) (pc := 1492) ⟨by omega, by omega⟩ hl dL_law_1492 dL_law_1493 dL_law_1496 dL_law_1498 dL_law_1503 dL_law_1505 dL_law_1508 dL_law_1509 dL_law_1510 dL_law_1511 dL_law_1513 dL_law_1514 dL_law_1515 dL_law_1520 (by decide) (kk _ _ _ _ _ _ _ _ _ _ (by omega) (by omega) ⟨hI1, hT1, hR0, hR1, hS2⟩ (lv_sub hl [2, 3, 4, 5, 6] rfl))
