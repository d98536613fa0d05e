/-! the law's loop -/
section LL
variable {p : Program} {l : Launch} {e : Env} {s : State} {m : MethodId} {below : List Frame} {meth : Method} {c : Code} {b L : Nat} {xs : Nat → Int32} {Q : State → Prop} {D : va_G} {ad ae : Nat → Nat} {cI cJ cQ : ClassId} {sa : Nat → Nat}
theorem law_switch {M : Mdl} {ts : Nat → Nat} {pu : Nat → Int64} {o : Int64} {th : Int32} {H : Heap} {locs : List Loc} {cells slots : Nat} {ls : Array Slot} {i k : Nat} (C : LCx p s m c b L xs l D ad ae cI cJ cQ sa) (St : LSt s D ad ae cI cJ cQ M ts pu o th H locs) (hi : i + 4 ≤ L) (hL : L ≤ 2048) (hl : lv_has ls 8 [(0, .ref b), (1, .ref (ad 0)), (2, .ref (ae 0)), (3, .ref (ad 27)), (4, .int (nI i))]) (hc : cells + 5 ≤ room_1.cells) (hs : slots + 30 ≤ room_1.slots) (kk : LNext p l e s m below meth c b Q D ad ae cI cJ cQ i cells slots) (hk : k < 22) : W p l e room_1 s m #[Value.ref b] below meth c H locs cells slots Q (F0 m 39 ls [.int (nI k)]) :=
  match k, hk with
  | 0, _ => lv_tableIn (tgt := 140) (off := 101) C.1 C.2.1 dL_law_39 (by decide) (by decide) rfl (by decide) (lc_well C St hi hL hl hc hs kk)
  | 1, _ => lv_tableIn (tgt := 220) (off := 181) C.1 C.2.1 dL_law_39 (by decide) (by decide) rfl (by decide) (lc_watch C St hi hL hl hc hs kk)
  | 2, _ => lv_tableIn (tgt := 288) (off := 249) C.1 C.2.1 dL_law_39 (by decide) (by decide) rfl (by decide) (lc_response C St hi hL hl hc hs kk)
  | 3, _ => lv_tableIn (tgt := 368) (off := 329) C.1 C.2.1 dL_law_39 (by decide) (by decide) rfl (by decide) (lc_wells C St hi hL hl hc hs kk)
  | 4, _ => lv_tableIn (tgt := 381) (off := 342) C.1 C.2.1 dL_law_39 (by decide) (by decide) rfl (by decide) (lc_watches C St hi hL hl hc hs kk)
  | 5, _ => lv_tableIn (tgt := 394) (off := 355) C.1 C.2.1 dL_law_39 (by decide) (by decide) rfl (by decide) (lc_pump C St hi hL hl hc hs kk)
  | 6, _ => lv_tableIn (tgt := 474) (off := 435) C.1 C.2.1 dL_law_39 (by decide) (by decide) rfl (by decide) (lc_rest C St hi hL hl hc hs kk)
  | 7, _ => lv_tableIn (tgt := 554) (off := 515) C.1 C.2.1 dL_law_39 (by decide) (by decide) rfl (by decide) (lc_pumped C St hi hL hl hc hs kk)
  | 8, _ => lv_tableIn (tgt := 622) (off := 583) C.1 C.2.1 dL_law_39 (by decide) (by decide) rfl (by decide) (lc_beyond C St hi hL hl hc hs kk)
  | 9, _ => lv_tableIn (tgt := 678) (off := 639) C.1 C.2.1 dL_law_39 (by decide) (by decide) rfl (by decide) (lc_drawdown C St hi hL hl hc hs kk)
  | 10, _ => lv_tableIn (tgt := 745) (off := 706) C.1 C.2.1 dL_law_39 (by decide) (by decide) rfl (by decide) (lc_drawdownByPulses C St hi hL hl hc hs kk)
  | 11, _ => lv_tableIn (tgt := 812) (off := 773) C.1 C.2.1 dL_law_39 (by decide) (by decide) rfl (by decide) (lc_worstMonth C St hi hL hl hc hs kk)
  | 12, _ => lv_tableIn (tgt := 868) (off := 829) C.1 C.2.1 dL_law_39 (by decide) (by decide) rfl (by decide) (lc_over C St hi hL hl hc hs kk)
  | 13, _ => lv_tableIn (tgt := 924) (off := 885) C.1 C.2.1 dL_law_39 (by decide) (by decide) rfl (by decide) (lc_headroom C St hi hL hl hc hs kk)
  | 14, _ => lv_tableIn (tgt := 992) (off := 953) C.1 C.2.1 dL_law_39 (by decide) (by decide) rfl (by decide) (lc_heaviest C St hi hL hl hc hs kk)
  | 15, _ => lv_tableIn (tgt := 1060) (off := 1021) C.1 C.2.1 dL_law_39 (by decide) (by decide) rfl (by decide) (lc_taken C St hi hL hl hc hs kk)
  | 16, _ => lv_tableIn (tgt := 1116) (off := 1077) C.1 C.2.1 dL_law_39 (by decide) (by decide) rfl (by decide) (lc_takenLate C St hi hL hl hc hs kk)
  | 17, _ => lv_tableIn (tgt := 1184) (off := 1145) C.1 C.2.1 dL_law_39 (by decide) (by decide) rfl (by decide) (lc_licence C St hi hL hl hc hs kk)
  | 18, _ => lv_tableIn (tgt := 1240) (off := 1201) C.1 C.2.1 dL_law_39 (by decide) (by decide) rfl (by decide) (lc_ratio C St hi hL hl hc hs kk)
  | 19, _ => lv_tableIn (tgt := 1320) (off := 1281) C.1 C.2.1 dL_law_39 (by decide) (by decide) rfl (by decide) (lc_burden C St hi hL hl hc hs kk)
  | 20, _ => lv_tableIn (tgt := 1375) (off := 1336) C.1 C.2.1 dL_law_39 (by decide) (by decide) rfl (by decide) (lc_trade C St hi hL hl hc hs kk)
  | 21, _ => lv_tableIn (tgt := 1455) (off := 1416) C.1 C.2.1 dL_law_39 (by decide) (by decide) rfl (by decide) (lc_mostTraded C St hi hL hl hc hs kk)
  | n + 22, h => absurd h (by omega)
theorem zn_add (a k : Nat) {kw : Int} (h : Int32.ofInt kw = nI k) : nI a + Int32.ofInt kw = nI (a + k) := by
  rw [h]
  exact (nI_add a k)
theorem law_loop (C : LCx p s m c b L xs l D ad ae cI cJ cQ sa) (hL : L ≤ 2048) (hend : ∀ (H : Heap) (locs : List Loc) (ls : Array Slot) (cells slots : Nat), cells ≤ room_1.cells → slots ≤ room_1.slots → va_S (fun q => s.heap.size ≤ q) s.heap H locs → W p l e room_1 s m #[Value.ref b] below meth c H locs cells slots Q (F0 m 1529 ls [])) : ∀ (n i : Nat) {M : Mdl} {ts : Nat → Nat} {pu : Nat → Int64} {o : Int64} {th : Int32} {H : Heap} {locs : List Loc} {cells slots : Nat} {ls : Array Slot}, L ≤ i + 4 * n → i ≤ 4096 → cells + 5 * n ≤ room_1.cells → slots + 30 * n ≤ room_1.slots → LSt s D ad ae cI cJ cQ M ts pu o th H locs → lv_has ls 8 [(0, .ref b), (1, .ref (ad 0)), (2, .ref (ae 0)), (3, .ref (ad 27)), (4, .int (nI i))] → W p l e room_1 s m #[Value.ref b] below meth c H locs cells slots Q (F0 m 23 ls []) := by
  intro n
  induction n with
  | zero =>
    intro i M ts pu o th H locs cells slots ls hn hi4 hc hs St hl
    obtain ⟨hx, hb, hml, hown, hts, hX, hbl, hfl, hKL, hK, hnd, hne, hAd, hAe, hdj⟩ := C
    have hS := St.2.2.2.2
    refine lv_iload hx hb dL_law_23 (lv_at hl 4 rfl) ?_
    refine lv_aload_n hx hb dL_law_25 rfl (lv_at hl 0 rfl) ?_
    refine va_slen hx hb hX hbl (Nat.not_le.mpr hbl) hS dL_law_26 ?_
    refine lv_iconst (v := nI 4) hx hb dL_law_27 (by decide) ?_
    refine lv_isub hx hb dL_law_28 ?_
    refine lv_icmp_gt (tgt := 1529) hx hb dL_law_29 (by decide) (fun _ => hend _ _ _ _ _ (by omega) (by omega) hS) (fun q => ?_)
    refine absurd ?_ q
    rw [Int32.lt_iff_toInt_lt, nI_toInt (by omega), show (Int32.ofNat L - nI 4).toInt = (L : Int) - (4 : Nat) from pk_sub_toInt (by omega) (by omega)]
    omega
  | succ n ih =>
    intro i M ts pu o th H locs cells slots ls hn hi4 hc hs St hl
    have C0 := C
    obtain ⟨hx, hb, hml, hown, hts, hX, hbl, hfl, hKL, hK, hnd, hne, hAd, hAe, hdj⟩ := C0
    have hS := St.2.2.2.2
    refine lv_iload hx hb dL_law_23 (lv_at hl 4 rfl) ?_
    refine lv_aload_n hx hb dL_law_25 rfl (lv_at hl 0 rfl) ?_
    refine va_slen hx hb hX hbl (Nat.not_le.mpr hbl) hS dL_law_26 ?_
    refine lv_iconst (v := nI 4) hx hb dL_law_27 (by decide) ?_
    refine lv_isub hx hb dL_law_28 ?_
    refine lv_icmp_gt (tgt := 1529) hx hb dL_law_29 (by decide) (fun _ => hend _ _ _ _ _ (by omega) (by omega) hS) (fun q => ?_)
    have hi : i + 4 ≤ L := by
      rw [Int32.lt_iff_toInt_lt, nI_toInt (by omega), show (Int32.ofNat L - nI 4).toInt = (L : Int) - (4 : Nat) from pk_sub_toInt (by omega) (by omega)] at q
      omega
    have hnext : LNext p l e s m below meth c b Q D ad ae cI cJ cQ i cells slots := by
      intro M1 ts1 pu1 o1 th1 H1 locs1 c1 s1 ls1 hc1 hs1 St1 hl1
      refine lv_iinc (v := nI (i + 4)) (lv' := [(4, .int (nI (i + 4))), (0, .ref b), (1, .ref (ad 0)), (2, .ref (ae 0)), (3, .ref (ad 27))]) hx hb dL_law_1523 hl1 (k := 4) rfl (zn_add i 4 (by decide)) (by decide) rfl (fun ls hl => ?_)
      refine lv_goto (tgt := 23) hx hb dL_law_1526 (by decide) ?_
      exact ih (i + 4) (by omega) (by omega) (by omega) (by omega) St1 (lv_sub hl [1, 2, 3, 4, 0] rfl)
    refine lv_aload_n hx hb dL_law_32 rfl (lv_at hl 0 rfl) ?_
    refine lv_iload hx hb dL_law_33 (lv_at hl 4 rfl) ?_
    refine va_sld hx hb hX hbl (Nat.not_le.mpr hbl) hS (vp_in_nI (show i < L by omega) (by omega)) dL_law_35 ?_
    refine lv_bipush (v := nI 31) hx hb dL_law_36 (by decide) ?_
    refine lv_iand hx hb dL_law_38 ?_
    obtain ⟨k, hk, ek⟩ := pk_andE (xs (nI i).toNatClampNeg) (m := nI 31) 5 (by decide)
    rw [ek]
    rcases Nat.lt_or_ge k 22 with h22 | h22
    · exact law_switch C St hi hL hl (by omega) (by omega) hnext h22
    · refine lv_tableOut (tgt := 1523) hx hb dL_law_39 (Or.inr ?_) (by decide) (hnext _ _ _ _ _ _ _ _ _ _ (by omega) (by omega) St hl)
      rw [nI_toInt (by omega)]
      omega
end LL
