/-! the law's body: what it stands on -/
theorem wlS_r9 {ad : Nat → Nat} {cI cJ cQ : ClassId} {M K : Mdl} {ts : Nat → Nat} {pu : Nat → Int64} {X : Nat → va_E} {n k x : Nat} (hk : k < 9) : ∀ j, j < n → va_up (wxE ad cI cJ cQ M ts pu K X) 31 (.inl (cI, 9, .inl (upd (rwR K) k (nI x)))) j = wxE ad cI cJ cQ M ts pu (mup K (12 + 3 * (k / 3)) (k % 3) x) X j := by
  have h := wlS_r (n := n) (ad := ad) (cI := cI) (cJ := cJ) (cQ := cQ) (M := M) (ts := ts) (pu := pu) (K := K) (X := X) (r := k / 3) (i := k % 3) (x := x) (by omega) (by omega)
  rw [show 3 * (k / 3) + k % 3 = k by omega] at h
  exact h
theorem blC {b L : Nat} {xs : Nat → Int32} {av : List Value} : FrameBlind (va_Pc av (fun U => b < U.heap.size ∧ va_X b L xs U U.heap)) := fun a U g mk q => ⟨q.1, q.2.1, va_X.moved (u := U) (U := U.calling g mk a) (Vm.Alike.refl U.vm) q.2.2⟩
theorem psC {b L : Nat} {xs : Nat → Int32} {s : State} {H : Heap} {locs : List Loc} {As : List Value} (hX : va_X b L xs s s.heap) (hbl : b < s.heap.size) (hS : va_S (zA s.heap.size) s.heap H locs) : PreS s H (va_Pc As (fun U => b < U.heap.size ∧ va_X b L xs U U.heap)) As :=
  ⟨blC, fun U hU hW => ⟨rfl, by rw [hU]; exact Nat.lt_of_lt_of_le hbl hS.1, va_X.moved hW.alike (hX.kept (show U.heap[b]? = s.heap[b]? by rw [hU]; exact hS.2.1 b hbl (Nat.not_le.mpr hbl)))⟩⟩
set_option maxHeartbeats 4000000 in
/-- a number of the script, or one made of its place: some number -/
theorem l_cell (l : Launch) {b L i : Nat} {xs : Nat → Int32} (hL : L ≤ 260) (hi : i < 100) : Met l yL_cell wsL_cell (rmP 0) (va_Pc [.ref b, .int (nI i)] (fun U => b < U.heap.size ∧ va_X b L xs U U.heap)) (vp_Si (fun _ => True)) 0 0 (fun _ => False) := by
  refine mk_Si (post := fun _ => True) (cc := cL_cell) (maxL := 2) (by decide) rfl (Nat.le_of_ble_eq_true rfl) ?_
  intro p e s m args below meth c Q C0 B0 hret ls hl
  obtain ⟨hx, hb, hr, hml, hown, hts, hlocks⟩ := C0
  have hown : s.vm.findClass RL = some m.cls := hown
  obtain ⟨hbl, hX⟩ := B0
  have hS : va_S (fun _ => False) s.heap s.heap [] := va_S.rf
  have hl : lv_has ls 2 [(0, .ref b), (1, .int (nI i))] := hl
  refine lv_iload_n hx hb dL_cell_0 rfl (lv_at hl 1 rfl) ?_
  refine lv_aload_n hx hb dL_cell_1 rfl (lv_at hl 0 rfl) ?_
  refine va_slen hx hb hX hbl (fun z => z) hS dL_cell_2 ?_
  refine lv_icmp_ge (tgt := 12) hx hb dL_cell_3 (by decide) (fun c1 => ?_) (fun c1 => ?_)
  · refine lv_ldc2 (own := RL) (v := 2862933555) hx hb hown (hts (.constantLong RL 7 (2862933555)) (by decide +kernel)) dL_cell_12 ?_
    refine lv_iload_n hx hb dL_cell_15 rfl (lv_at hl 1 rfl) ?_
    refine lv_bipush (v := nI 15) hx hb dL_cell_16 (by decide) ?_
    refine lv_iadd hx hb dL_cell_18 ?_
    refine lv_i2l hx hb dL_cell_19 rfl ?_
    refine lv_lmul hx hb dL_cell_20 ?_
    refine lv_iconst (v := nI 5) hx hb dL_cell_21 (by decide) ?_
    refine lv_lushr hx hb dL_cell_22 rfl ?_
    refine lv_l2i hx hb dL_cell_23 rfl ?_
    refine lv_iload_n hx hb dL_cell_24 rfl (lv_at hl 1 rfl) ?_
    refine lv_bipush (v := nI 11) hx hb dL_cell_25 (by decide) ?_
    refine lv_ishl hx hb dL_cell_27 ?_
    refine lv_ixor hx hb dL_cell_28 ?_
    exact hret trivial dL_cell_29
  · have hi2 : i < L := Nat.not_le.mp fun h => c1 ((nI_leI (by omega) (by omega)).mpr h)
    refine lv_aload_n hx hb dL_cell_6 rfl (lv_at hl 0 rfl) ?_
    refine lv_iload_n hx hb dL_cell_7 rfl (lv_at hl 1 rfl) ?_
    refine va_sld hx hb hX hbl (fun z => z) hS (vp_in_nI hi2 (by omega)) dL_cell_8 ?_
    refine lv_goto (tgt := 29) hx hb dL_cell_9 (by decide) ?_
    exact hret trivial dL_cell_29
