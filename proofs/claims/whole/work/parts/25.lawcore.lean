/-! the law: what holds through its loop, and what each turn of it shares -/
section LW
variable {p : Program} {l : Launch} {e : Env} {s : State} {m : MethodId} {below : List Frame} {meth : Method} {c : Code} {b L : Nat} {xs : Nat → Int32} {Q : State → Prop}
variable {D : va_G} {ad ae : Nat → Nat} {cI cJ cQ : ClassId} {M : Mdl} {ts : Nat → Nat} {pu : Nat → Int64} {o : Int64} {th : Int32} {sa : Nat → Nat} {H : Heap} {locs : List Loc} {cells slots : Nat} {ls : Array Slot} {rest : List Value}
/-- what stays -/
def LCx (p : Program) (s : State) (m : MethodId) (c : Code) (b L : Nat) (xs : Nat → Int32) (l : Launch) (D : va_G) (ad ae : Nat → Nat) (cI cJ cQ : ClassId) (sa : Nat → Nat) : Prop :=
  p.tables.exec = Jvm.exec ∧ c.code = cL_law ∧ c.maxLocals = 8 ∧ s.vm.findClass RL = some m.cls ∧ (∀ w ∈ wsL_law, w.before #[Value.ref b] s = true) ∧ va_X b L xs s s.heap ∧ b < s.heap.size ∧ l.stackTraces = false ∧ KL sa (fun q => s.heap.size ≤ q) s ∧ va_K D vwCl [(cI, .int), (cJ, .long), (cQ, .array .int)] s ∧ ndz 28 ad ∧ ndz 9 ae ∧ (∀ i, i < 28 → s.heap.size ≤ ad i) ∧ (∀ i, i < 9 → s.heap.size ≤ ae i) ∧ ∀ i j, i < 28 → j < 9 → ad i ≠ ae j
/-- what moves -/
def LSt (s : State) (D : va_G) (ad ae : Nat → Nat) (cI cJ cQ : ClassId) (M : Mdl) (ts : Nat → Nat) (pu : Nat → Int64) (o : Int64) (th : Int32) (H : Heap) (locs : List Loc) : Prop :=
  Inv M ∧ hTs M ts ∧ va_P D vwCl (wz 28 ad (woE ad cI cJ cQ M ts pu o)) H ∧ va_P D vwCl (wz 9 ae (wmE ae cI M th)) H ∧ va_S (fun q => s.heap.size ≤ q) s.heap H locs
theorem law_run {S : Type} {post : Int32 → S → Prop} {B : S → State → Prop} {A0 A1 : Nat → Prop} {H0 : Heap} {R : Room} {args : Array Value} {mc ms pc : Nat} {a : Array Value} {st0 : List Value} {free : Addr → Prop} (hr : vx_Run p l e R s m args below meth c H locs cells slots mc ms (F0 m pc ls st0) rest (va_Qi post B A1 a) (fun _ _ _ => False) free) (hS : va_S A0 H0 H locs) (hA : ∀ q, q < H.size → A1 q → A0 q) (hf : ∀ q, free q → A0 q)
    (kk : ∀ (r : Int32) (u : S) (t : State) (H1 : Heap) (locs1 : List Loc), t.heap = H1 → s.vm.Alike t.vm → post r u → B u t → H.size ≤ H1.size → (∀ q : Nat, q < H.size → ¬ A1 q → H1[q]? = H[q]?) → va_S A0 H0 H1 locs1 → W p l e R s m args below meth c H1 locs1 (cells + mc) (slots + ms) Q (F0 m (pc + 3) ls (.int r :: rest))) : W p l e R s m args below meth c H locs cells slots Q (F0 m pc ls st0) := by
  have hr9 : vx_Run p l e R s m args below meth c H locs cells slots mc ms (F0 m pc ls st0) rest (va_Qi post B A1 a) (vx_X (S := Unit) (fun _ => False) (fun _ _ _ => True) (fun _ => False)) free := by
    intro T hT X
    rcases hr T hT X with h | ⟨q, st₀, t, T', L, E, ce, h0, X', hL, e1, e2, hx, _⟩
    · exact Or.inl h
    · exact hx.elim
  exact vx_calli hr9 hS hA hf (fun _ _ h => h.elim) (fun _ _ _ _ _ _ _ _ _ hp => hp.elim) kk
/-- the class is asked: its world goes on, the reference's stays -/
theorem law_cls (C : LCx p s m c b L xs l D ad ae cI cJ cQ sa) (St : LSt s D ad ae cI cJ cQ M ts pu o th H locs) {M1 : Mdl} {post : Int32 → Int64 × (Nat → Nat) × (Nat → Int64) → Prop} {mc ms pc : Nat} {a : Array Value} {st0 : List Value}
    (hr : vx_Run p l e room_1 s m #[Value.ref b] below meth c H locs cells slots mc ms (F0 m pc ls st0) rest (va_Qi post (fun (u_ : Int64 × (Nat → Nat) × (Nat → Int64)) t_ => KO D ad cI cJ cQ M1 u_.2.1 u_.2.2 u_.1 t_) (azs 28 ad H.size) a) (fun _ _ _ => False) (azs 28 ad H.size))
    (kk : ∀ (r : Int32) (u : Int64 × (Nat → Nat) × (Nat → Int64)) (H1 : Heap) (locs1 : List Loc), post r u → va_P D vwCl (wz 28 ad (woE ad cI cJ cQ M1 u.2.1 u.2.2 u.1)) H1 → va_P D vwCl (wz 9 ae (wmE ae cI M th)) H1 → va_S (fun q => s.heap.size ≤ q) s.heap H1 locs1 → W p l e room_1 s m #[Value.ref b] below meth c H1 locs1 (cells + mc) (slots + ms) Q (F0 m (pc + 3) ls (.int r :: rest))) : W p l e room_1 s m #[Value.ref b] below meth c H locs cells slots Q (F0 m pc ls st0) := by
  obtain ⟨hx, hb, hml, hown, hts, hX, hbl, hfl, hKL, hK, hnd, hne, hAd, hAe, hdj⟩ := C
  obtain ⟨hI, hT, hP0, hP1, hS⟩ := St
  refine law_run hr hS (fun q hq h => ?_) (fun q h => ?_) (fun r u t H1 locs1 ht hv hp hB hz hk hS1 => kk r u H1 locs1 hp (by rw [← ht]; exact hB.2) (wz_kept hP1 (fun j hj => hk _ (wz_lt hP1 hj) ?_)) hS1)
  · rcases h with ⟨i, hi, rfl⟩ | h
    · exact hAd i hi
    · exact absurd hq (Nat.not_lt.mpr h)
  · rcases h with ⟨i, hi, rfl⟩ | h
    · exact hAd i hi
    · exact Nat.le_trans hS.1 h
  · rintro (⟨i, hi, he⟩ | h)
    · exact hdj i j hi hj he.symm
    · exact absurd (wz_lt hP1 hj) (Nat.not_lt.mpr h)
theorem law_refA (C : LCx p s m c b L xs l D ad ae cI cJ cQ sa) {F : Nat → va_E} (hP0 : va_P D vwCl (wz 28 ad F) H) (hS : va_S (fun q => s.heap.size ≤ q) s.heap H locs) : (∀ q, q < H.size → azs 9 ae H.size q → s.heap.size ≤ q) ∧ (∀ q, azs 9 ae H.size q → s.heap.size ≤ q) ∧ ∀ H1 : Heap, (∀ q : Nat, q < H.size → ¬ azs 9 ae H.size q → H1[q]? = H[q]?) → va_P D vwCl (wz 28 ad F) H1 := by
  obtain ⟨hx, hb, hml, hown, hts, hX, hbl, hfl, hKL, hK, hnd, hne, hAd, hAe, hdj⟩ := C
  refine ⟨fun q hq h => ?_, fun q h => ?_, fun H1 hk => wz_kept hP0 (fun j hj => hk _ (wz_lt hP0 hj) ?_)⟩
  · rcases h with ⟨i, hi, rfl⟩ | h
    · exact hAe i hi
    · exact absurd hq (Nat.not_lt.mpr h)
  · rcases h with ⟨i, hi, rfl⟩ | h
    · exact hAe i hi
    · exact Nat.le_trans hS.1 h
  · rintro (⟨i, hi, he⟩ | h)
    · exact hdj j i hj hi he
    · exact absurd (wz_lt hP0 hj) (Nat.not_lt.mpr h)
/-- the script's number k places on, on the stack -/
theorem law_arg (C : LCx p s m c b L xs l D ad ae cI cJ cQ sa) (hS : va_S (fun q => s.heap.size ≤ q) s.heap H locs) {i k pc : Nat} {kw : Int} (hi : i + k < L) (hL : L ≤ 2048) {lv : List (Nat × Value)} (hl : lv_has ls 8 lv) (h0 : (0, Value.ref b) ∈ lv) (h4 : (4, Value.int (nI i)) ∈ lv) (hkw : Int32.ofInt kw = nI k)
    (d0 : decode cL_law pc = .ok (.aload_n 0, 1)) (d1 : decode cL_law (pc + 1) = .ok (.iload 4, 2)) (d3 : decode cL_law (pc + 3) = .ok (.iconst kw, 1)) (d4 : decode cL_law (pc + 4) = .ok (.iadd, 1)) (d5 : decode cL_law (pc + 5) = .ok (.iaload, 1))
    (kk : W p l e room_1 s m #[Value.ref b] below meth c H locs cells slots Q (F0 m (pc + 6) ls (.int (xs (i + k)) :: rest))) : W p l e room_1 s m #[Value.ref b] below meth c H locs cells slots Q (F0 m pc ls rest) := by
  obtain ⟨hx, hb, hml, hown, hts, hX, hbl, hfl, hKL, hK, hnd, hne, hAd, hAe, hdj⟩ := C
  refine lv_aload_n hx hb d0 rfl (hl.2.2 _ h0) ?_
  refine lv_iload hx hb d1 (hl.2.2 _ h4) ?_
  refine lv_iconst (v := nI k) hx hb d3 hkw ?_
  refine zr_iadd hx hb d4 ?_
  refine va_sld hx hb hX hbl (Nat.not_le.mpr hbl) hS (vp_in_nI hi (by omega)) d5 ?_
  rw [nI_clamp (by omega)]
  exact kk
/-- the state's two words for the reference -/
theorem law_K1 (C : LCx p s m c b L xs l D ad ae cI cJ cQ sa) : va_K D vwCl [(cI, .int)] s := C.2.2.2.2.2.2.2.2.2.1.sub [0] rfl
/-- whether both threw alike, and answered alike: an int -/
theorem law_tail_i (C : LCx p s m c b L xs l D ad ae cI cJ cQ sa) {code9 : Nat} {r : Int32} (St : LSt s D ad ae cI cJ cQ M ts pu o (nI code9) H locs) (hcd : code9 ≤ 3) (hv : code9 = 0 → o = r.toInt64) {pc : Nat} {o28 : Int} {i4 : Value} (hcell : cells ≤ room_1.cells ∧ slots ≤ room_1.slots)
    (hl : lv_has ls 8 [(6, .int r), (5, .int (nI code9)), (0, .ref b), (1, .ref (ad 0)), (2, .ref (ae 0)), (3, .ref (ad 27)), (4, i4)])
    (d0 : decode cL_law pc = .ok (.aload_n 2, 1)) (d1 : decode cL_law (pc + 1) = .ok (.invokevirtual 90, 3)) (d4 : decode cL_law (pc + 4) = .ok (.iload 5, 2)) (d6 : decode cL_law (pc + 6) = .ok (.if_icmp .eq 5, 3)) (d11 : decode cL_law (pc + 11) = .ok (.iload 5, 2)) (d13 : decode cL_law (pc + 13) = .ok (.ifCond .ne 15, 3))
    (d16 : decode cL_law (pc + 16) = .ok (.aload_n 3, 1)) (d17 : decode cL_law (pc + 17) = .ok (.iconst 0, 1)) (d18 : decode cL_law (pc + 18) = .ok (.laload, 1)) (d19 : decode cL_law (pc + 19) = .ok (.iload 6, 2)) (d21 : decode cL_law (pc + 21) = .ok (.i2l, 1)) (d22 : decode cL_law (pc + 22) = .ok (.lcmp, 1)) (d23 : decode cL_law (pc + 23) = .ok (.ifCond .eq 5, 3)) (d28 : decode cL_law (pc + 28) = .ok (.goto o28, 3)) (h28 : ((pc + 28 : Nat) : Int) + o28 = ((1523 : Nat) : Int))
    (kk : W p l e room_1 s m #[Value.ref b] below meth c H locs cells slots Q (F0 m 1523 ls [])) : W p l e room_1 s m #[Value.ref b] below meth c H locs cells slots Q (F0 m pc ls []) := by
  have hK1 := law_K1 C
  obtain ⟨hx, hb, hml, hown, hts, hX, hbl, hfl, hKL, hK, hnd, hne, hAd, hAe, hdj⟩ := C
  obtain ⟨hI, hT, hP0, hP1, hS⟩ := St
  refine lv_aload_n hx hb d0 rfl (lv_at hl 4 rfl) ?_
  refine vp_callSi (W.runV (As := []) (rest := []) ⟨hx, hb, hml, hown, hts⟩ (c1_thrown l hI) (cwV 0 hts gL_law_X1_thrown rfl rfl rfl (by decide +kernel) (by decide)) (pv1 hK1 hP1) rfl rfl hl.1 rfl (lv_room (Nat.le_of_ble_eq_true rfl)) d1 hcell) (fun r9 hr9 => ?_)
  subst hr9
  refine lv_iload hx hb d4 (lv_at hl 1 rfl) ?_
  refine lv_icmp_eq (tgt := pc + 11) hx hb d6 (by omega) (fun _ => ?_) (fun q => absurd rfl q)
  refine lv_iload hx hb d11 (lv_at hl 1 rfl) ?_
  refine lv_if_ne (tgt := pc + 28) hx hb d13 (by omega) (fun _ => ?_) (fun q => ?_)
  · exact lv_goto (tgt := 1523) hx hb d28 h28 kk
  · have h0 : code9 = 0 := by
      have h1 := congrArg Int32.toInt q
      rw [nI_toInt (by omega)] at h1
      have h2 : (0 : Int32).toInt = 0 := rfl
      omega
    refine lv_aload_n hx hb d16 rfl (lv_at hl 5 rfl) ?_
    refine lv_iconst (v := nI 0) hx hb d17 (by decide) ?_
    refine zl_ld hx hb hK hP0 27 (by decide) 1 rfl rfl (by decide) (i := 0) (by decide) (v := o) rfl d18 ?_
    refine lv_iload hx hb d19 (lv_at hl 0 rfl) ?_
    refine lv_i2l hx hb d21 rfl ?_
    refine W.lcmp hx hb d22 ?_
    refine lv_if_eq (tgt := pc + 28) hx hb d23 (by omega) (fun _ => ?_) (fun q => absurd ((lg_cmp_eq _ _).mpr (hv h0)) q)
    exact lv_goto (tgt := 1523) hx hb d28 h28 kk
/-- the same, a long -/
theorem law_tail_l (C : LCx p s m c b L xs l D ad ae cI cJ cQ sa) {code9 : Nat} {r : Int64} (St : LSt s D ad ae cI cJ cQ M ts pu o (nI code9) H locs) (hcd : code9 ≤ 3) (hv : code9 = 0 → o = r) {pc : Nat} {o28 : Int} {i4 : Value} (hcell : cells ≤ room_1.cells ∧ slots ≤ room_1.slots)
    (hl : lv_has ls 8 [(6, .long r), (5, .int (nI code9)), (0, .ref b), (1, .ref (ad 0)), (2, .ref (ae 0)), (3, .ref (ad 27)), (4, i4)])
    (d0 : decode cL_law pc = .ok (.aload_n 2, 1)) (d1 : decode cL_law (pc + 1) = .ok (.invokevirtual 90, 3)) (d4 : decode cL_law (pc + 4) = .ok (.iload 5, 2)) (d6 : decode cL_law (pc + 6) = .ok (.if_icmp .eq 5, 3)) (d11 : decode cL_law (pc + 11) = .ok (.iload 5, 2)) (d13 : decode cL_law (pc + 13) = .ok (.ifCond .ne 14, 3))
    (d16 : decode cL_law (pc + 16) = .ok (.aload_n 3, 1)) (d17 : decode cL_law (pc + 17) = .ok (.iconst 0, 1)) (d18 : decode cL_law (pc + 18) = .ok (.laload, 1)) (d19 : decode cL_law (pc + 19) = .ok (.lload 6, 2)) (d21 : decode cL_law (pc + 21) = .ok (.lcmp, 1)) (d22 : decode cL_law (pc + 22) = .ok (.ifCond .eq 5, 3)) (d27 : decode cL_law (pc + 27) = .ok (.goto o28, 3)) (h27 : ((pc + 27 : Nat) : Int) + o28 = ((1523 : Nat) : Int))
    (kk : W p l e room_1 s m #[Value.ref b] below meth c H locs cells slots Q (F0 m 1523 ls [])) : W p l e room_1 s m #[Value.ref b] below meth c H locs cells slots Q (F0 m pc ls []) := by
  have hK1 := law_K1 C
  obtain ⟨hx, hb, hml, hown, hts, hX, hbl, hfl, hKL, hK, hnd, hne, hAd, hAe, hdj⟩ := C
  obtain ⟨hI, hT, hP0, hP1, hS⟩ := St
  refine lv_aload_n hx hb d0 rfl (lv_at hl 4 rfl) ?_
  refine vp_callSi (W.runV (As := []) (rest := []) ⟨hx, hb, hml, hown, hts⟩ (c1_thrown l hI) (cwV 0 hts gL_law_X1_thrown rfl rfl rfl (by decide +kernel) (by decide)) (pv1 hK1 hP1) rfl rfl hl.1 rfl (lv_room (Nat.le_of_ble_eq_true rfl)) d1 hcell) (fun r9 hr9 => ?_)
  subst hr9
  refine lv_iload hx hb d4 (lv_at hl 1 rfl) ?_
  refine lv_icmp_eq (tgt := pc + 11) hx hb d6 (by omega) (fun _ => ?_) (fun q => absurd rfl q)
  refine lv_iload hx hb d11 (lv_at hl 1 rfl) ?_
  refine lv_if_ne (tgt := pc + 27) hx hb d13 (by omega) (fun _ => ?_) (fun q => ?_)
  · exact lv_goto (tgt := 1523) hx hb d27 h27 kk
  · have h0 : code9 = 0 := by
      have h1 := congrArg Int32.toInt q
      rw [nI_toInt (by omega)] at h1
      have h2 : (0 : Int32).toInt = 0 := rfl
      omega
    refine lv_aload_n hx hb d16 rfl (lv_at hl 5 rfl) ?_
    refine lv_iconst (v := nI 0) hx hb d17 (by decide) ?_
    refine zl_ld hx hb hK hP0 27 (by decide) 1 rfl rfl (by decide) (i := 0) (by decide) (v := o) rfl d18 ?_
    refine lv_lload hx hb d19 (lv_at hl 0 rfl) ?_
    refine W.lcmp hx hb d21 ?_
    refine lv_if_eq (tgt := pc + 27) hx hb d22 (by omega) (fun _ => ?_) (fun q => absurd ((lg_cmp_eq _ _).mpr (hv h0)) q)
    exact lv_goto (tgt := 1523) hx hb d27 h27 kk
/-- the next turn's ground -/
def LNext (p : Program) (l : Launch) (e : Env) (s : State) (m : MethodId) (below : List Frame) (meth : Method) (c : Code) (b : Nat) (Q : State → Prop) (D : va_G) (ad ae : Nat → Nat) (cI cJ cQ : ClassId) (i cells slots : Nat) : Prop :=
  ∀ (M : Mdl) (ts : Nat → Nat) (pu : Nat → Int64) (o : Int64) (th : Int32) (H : Heap) (locs : List Loc) (cells' slots' : Nat) (ls : Array Slot), cells' ≤ cells + 5 → slots' ≤ slots + 30 → LSt s D ad ae cI cJ cQ M ts pu o th H locs → lv_has ls 8 [(0, .ref b), (1, .ref (ad 0)), (2, .ref (ae 0)), (3, .ref (ad 27)), (4, .int (nI i))] → W p l e room_1 s m #[Value.ref b] below meth c H locs cells' slots' Q (F0 m 1523 ls [])
end LW
