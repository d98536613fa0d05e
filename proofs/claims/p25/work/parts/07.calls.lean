/-! calls, throws, and what a caller sees of them -/
abbrev eI : String := "java/lang/IndexOutOfBoundsException"
abbrev eA : String := "java/lang/IllegalArgumentException"
abbrev eS : String := "java/lang/IllegalStateException"
/-- what a throw needs of the machine: the statics of Throwable, which nobody of ours writes, the texts, the classes -/
def KX (sa : Nat → Nat) (Z : Nat → Prop) (U : State) : Prop :=
  vx_Zq Bundle.tN "UNASSIGNED_STACK" Bundle.steD Z U U.heap ∧ vx_Zq Bundle.tN "SUPPRESSED_SENTINEL" Bundle.listD Z U U.heap ∧ vk_R RX0 116 "no such number" (sa 0) U ∧ vk_R RX0 123 "out of its range" (sa 1) U ∧ vk_R RX0 128 "not allowed as things stand" (sa 2) U ∧ vk_R RX0 131 "both wells are the same" (sa 3) U ∧ va_Nw (.castable eI eI) U ∧ va_Nw (.castable eA eA) U ∧ va_Nw (.castable eS eS) U ∧ va_Nw (.declares (Bundle.initS "java/lang/RuntimeException")) U ∧ va_Nw (.declares (Bundle.initS "java/lang/Exception")) U ∧ va_Nw (.declares (Bundle.initS Bundle.tN)) U
theorem KX.at {sa : Nat → Nat} {Z : Nat → Prop} {s U : State} (h : KX sa Z s) (hh : ∀ a : Nat, a < s.heap.size → ¬ Z a → U.heap[a]? = s.heap[a]?) (hW : s.WarmedH U.vm) : KX sa Z U := by
  obtain ⟨h1, h2, h3, h4, h5, h6, h7, h8, h9, h10, h11, h12⟩ := h
  exact ⟨vx_Zq.moved hW.alike (h1.kept hh), vx_Zq.moved hW.alike (h2.kept hh), vk_R.warm hW h3, vk_R.warm hW h4, vk_R.warm hW h5, vk_R.warm hW h6, va_Nw.warmC hW h7, va_Nw.warmC hW h8, va_Nw.warmC hW h9, va_Nw.warmD hW h10, va_Nw.warmD hW h11, va_Nw.warmD hW h12⟩
theorem KX.same {sa : Nat → Nat} {Z : Nat → Prop} {s U : State} (h : KX sa Z s) (hh : U.heap = s.heap) (hv : U.vm = s.vm) : KX sa Z U := by
  refine h.at (fun a _ _ => by rw [hh]) ?_
  rw [hv]
  exact State.WarmedH.refl s
theorem blX {sa : Nat → Nat} {Z : Nat → Prop} {av : List Value} : FrameBlind (va_Pc av (KX sa Z)) := fun _ _ _ _ q => ⟨q.1, q.2.same rfl rfl⟩
theorem psX {sa : Nat → Nat} {Z : Nat → Prop} {s : State} {As : List Value} (h : KX sa Z s) : PreS s s.heap (va_Pc As (KX sa Z)) As :=
  ⟨blX, fun U hU hW => ⟨rfl, h.at (fun a _ _ => by rw [hU]) hW⟩⟩
theorem psN {s : State} {H : Heap} {As : List Value} : PreS s H (va_Pc As (fun _ => True)) As := ⟨fun _ _ _ _ q => ⟨q.1, trivial⟩, fun U hU hW => ⟨rfl, trivial⟩⟩
section PV
variable {D : va_G} {ad : Nat → Nat} {cI cJ cQ : ClassId} {M : Mdl} {ts : Nat → Nat} {pu : Nat → Int64} {th : Int32} {s : State} {H : Heap} {As av : List Value}
theorem bl0 : FrameBlind (va_Pc av (KP0 D ad cI cJ cQ M ts pu)) := fun a U g mk q => ⟨q.1, va_K.moved (u := U) (U := U.calling g mk a) (Vm.Alike.refl U.vm) q.2.1, q.2.2⟩
theorem rc0 (hK : va_K D vwCl [(cI, .int), (cJ, .long), (cQ, .array .int)] s) (hP : va_P D vwCl (wz 27 ad (wcE ad cI cJ cQ M ts pu)) H) : ∃ cell : Cell, H[ad 0]? = some cell ∧ cell.vm.isStatics = false ∧ s.vm.findClass RX0 = some cell.cls := by
  have h := wz_at (ad := ad) (F := wcE ad cI cJ cQ M ts pu) (show 0 < 27 by decide)
  rw [show wcE ad cI cJ cQ M ts pu 0 = .inr (0, [.ref (ad 1), .ref (ad 2), .ref (ad 3), .ref (ad 4), .ref (ad 5), .ref (ad 6), .ref (ad 7), .ref (ad 8), .ref (ad 9), .ref (ad 10), .int (nI (M 0 0)), .int (nI (M 5 0))]) from rfl] at h
  exact va_recv hK hP (ci := 0) (q0 := 0) rfl h
theorem pv0 (hK : va_K D vwCl [(cI, .int), (cJ, .long), (cQ, .array .int)] s) (hP : va_P D vwCl (wz 27 ad (wcE ad cI cJ cQ M ts pu)) H) : PreV s H RX0 (ad 0) (va_Pc (.ref (ad 0) :: As) (KP0 D ad cI cJ cQ M ts pu)) As :=
  ⟨bl0, rc0 hK hP, fun U hU hW => ⟨rfl, va_K.moved hW.alike hK, by rw [hU]; exact hP⟩⟩
/-- a class method that may throw -/
def KP0X (D : va_G) (ad : Nat → Nat) (cI cJ cQ : ClassId) (M : Mdl) (ts : Nat → Nat) (pu : Nat → Int64) (sa : Nat → Nat) (Z : Nat → Prop) (sz : Nat) (U : State) : Prop := U.heap.size = sz ∧ KX sa Z U ∧ KP0 D ad cI cJ cQ M ts pu U
variable {sa : Nat → Nat} {Z : Nat → Prop} {sz : Nat}
theorem bl0X : FrameBlind (va_Pc av (KP0X D ad cI cJ cQ M ts pu sa Z sz)) := fun a U g mk q => ⟨q.1, q.2.1, q.2.2.1.same rfl rfl, (bl0 (av := av) a U g mk ⟨q.1, q.2.2.2⟩).2⟩
theorem pv0X {s0 : Heap} (hK : va_K D vwCl [(cI, .int), (cJ, .long), (cQ, .array .int)] s) (hP : va_P D vwCl (wz 27 ad (wcE ad cI cJ cQ M ts pu)) H) (hX : KX sa Z s) (hh : ∀ a : Nat, a < s.heap.size → ¬ Z a → H[a]? = s.heap[a]?) : PreV s H RX0 (ad 0) (va_Pc (.ref (ad 0) :: As) (KP0X D ad cI cJ cQ M ts pu sa Z H.size)) As :=
  ⟨bl0X, rc0 hK hP, fun U hU hW => ⟨rfl, by rw [hU], hX.at (by rw [hU]; exact hh) hW, va_K.moved hW.alike hK, by rw [hU]; exact hP⟩⟩
end PV
/-- an exception of one of these classes has left; no old cell has changed -/
def XCE (P : String → Prop) : String → State → State → Prop := fun E st t => P E ∧ va_F (fun _ => False) st t
section ZX
variable {p : Program} {l : Launch} {e : Env} {R : Room} {s : State} {m : MethodId} {args : Array Value} {below : List Frame} {meth : Method} {c : Code} {H : Heap} {locs : List Loc} {cells slots : Nat} {Q : State → Prop}
variable {mc ms : Nat} {a : Array Value} {pc : Nat} {ls : Array Slot} {st0 rest : List Value} {P : String → Prop}
theorem zx_v {post : Unit → Prop} (hr : vx_Run p l e R s m args below meth c H locs cells slots mc ms (F0 m pc ls st0) rest (va_Sv post a) (XCE P) (fun _ => False))
    (kx : ∀ {E : String} {ce : Cell} {q9 : Addr} {H1 : Heap}, P E → H.size ≤ H1.size → (∀ q : Nat, q < H.size → H1[q]? = H[q]?) → H1[q9]? = some ce → ce.vm = .none → s.vm.findClass E = some ce.cls → vx_W p l e R s m args below meth c H1 locs (cells + mc) (slots + ms) Q (F0 m pc ls rest) q9)
    (kk : post () → W p l e R s m args below meth c H locs (cells + mc) (slots + ms) Q (F0 m (pc + 3) ls rest)) : W p l e R s m args below meth c H locs cells slots Q (F0 m pc ls st0) := by
  intro T hT X
  rcases hr T hT X with ⟨v, st₀, t, T', L, h0, X', hL, e1, e2, ⟨hv, hp, hh⟩, st⟩ | ⟨q, st₀, t, T', L, E, ce, h0, X', hL, e1, e2, ⟨hp, hF⟩, hce, hcv, hcl, st⟩
  · cases hv
    obtain ⟨t2, a1, b1⟩ := kk hp T' (by rw [e1, hh, h0]) (Stand.forget X' (fun q h => (hL q h).elim))
    exact ⟨t2, st t2 a1, b1⟩
  · obtain ⟨hz, hk⟩ := hF
    rw [h0] at hz hk
    obtain ⟨t2, a1, b1⟩ := kx hp (by rw [e1]; exact hz) (fun q h => by rw [e1]; exact hk q h (fun z => z)) (by rw [e1]; exact hce) hcv hcl T' rfl (Stand.forget X' (fun q h => (hL q h).elim))
    exact ⟨t2, st.trans a1, b1⟩
theorem zx_i {post : Int32 → Prop} (hr : vx_Run p l e R s m args below meth c H locs cells slots mc ms (F0 m pc ls st0) rest (vp_Si post a) (XCE P) (fun _ => False))
    (kx : ∀ {E : String} {ce : Cell} {q9 : Addr} {H1 : Heap}, P E → H.size ≤ H1.size → (∀ q : Nat, q < H.size → H1[q]? = H[q]?) → H1[q9]? = some ce → ce.vm = .none → s.vm.findClass E = some ce.cls → vx_W p l e R s m args below meth c H1 locs (cells + mc) (slots + ms) Q (F0 m pc ls rest) q9)
    (kk : ∀ r : Int32, post r → W p l e R s m args below meth c H locs (cells + mc) (slots + ms) Q (F0 m (pc + 3) ls (.int r :: rest))) : W p l e R s m args below meth c H locs cells slots Q (F0 m pc ls st0) := by
  intro T hT X
  rcases hr T hT X with ⟨v, st₀, t, T', L, h0, X', hL, e1, e2, ⟨r, hv, hp, hh⟩, st⟩ | ⟨q, st₀, t, T', L, E, ce, h0, X', hL, e1, e2, ⟨hp, hF⟩, hce, hcv, hcl, st⟩
  · cases hv
    obtain ⟨t2, a1, b1⟩ := kk r hp T' (by rw [e1, hh, h0]) (Stand.forget X' (fun q h => (hL q h).elim))
    exact ⟨t2, st t2 a1, b1⟩
  · obtain ⟨hz, hk⟩ := hF
    rw [h0] at hz hk
    obtain ⟨t2, a1, b1⟩ := kx hp (by rw [e1]; exact hz) (fun q h => by rw [e1]; exact hk q h (fun z => z)) (by rw [e1]; exact hce) hcv hcl T' rfl (Stand.forget X' (fun q h => (hL q h).elim))
    exact ⟨t2, st.trans a1, b1⟩
theorem zx_l {post : Int64 → Prop} (hr : vx_Run p l e R s m args below meth c H locs cells slots mc ms (F0 m pc ls st0) rest (vp_Sl post a) (XCE P) (fun _ => False))
    (kx : ∀ {E : String} {ce : Cell} {q9 : Addr} {H1 : Heap}, P E → H.size ≤ H1.size → (∀ q : Nat, q < H.size → H1[q]? = H[q]?) → H1[q9]? = some ce → ce.vm = .none → s.vm.findClass E = some ce.cls → vx_W p l e R s m args below meth c H1 locs (cells + mc) (slots + ms) Q (F0 m pc ls rest) q9)
    (kk : ∀ r : Int64, post r → W p l e R s m args below meth c H locs (cells + mc) (slots + ms) Q (F0 m (pc + 3) ls (.long r :: rest))) : W p l e R s m args below meth c H locs cells slots Q (F0 m pc ls st0) := by
  intro T hT X
  rcases hr T hT X with ⟨v, st₀, t, T', L, h0, X', hL, e1, e2, ⟨r, hv, hp, hh⟩, st⟩ | ⟨q, st₀, t, T', L, E, ce, h0, X', hL, e1, e2, ⟨hp, hF⟩, hce, hcv, hcl, st⟩
  · cases hv
    obtain ⟨t2, a1, b1⟩ := kk r hp T' (by rw [e1, hh, h0]) (Stand.forget X' (fun q h => (hL q h).elim))
    exact ⟨t2, st t2 a1, b1⟩
  · obtain ⟨hz, hk⟩ := hF
    rw [h0] at hz hk
    obtain ⟨t2, a1, b1⟩ := kx hp (by rw [e1]; exact hz) (fun q h => by rw [e1]; exact hk q h (fun z => z)) (by rw [e1]; exact hce) hcv hcl T' rfl (Stand.forget X' (fun q h => (hL q h).elim))
    exact ⟨t2, st.trans a1, b1⟩
end ZX
/-- an exception over the frame of a method without handlers that has written nothing: out it goes -/
abbrev Out0 (p : Program) (l : Launch) (e : Env) (R : Room) (s : State) (m : MethodId) (args : Array Value) (below : List Frame) (meth : Method) (c : Code) (Q : State → Prop) (P : String → Prop) (mc ms : Nat) : Prop :=
  ∀ {E : String} {ce : Cell} {q : Addr} {H1 : Heap} {pc cells slots : Nat} {ls : Array Slot} {rest : List Value}, cells ≤ mc → slots ≤ ms → P E → s.heap.size ≤ H1.size → (∀ q : Nat, q < s.heap.size → H1[q]? = s.heap[q]?) → H1[q]? = some ce → ce.vm = .none → s.vm.findClass E = some ce.cls → vx_W p l e R s m args below meth c H1 [] cells slots Q (F0 m pc ls rest) q
theorem out0 {p : Program} {l : Launch} {e : Env} {R : Room} {s : State} {m : MethodId} {args : Array Value} {below : List Frame} {meth : Method} {c : Code} {Qc : Array Value → State → Outcome → State → Prop} {P : String → Prop} {mc ms : Nat} {free : Addr → Prop} (ht : ∀ x ∈ c.exceptionTable.toList, False) (hlocks : meth.locks = false) : Out0 p l e R s m args below meth c (vx_MQ below Qc (XCE P) args s mc ms free) P mc ms := by
  intro E ce q H1 pc cells slots ls rest hc hs hp hz hk hcell hv hcl
  exact vx_out (fun x hx => (ht x hx).elim) hlocks hcell hv hcl (fun t hT hA => ⟨hp, by rw [hT]; exact hz, fun q h _ => by rw [hT]; exact hk q h⟩) (fun z h => by cases h) hc hs
section MKX
variable {l : Launch} {y : MethodName} {ws ws' : List Cond} {rm : Room} {cc : ByteArray} {maxL : Nat} {av : List Value} {B : State → Prop} {P : String → Prop} {mc ms : Nat}
/-- a throwing method that answers nothing, and writes nothing -/
theorem mkX_Sv {post : Unit → Prop} (hy : plainName y.cls = true) (hw : ws = Cond.code y cc maxL none :: ws') (hn : (lg_sl av).length ≤ maxL)
    (body : ∀ {p : Program} {e : Env} {s : State} {m : MethodId} {args : Array Value} {below : List Frame} {meth : Method} {c : Code}, Cx p s m args meth c cc maxL none ws y.cls → (∀ x ∈ c.exceptionTable.toList, False) → B s →
      (∀ {pc cells slots : Nat} {ls : Array Slot}, cells ≤ mc → slots ≤ ms → post () → decode cc pc = .ok (.return_, 1) → W p l e rm s m args below meth c s.heap [] cells slots (vx_MQ below (va_Sv post) (XCE P) args s mc ms (fun _ => False)) (F0 m pc ls [])) →
      ∀ ls : Array Slot, lv_has ls maxL (lv_args 0 av) → W p l e rm s m args below meth c s.heap [] 0 0 (vx_MQ below (va_Sv post) (XCE P) args s mc ms (fun _ => False)) (F0 m 0 ls [])) : vx_Met l y ws rm (va_Pc av B) (va_Sv post) (XCE P) mc ms (fun _ => False) := by
  refine vx_ofW (cc := cc) (maxL := maxL) (ret := none) hy hw ?_
  intro p e s m args below meth c s₁ X hml ht hv
  obtain ⟨rfl, hB⟩ := hv
  have hl := lv_entry av (n := maxL) hn
  rw [lg_entry_eq]
  generalize (lg_sl av ++ List.replicate (maxL - (lg_sl av).length) Slot.unset).toArray = ls at hl ⊢
  exact body ⟨X.exec, X.bytes, X.returns, hml, findClass_of_methodNamed X.named, atoms_spec (ws := ws) X.pre, X.notSynchronized⟩ ht hB (fun hc hs hp hd => vx_ret (W.widen hc hs (W.vret X.exec X.bytes X.returns (fun t ht hW => ⟨rfl, hp, ht⟩) (fun q h => by cases h) hd X.notSynchronized))) ls hl
theorem mkX_Si {post : Int32 → Prop} (hy : plainName y.cls = true) (hw : ws = Cond.code y cc maxL (some .int) :: ws') (hn : (lg_sl av).length ≤ maxL)
    (body : ∀ {p : Program} {e : Env} {s : State} {m : MethodId} {args : Array Value} {below : List Frame} {meth : Method} {c : Code} (Q : State → Prop), Cx p s m args meth c cc maxL (some .int) ws y.cls → B s → Out0 p l e rm s m args below meth c Q P mc ms →
      (∀ {v : Int32} {pc cells slots : Nat} {ls : Array Slot}, cells ≤ mc → slots ≤ ms → post v → decode cc pc = .ok (.ireturn, 1) → W p l e rm s m args below meth c s.heap [] cells slots Q (F0 m pc ls [.int v])) →
      ∀ ls : Array Slot, lv_has ls maxL (lv_args 0 av) → W p l e rm s m args below meth c s.heap [] 0 0 Q (F0 m 0 ls [])) : vx_Met l y ws rm (va_Pc av B) (vp_Si post) (XCE P) mc ms (fun _ => False) := by
  refine vx_ofW (cc := cc) (maxL := maxL) (ret := some .int) hy hw ?_
  intro p e s m args below meth c s₁ X hml ht hv
  obtain ⟨rfl, hB⟩ := hv
  have hl := lv_entry av (n := maxL) hn
  rw [lg_entry_eq]
  generalize (lg_sl av ++ List.replicate (maxL - (lg_sl av).length) Slot.unset).toArray = ls at hl ⊢
  exact body _ ⟨X.exec, X.bytes, X.returns, hml, findClass_of_methodNamed X.named, atoms_spec (ws := ws) X.pre, X.notSynchronized⟩ hB (out0 ht X.notSynchronized) (fun hc hs hp hd => vx_ret (W.widen hc hs (W.iret X.exec X.bytes X.returns (fun t ht hW => ⟨_, rfl, hp, ht⟩) (fun q h => by cases h) hd X.notSynchronized))) ls hl
theorem mkX_Sl {post : Int64 → Prop} (hy : plainName y.cls = true) (hw : ws = Cond.code y cc maxL (some .long) :: ws') (hn : (lg_sl av).length ≤ maxL)
    (body : ∀ {p : Program} {e : Env} {s : State} {m : MethodId} {args : Array Value} {below : List Frame} {meth : Method} {c : Code} (Q : State → Prop), Cx p s m args meth c cc maxL (some .long) ws y.cls → B s → Out0 p l e rm s m args below meth c Q P mc ms →
      (∀ {v : Int64} {pc cells slots : Nat} {ls : Array Slot}, cells ≤ mc → slots ≤ ms → post v → decode cc pc = .ok (.lreturn, 1) → W p l e rm s m args below meth c s.heap [] cells slots Q (F0 m pc ls [.long v])) →
      ∀ ls : Array Slot, lv_has ls maxL (lv_args 0 av) → W p l e rm s m args below meth c s.heap [] 0 0 Q (F0 m 0 ls [])) : vx_Met l y ws rm (va_Pc av B) (vp_Sl post) (XCE P) mc ms (fun _ => False) := by
  refine vx_ofW (cc := cc) (maxL := maxL) (ret := some .long) hy hw ?_
  intro p e s m args below meth c s₁ X hml ht hv
  obtain ⟨rfl, hB⟩ := hv
  have hl := lv_entry av (n := maxL) hn
  rw [lg_entry_eq]
  generalize (lg_sl av ++ List.replicate (maxL - (lg_sl av).length) Slot.unset).toArray = ls at hl ⊢
  exact body _ ⟨X.exec, X.bytes, X.returns, hml, findClass_of_methodNamed X.named, atoms_spec (ws := ws) X.pre, X.notSynchronized⟩ hB (out0 ht X.notSynchronized) (fun hc hs hp hd => vx_ret (W.widen hc hs (W.lret X.exec X.bytes X.returns (fun t ht hW => ⟨_, rfl, hp, ht⟩) (fun q h => by cases h) hd X.notSynchronized))) ls hl
/-- a throwing method that writes (behind its checks) in its own cells -/
theorem mkX_Qi {S : Type} {post : Int32 → S → Prop} {BQ : S → State → Prop} {A : Nat → Prop} (hy : plainName y.cls = true) (hw : ws = Cond.code y cc maxL (some .int) :: ws') (hn : (lg_sl av).length ≤ maxL)
    (body : ∀ {p : Program} {e : Env} {s : State} {m : MethodId} {args : Array Value} {below : List Frame} {meth : Method} {c : Code} (Q : State → Prop), Cx p s m args meth c cc maxL (some .int) ws y.cls → B s → Out0 p l e rm s m args below meth c Q P mc ms →
      (∀ {v : Int32} {u : S} {H : Heap} {locs : List Loc} {pc cells slots : Nat} {ls : Array Slot}, cells ≤ mc → slots ≤ ms → post v u → va_S A s.heap H locs → (∀ t : State, t.heap = H → s.vm.Alike t.vm → BQ u t) → decode cc pc = .ok (.ireturn, 1) → W p l e rm s m args below meth c H locs cells slots Q (F0 m pc ls [.int v])) →
      ∀ ls : Array Slot, lv_has ls maxL (lv_args 0 av) → W p l e rm s m args below meth c s.heap [] 0 0 Q (F0 m 0 ls [])) : vx_Met l y ws rm (va_Pc av B) (va_Qi post BQ A) (XCE P) mc ms A := by
  refine vx_ofW (cc := cc) (maxL := maxL) (ret := some .int) hy hw ?_
  intro p e s m args below meth c s₁ X hml ht hv
  obtain ⟨rfl, hB⟩ := hv
  have hl := lv_entry av (n := maxL) hn
  rw [lg_entry_eq]
  generalize (lg_sl av ++ List.replicate (maxL - (lg_sl av).length) Slot.unset).toArray = ls at hl ⊢
  exact body _ ⟨X.exec, X.bytes, X.returns, hml, findClass_of_methodNamed X.named, atoms_spec (ws := ws) X.pre, X.notSynchronized⟩ hB (out0 ht X.notSynchronized) (fun hc hs hp hS hq hd => vx_ret (W.widen hc hs (W.iret X.exec X.bytes X.returns (fun t ht hW => ⟨⟨_, _, rfl, hp, hq t ht hW.alike⟩, hS.F ht⟩) hS.2.2 hd X.notSynchronized))) ls hl
theorem mkX_Ql {S : Type} {post : Int64 → S → Prop} {BQ : S → State → Prop} {A : Nat → Prop} (hy : plainName y.cls = true) (hw : ws = Cond.code y cc maxL (some .long) :: ws') (hn : (lg_sl av).length ≤ maxL)
    (body : ∀ {p : Program} {e : Env} {s : State} {m : MethodId} {args : Array Value} {below : List Frame} {meth : Method} {c : Code} (Q : State → Prop), Cx p s m args meth c cc maxL (some .long) ws y.cls → B s → Out0 p l e rm s m args below meth c Q P mc ms →
      (∀ {v : Int64} {u : S} {H : Heap} {locs : List Loc} {pc cells slots : Nat} {ls : Array Slot}, cells ≤ mc → slots ≤ ms → post v u → va_S A s.heap H locs → (∀ t : State, t.heap = H → s.vm.Alike t.vm → BQ u t) → decode cc pc = .ok (.lreturn, 1) → W p l e rm s m args below meth c H locs cells slots Q (F0 m pc ls [.long v])) →
      ∀ ls : Array Slot, lv_has ls maxL (lv_args 0 av) → W p l e rm s m args below meth c s.heap [] 0 0 Q (F0 m 0 ls [])) : vx_Met l y ws rm (va_Pc av B) (va_Ql post BQ A) (XCE P) mc ms A := by
  refine vx_ofW (cc := cc) (maxL := maxL) (ret := some .long) hy hw ?_
  intro p e s m args below meth c s₁ X hml ht hv
  obtain ⟨rfl, hB⟩ := hv
  have hl := lv_entry av (n := maxL) hn
  rw [lg_entry_eq]
  generalize (lg_sl av ++ List.replicate (maxL - (lg_sl av).length) Slot.unset).toArray = ls at hl ⊢
  exact body _ ⟨X.exec, X.bytes, X.returns, hml, findClass_of_methodNamed X.named, atoms_spec (ws := ws) X.pre, X.notSynchronized⟩ hB (out0 ht X.notSynchronized) (fun hc hs hp hS hq hd => vx_ret (W.widen hc hs (W.lret X.exec X.bytes X.returns (fun t ht hW => ⟨⟨_, _, rfl, hp, hq t ht hW.alike⟩, hS.F ht⟩) hS.2.2 hd X.notSynchronized))) ls hl
/-- methods that write in their own cells and throw nothing -/
theorem mk_Qi {S : Type} {post : Int32 → S → Prop} {BQ : S → State → Prop} {A : Nat → Prop} (hy : plainName y.cls = true) (hw : ws = Cond.code y cc maxL (some .int) :: ws') (hn : (lg_sl av).length ≤ maxL)
    (body : ∀ {p : Program} {e : Env} {s : State} {m : MethodId} {args : Array Value} {below : List Frame} {meth : Method} {c : Code} (Q : State → Prop), Cx p s m args meth c cc maxL (some .int) ws y.cls → B s →
      (∀ {v : Int32} {u : S} {H : Heap} {locs : List Loc} {pc : Nat} {ls : Array Slot}, post v u → va_S A s.heap H locs → (∀ t : State, t.heap = H → s.vm.Alike t.vm → BQ u t) → decode cc pc = .ok (.ireturn, 1) → W p l e rm s m args below meth c H locs 0 0 Q (F0 m pc ls [.int v])) →
      ∀ ls : Array Slot, lv_has ls maxL (lv_args 0 av) → W p l e rm s m args below meth c s.heap [] 0 0 Q (F0 m 0 ls [])) : Met l y ws rm (va_Pc av B) (va_Qi post BQ A) 0 0 A := by
  refine Met.ofW (cc := cc) (maxL := maxL) (ret := some .int) hy hw ?_
  intro p e s m args below meth c s₁ X hml hv
  obtain ⟨rfl, hB⟩ := hv
  have hl := lv_entry av (n := maxL) hn
  rw [lg_entry_eq]
  generalize (lg_sl av ++ List.replicate (maxL - (lg_sl av).length) Slot.unset).toArray = ls at hl ⊢
  exact body _ ⟨X.exec, X.bytes, X.returns, hml, findClass_of_methodNamed X.named, atoms_spec (ws := ws) X.pre, X.notSynchronized⟩ hB (fun hp hS hq hd => W.iret X.exec X.bytes X.returns (fun t ht hW => ⟨⟨_, _, rfl, hp, hq t ht hW.alike⟩, hS.F ht⟩) hS.2.2 hd X.notSynchronized) ls hl
theorem mk_Ql {S : Type} {post : Int64 → S → Prop} {BQ : S → State → Prop} {A : Nat → Prop} (hy : plainName y.cls = true) (hw : ws = Cond.code y cc maxL (some .long) :: ws') (hn : (lg_sl av).length ≤ maxL)
    (body : ∀ {p : Program} {e : Env} {s : State} {m : MethodId} {args : Array Value} {below : List Frame} {meth : Method} {c : Code} (Q : State → Prop), Cx p s m args meth c cc maxL (some .long) ws y.cls → B s →
      (∀ {v : Int64} {u : S} {H : Heap} {locs : List Loc} {pc : Nat} {ls : Array Slot}, post v u → va_S A s.heap H locs → (∀ t : State, t.heap = H → s.vm.Alike t.vm → BQ u t) → decode cc pc = .ok (.lreturn, 1) → W p l e rm s m args below meth c H locs 0 0 Q (F0 m pc ls [.long v])) →
      ∀ ls : Array Slot, lv_has ls maxL (lv_args 0 av) → W p l e rm s m args below meth c s.heap [] 0 0 Q (F0 m 0 ls [])) : Met l y ws rm (va_Pc av B) (va_Ql post BQ A) 0 0 A := by
  refine Met.ofW (cc := cc) (maxL := maxL) (ret := some .long) hy hw ?_
  intro p e s m args below meth c s₁ X hml hv
  obtain ⟨rfl, hB⟩ := hv
  have hl := lv_entry av (n := maxL) hn
  rw [lg_entry_eq]
  generalize (lg_sl av ++ List.replicate (maxL - (lg_sl av).length) Slot.unset).toArray = ls at hl ⊢
  exact body _ ⟨X.exec, X.bytes, X.returns, hml, findClass_of_methodNamed X.named, atoms_spec (ws := ws) X.pre, X.notSynchronized⟩ hB (fun hp hS hq hd => W.lret X.exec X.bytes X.returns (fun t ht hW => ⟨⟨_, _, rfl, hp, hq t ht hW.alike⟩, hS.F ht⟩) hS.2.2 hd X.notSynchronized) ls hl
theorem mk_Qz {S : Type} {post : Bool → S → Prop} {BQ : S → State → Prop} {A : Nat → Prop} (hy : plainName y.cls = true) (hw : ws = Cond.code y cc maxL (some .boolean) :: ws') (hn : (lg_sl av).length ≤ maxL)
    (body : ∀ {p : Program} {e : Env} {s : State} {m : MethodId} {args : Array Value} {below : List Frame} {meth : Method} {c : Code} (Q : State → Prop), Cx p s m args meth c cc maxL (some .boolean) ws y.cls → B s →
      (∀ {v : Int32} {b : Bool} {u : S} {H : Heap} {locs : List Loc} {pc : Nat} {ls : Array Slot}, post b u → v = bB b → va_S A s.heap H locs → (∀ t : State, t.heap = H → s.vm.Alike t.vm → BQ u t) → decode cc pc = .ok (.ireturn, 1) → W p l e rm s m args below meth c H locs 0 0 Q (F0 m pc ls [.int v])) →
      ∀ ls : Array Slot, lv_has ls maxL (lv_args 0 av) → W p l e rm s m args below meth c s.heap [] 0 0 Q (F0 m 0 ls [])) : Met l y ws rm (va_Pc av B) (va_Qi (fun r u => ∃ b : Bool, r = bB b ∧ post b u) BQ A) 0 0 A := by
  refine Met.ofW (cc := cc) (maxL := maxL) (ret := some .boolean) hy hw ?_
  intro p e s m args below meth c s₁ X hml hv
  obtain ⟨rfl, hB⟩ := hv
  have hl := lv_entry av (n := maxL) hn
  rw [lg_entry_eq]
  generalize (lg_sl av ++ List.replicate (maxL - (lg_sl av).length) Slot.unset).toArray = ls at hl ⊢
  exact body _ ⟨X.exec, X.bytes, X.returns, hml, findClass_of_methodNamed X.named, atoms_spec (ws := ws) X.pre, X.notSynchronized⟩ hB (fun {v b u H locs pc ls} hp hv hS hq hd => by
    subst hv
    exact W.zret X.exec X.bytes X.returns (bB_nar b) (fun t ht hW => ⟨⟨_, u, rfl, ⟨b, rfl, hp⟩, hq t ht hW.alike⟩, hS.F ht⟩) hS.2.2 hd X.notSynchronized) ls hl
theorem mk_Qv {S : Type} {post : S → Prop} {BQ : S → State → Prop} {A : Nat → Prop} (hy : plainName y.cls = true) (hw : ws = Cond.code y cc maxL none :: ws') (hn : (lg_sl av).length ≤ maxL)
    (body : ∀ {p : Program} {e : Env} {s : State} {m : MethodId} {args : Array Value} {below : List Frame} {meth : Method} {c : Code} (Q : State → Prop), Cx p s m args meth c cc maxL none ws y.cls → B s →
      (∀ {u : S} {H : Heap} {locs : List Loc} {pc : Nat} {ls : Array Slot}, post u → va_S A s.heap H locs → (∀ t : State, t.heap = H → s.vm.Alike t.vm → BQ u t) → decode cc pc = .ok (.return_, 1) → W p l e rm s m args below meth c H locs 0 0 Q (F0 m pc ls [])) →
      ∀ ls : Array Slot, lv_has ls maxL (lv_args 0 av) → W p l e rm s m args below meth c s.heap [] 0 0 Q (F0 m 0 ls [])) : Met l y ws rm (va_Pc av B) (va_Qv post BQ A) 0 0 A := by
  refine Met.ofW (cc := cc) (maxL := maxL) (ret := none) hy hw ?_
  intro p e s m args below meth c s₁ X hml hv
  obtain ⟨rfl, hB⟩ := hv
  have hl := lv_entry av (n := maxL) hn
  rw [lg_entry_eq]
  generalize (lg_sl av ++ List.replicate (maxL - (lg_sl av).length) Slot.unset).toArray = ls at hl ⊢
  exact body _ ⟨X.exec, X.bytes, X.returns, hml, findClass_of_methodNamed X.named, atoms_spec (ws := ws) X.pre, X.notSynchronized⟩ hB (fun hp hS hq hd => W.vret X.exec X.bytes X.returns (fun t ht hW => ⟨⟨_, rfl, hp, hq t ht hW.alike⟩, hS.F ht⟩) hS.2.2 hd X.notSynchronized) ls hl
end MKX
