/-! the law's own methods: what they find, how they catch, how they end -/
theorem cd1_t {a : Bool} (h : a = true) : cd1 a = 0 := by subst h; rfl
theorem cd2_t {a b : Bool} (h : (a && b) = true) : cd2 a b = 0 := by
  obtain ⟨h1, h2⟩ := Bool.and_eq_true_iff.mp h
  subst h1; subst h2; rfl
theorem cd3_t {a b c : Bool} (h : (a && b && c) = true) : cd3 a b c = 0 := by
  obtain ⟨h1, h3⟩ := Bool.and_eq_true_iff.mp h
  obtain ⟨h1, h2⟩ := Bool.and_eq_true_iff.mp h1
  subst h1; subst h2; subst h3; rfl
theorem cd1_z {a : Bool} (h : cd1 a = 0) : a = true := by cases a <;> first | rfl | exact absurd h (by decide)
theorem cd2_z {a b : Bool} (h : cd2 a b = 0) : (a && b) = true := by cases a <;> cases b <;> first | rfl | exact absurd h (by decide)
theorem cd3_z {a b c : Bool} (h : cd3 a b c = 0) : (a && b && c) = true := by cases a <;> cases b <;> cases c <;> first | rfl | exact absurd h (by decide)
theorem cd1_le {a : Bool} : cd1 a ≤ 1 := by cases a <;> decide
theorem cd2_le {a b : Bool} : cd2 a b ≤ 2 := by cases a <;> cases b <;> decide
theorem cd3_le {a b c : Bool} : cd3 a b c ≤ 3 := by cases a <;> cases b <;> cases c <;> decide
/-- the state after a call of this code -/
def moC (c : Nat) (a b : Mdl) : Mdl := if c = 0 then a else b
theorem moC_z {c : Nat} {a b : Mdl} (h : c = 0) : moC c a b = a := if_pos h
theorem moC_n {c : Nat} {a b : Mdl} (h : c ≠ 0) : moC c a b = b := if_neg h
def KL (sa : Nat → Nat) (Z : Nat → Prop) (U : State) : Prop := KX sa Z U ∧ va_Nc eS eA U ∧ va_Nc eA eI U ∧ va_Nc eS eI U
theorem KL.at {sa : Nat → Nat} {Z : Nat → Prop} {s U : State} (h : KL sa Z s) (hh : ∀ a : Nat, a < s.heap.size → ¬ Z a → U.heap[a]? = s.heap[a]?) (hW : s.WarmedH U.vm) : KL sa Z U :=
  ⟨h.1.at hh hW, va_Nc.moved hW.alike h.2.1, va_Nc.moved hW.alike h.2.2.1, va_Nc.moved hW.alike h.2.2.2⟩
theorem KL.same {sa : Nat → Nat} {Z : Nat → Prop} {s U : State} (h : KL sa Z s) (hh : U.heap = s.heap) (hv : U.vm = s.vm) : KL sa Z U := by
  refine h.at (fun a _ _ => by rw [hh]) ?_
  rw [hv]
  exact State.WarmedH.refl s
theorem KX.ci {sa : Nat → Nat} {Z : Nat → Prop} {U : State} {A : Array Value} (h : KX sa Z U) : (Cond.castable eI eI).before A U = true := va_Nw.use rfl h.2.2.2.2.2.2.1
theorem KX.ca {sa : Nat → Nat} {Z : Nat → Prop} {U : State} {A : Array Value} (h : KX sa Z U) : (Cond.castable eA eA).before A U = true := va_Nw.use rfl h.2.2.2.2.2.2.2.1
theorem KX.cs {sa : Nat → Nat} {Z : Nat → Prop} {U : State} {A : Array Value} (h : KX sa Z U) : (Cond.castable eS eS).before A U = true := va_Nw.use rfl h.2.2.2.2.2.2.2.2.1
def oE (cJ : ClassId) (o : Int64) : va_E := .inl (cJ, 1, .inr (.inl (fun _ => o)))
/-- the class's world, and the cell that the answer is put into -/
def woE (ad : Nat → Nat) (cI cJ cQ : ClassId) (M : Mdl) (ts : Nat → Nat) (pu : Nat → Int64) (o : Int64) : Nat → va_E := fun k => if k = 27 then oE cJ o else wcE ad cI cJ cQ M ts pu k
def KO (D : va_G) (ad : Nat → Nat) (cI cJ cQ : ClassId) (M : Mdl) (ts : Nat → Nat) (pu : Nat → Int64) (o : Int64) (U : State) : Prop := va_K D vwCl [(cI, .int), (cJ, .long), (cQ, .array .int)] U ∧ va_P D vwCl (wz 28 ad (woE ad cI cJ cQ M ts pu o)) U.heap
def KW (D : va_G) (ad : Nat → Nat) (cI cJ cQ : ClassId) (M : Mdl) (ts : Nat → Nat) (pu : Nat → Int64) (o : Int64) (sa : Nat → Nat) (Z : Nat → Prop) (sz : Nat) (U : State) : Prop := U.heap.size = sz ∧ KL sa Z U ∧ KO D ad cI cJ cQ M ts pu o U
section WO
variable {D : va_G} {ad : Nat → Nat} {cI cJ cQ : ClassId} {M : Mdl} {ts : Nat → Nat} {pu : Nat → Int64} {o : Int64} {sa : Nat → Nat} {Z : Nat → Prop} {sz : Nat} {H H1 : Heap} {s : State} {As av : List Value}
theorem woP_c (hP : va_P D vwCl (wz 28 ad (woE ad cI cJ cQ M ts pu o)) H) : va_P D vwCl (wz 27 ad (wcE ad cI cJ cQ M ts pu)) H := fun k q hk => by
  obtain ⟨h1, rfl⟩ := wz_inv hk
  have h := hP k _ (wz_at (by omega))
  rw [show woE ad cI cJ cQ M ts pu o k = wcE ad cI cJ cQ M ts pu k from if_neg (by omega)] at h
  exact h
theorem woP_o (hP : va_P D vwCl (wz 28 ad (woE ad cI cJ cQ M ts pu o)) H) : va_at D vwCl (ad 27, oE cJ o) H := hP 27 _ (wz_at (by omega))
theorem woP_join {o1 : Int64} (hP : va_P D vwCl (wz 27 ad (wcE ad cI cJ cQ M ts pu)) H) (hO : va_at D vwCl (ad 27, oE cJ o1) H) : va_P D vwCl (wz 28 ad (woE ad cI cJ cQ M ts pu o1)) H := fun k q hk => by
  obtain ⟨h1, rfl⟩ := wz_inv hk
  by_cases h : k = 27
  · subst h; exact hO
  · rw [show woE ad cI cJ cQ M ts pu o1 k = wcE ad cI cJ cQ M ts pu k from if_neg h]
    exact hP k _ (wz_at (by omega))
/-- the class has written; the answer's cell stands -/
theorem woP_next {M1 : Mdl} {ts1 : Nat → Nat} {pu1 : Nat → Int64} (hP0 : va_P D vwCl (wz 28 ad (woE ad cI cJ cQ M ts pu o)) H) (hnd : ndz 28 ad) (hk : ∀ q : Nat, q < H.size → ¬ azs 27 ad H.size q → H1[q]? = H[q]?) (hP : va_P D vwCl (wz 27 ad (wcE ad cI cJ cQ M1 ts1 pu1)) H1) : va_P D vwCl (wz 28 ad (woE ad cI cJ cQ M1 ts1 pu1 o)) H1 := by
  have hlt : ad 27 < H.size := wz_lt hP0 (by omega)
  refine woP_join hP ((woP_o hP0).kept (hk _ hlt ?_))
  rintro (⟨i, hi, he⟩ | h)
  · have := hnd 27 i (by omega) (by omega) he
    omega
  · exact absurd hlt (Nat.not_lt.mpr h)
theorem wz_old {n : Nat} {F : Nat → va_E} (hP : va_P D vwCl (wz n ad F) H) (hk : ∀ q : Nat, q < H.size → H1[q]? = H[q]?) : va_P D vwCl (wz n ad F) H1 := wz_kept hP (fun i hi => hk _ (wz_lt hP hi))
theorem woS_o {x : Int64} {i : Nat} : ∀ j, j < 28 → va_up (woE ad cI cJ cQ M ts pu o) 27 (.inl (cJ, 1, .inr (.inl (vp_updL (fun _ => o) 0 x)))) j = (if j = 27 then .inl (cJ, 1, .inr (.inl (vp_updL (fun _ => o) 0 x))) else wcE ad cI cJ cQ M ts pu j) := fun j _ => by
  unfold va_up woE
  by_cases h : j = 27
  · rw [if_pos h, if_pos h]
  · rw [if_neg h, if_neg h, if_neg h]
theorem cell_1 {c : ClassId} {f g : Nat → Int64} (h : f 0 = g 0) : vp_cell c (1, .inr (.inl f)) = vp_cell c (1, .inr (.inl g)) := by
  rw [vp_cell_l, vp_cell_l]
  unfold arrV
  congr 1
  exact congrArg Array.ofFn (funext fun j => congrArg Value.long (by have h9 := j.isLt; rw [show j.val = 0 by omega, h]))
theorem woP_set {x : Int64} (hP : va_P D vwCl (wz 28 ad (fun j => if j = 27 then .inl (cJ, 1, .inr (.inl (vp_updL (fun _ => o) 0 x))) else wcE ad cI cJ cQ M ts pu j)) H) : va_P D vwCl (wz 28 ad (woE ad cI cJ cQ M ts pu x)) H := by
  refine woP_join (fun k q hk => ?_) ?_
  · obtain ⟨h1, rfl⟩ := wz_inv hk
    have h := hP k _ (wz_at (by omega))
    rw [if_neg (by omega : ¬ k = 27)] at h
    exact h
  · have h : H[ad 27]? = some (vp_cell cJ (1, .inr (.inl (vp_updL (fun _ => o) 0 x)))) := hP 27 _ (wz_at (by omega))
    show H[ad 27]? = some (vp_cell cJ (1, .inr (.inl (fun _ => x))))
    rw [h]
    exact congrArg some (cell_1 rfl)
theorem blW : FrameBlind (va_Pc av (KW D ad cI cJ cQ M ts pu o sa Z sz)) := fun a U g mk q => ⟨q.1, q.2.1, q.2.2.1.same rfl rfl, va_K.moved (u := U) (U := U.calling g mk a) (Vm.Alike.refl U.vm) q.2.2.2.1, q.2.2.2.2⟩
theorem psW (hK : va_K D vwCl [(cI, .int), (cJ, .long), (cQ, .array .int)] s) (hP : va_P D vwCl (wz 28 ad (woE ad cI cJ cQ M ts pu o)) H) (hX : KL sa Z s) (hh : ∀ a : Nat, a < s.heap.size → ¬ Z a → H[a]? = s.heap[a]?) : PreS s H (va_Pc As (KW D ad cI cJ cQ M ts pu o sa Z H.size)) As :=
  ⟨blW, fun U hU hW => ⟨rfl, by rw [hU], hX.at (by rw [hU]; exact hh) hW, va_K.moved hW.alike hK, by rw [hU]; exact hP⟩⟩
end WO
section ZW
variable {p : Program} {l : Launch} {e : Env} {R : Room} {s : State} {m : MethodId} {args : Array Value} {below : List Frame} {meth : Method} {c : Code} {H : Heap} {locs : List Loc} {cells slots : Nat} {Q : State → Prop}
variable {mc ms : Nat} {a : Array Value} {pc : Nat} {ls : Array Slot} {st0 rest : List Value} {P : String → Prop} {Qa : State → Outcome → State → Prop} {free : Addr → Prop} {H0 : Heap} {A0 A1 : Nat → Prop}
theorem vx_conv {g : JFrame} (hr : vx_Run p l e R s m args below meth c H locs cells slots mc ms g rest Qa (XCE P) free) : vx_Run p l e R s m args below meth c H locs cells slots mc ms g rest Qa (vx_X (S := Unit) (fun _ => True) (fun E _ _ => P E) (fun _ => False)) free := by
  intro T hT X
  rcases hr T hT X with h | ⟨q, st₀, t, T', L, E, ce, h0, X', hL, e1, e2, ⟨hp, hF⟩, hce, hcv, hcl, st⟩
  · exact Or.inl h
  · exact Or.inr ⟨q, st₀, t, T', L, E, ce, h0, X', hL, e1, e2, ⟨(), trivial, hp, hF⟩, hce, hcv, hcl, st⟩
theorem zx_wi {S : Type} {post : Int32 → S → Prop} {B : S → State → Prop} (hr : vx_Run p l e R s m args below meth c H locs cells slots mc ms (F0 m pc ls st0) rest (va_Qi post B A1 a) (XCE P) free) (hS : va_S A0 H0 H locs) (hA : ∀ q, q < H.size → A1 q → A0 q) (hf : ∀ q, free q → A0 q)
    (kx : ∀ {E : String} {ce : Cell} {q9 : Addr} {H1 : Heap} {locs1 : List Loc}, P E → H.size ≤ H1.size → (∀ q : Nat, q < H.size → H1[q]? = H[q]?) → va_S A0 H0 H1 locs1 → H1[q9]? = some ce → ce.vm = .none → s.vm.findClass E = some ce.cls → vx_W p l e R s m args below meth c H1 locs1 (cells + mc) (slots + ms) Q (F0 m pc ls rest) q9)
    (kk : ∀ (r : Int32) (u : S) (t : State) (H1 : Heap) (locs1 : List Loc), t.heap = H1 → s.vm.Alike t.vm → post r u → B u t → H.size ≤ H1.size → (∀ q : Nat, q < H.size → ¬ A1 q → H1[q]? = H[q]?) → va_S A0 H0 H1 locs1 → W p l e R s m args below meth c H1 locs1 (cells + mc) (slots + ms) Q (F0 m (pc + 3) ls (.int r :: rest))) : W p l e R s m args below meth c H locs cells slots Q (F0 m pc ls st0) :=
  vx_calli (vx_conv hr) hS hA hf (fun _ _ h => h.elim) (fun E ce q9 u t H1 locs1 ht hv _ hp hz hk hS1 h1 h2 h3 => kx hp hz (fun q h => hk q h (fun z => z)) hS1 h1 h2 h3) kk
theorem zx_wl {S : Type} {post : Int64 → S → Prop} {B : S → State → Prop} (hr : vx_Run p l e R s m args below meth c H locs cells slots mc ms (F0 m pc ls st0) rest (va_Ql post B A1 a) (XCE P) free) (hS : va_S A0 H0 H locs) (hA : ∀ q, q < H.size → A1 q → A0 q) (hf : ∀ q, free q → A0 q)
    (kx : ∀ {E : String} {ce : Cell} {q9 : Addr} {H1 : Heap} {locs1 : List Loc}, P E → H.size ≤ H1.size → (∀ q : Nat, q < H.size → H1[q]? = H[q]?) → va_S A0 H0 H1 locs1 → H1[q9]? = some ce → ce.vm = .none → s.vm.findClass E = some ce.cls → vx_W p l e R s m args below meth c H1 locs1 (cells + mc) (slots + ms) Q (F0 m pc ls rest) q9)
    (kk : ∀ (r : Int64) (u : S) (t : State) (H1 : Heap) (locs1 : List Loc), t.heap = H1 → s.vm.Alike t.vm → post r u → B u t → H.size ≤ H1.size → (∀ q : Nat, q < H.size → ¬ A1 q → H1[q]? = H[q]?) → va_S A0 H0 H1 locs1 → W p l e R s m args below meth c H1 locs1 (cells + mc) (slots + ms) Q (F0 m (pc + 3) ls (.long r :: rest))) : W p l e R s m args below meth c H locs cells slots Q (F0 m pc ls st0) :=
  vx_calll (vx_conv hr) hS hA hf (fun _ _ h => h.elim) (fun E ce q9 u t H1 locs1 ht hv _ hp hz hk hS1 h1 h2 h3 => kx hp hz (fun q h => hk q h (fun z => z)) hS1 h1 h2 h3) kk
end ZW
section MKL
variable {l : Launch} {y : MethodName} {ws ws' : List Cond} {rm : Room} {cc : ByteArray} {maxL : Nat} {av : List Value} {B : State → Prop} {mc ms : Nat} {XC : String → State → State → Prop} {hh : List (Nat × Nat × Nat × Nat)}
/-- a method with handlers, out of which nothing is thrown -/
theorem mkL_Qi {S : Type} {post : Int32 → S → Prop} {BQ : S → State → Prop} {A : Nat → Prop} (hy : plainName y.cls = true) (hw : ws = Cond.codeWith y cc maxL (some .int) hh :: ws') (hn : (lg_sl av).length ≤ maxL)
    (body : ∀ {p : Program} {e : Env} {s : State} {m : MethodId} {args : Array Value} {below : List Frame} {meth : Method} {c : Code} (Q : State → Prop), Cx p s m args meth c cc maxL (some .int) ws y.cls → c.exceptionTable.toList = tableOf hh → B s →
      (∀ {v : Int32} {u : S} {H : Heap} {locs : List Loc} {pc cells slots : Nat} {ls : Array Slot}, cells ≤ mc → slots ≤ ms → post v u → va_S A s.heap H locs → (∀ t : State, t.heap = H → s.vm.Alike t.vm → BQ u t) → decode cc pc = .ok (.ireturn, 1) → W p l e rm s m args below meth c H locs cells slots Q (F0 m pc ls [.int v])) →
      ∀ ls : Array Slot, lv_has ls maxL (lv_args 0 av) → W p l e rm s m args below meth c s.heap [] 0 0 Q (F0 m 0 ls [])) : vx_Met l y ws rm (va_Pc av B) (va_Qi post BQ A) XC mc ms A := by
  refine vx_ofWH (cc := cc) (maxL := maxL) (ret := some .int) (hh := hh) hy hw ?_
  intro p e s m args below meth c s₁ X hml hv
  obtain ⟨rfl, hB⟩ := hv
  have hts := atoms_spec (ws := ws) X.pre
  have htab := vx_table (x := y) X (hts _ (by rw [hw]; exact List.mem_cons_self))
  have hl := lv_entry av (n := maxL) hn
  rw [lg_entry_eq]
  generalize (lg_sl av ++ List.replicate (maxL - (lg_sl av).length) Slot.unset).toArray = ls at hl ⊢
  exact body _ ⟨X.exec, X.bytes, X.returns, hml, findClass_of_methodNamed X.named, hts, X.notSynchronized⟩ htab hB (fun hc hs hp hS hq hd => vx_ret (W.widen hc hs (W.iret X.exec X.bytes X.returns (fun t ht hW => ⟨⟨_, _, rfl, hp, hq t ht hW.alike⟩, hS.F ht⟩) hS.2.2 hd X.notSynchronized))) ls hl
end MKL
