/-! the two constructors -/
theorem rows_congr {c : ClassId} {N : Nat} {f g : Nat → Option Nat} (h : ∀ j, j < N → f j = g j) : vp_cell c (N, .inr (.inr (.inr (.inr f)))) = vp_cell c (N, .inr (.inr (.inr (.inr g)))) := by
  rw [vp_cell_q, vp_cell_q]
  unfold arrV
  congr 1
  exact congrArg Array.ofFn (funext fun j => congrArg va_rf (h j.val j.isLt))
/-- a word on arrays of arrays stays, as one on arrays of objects does -/
theorem va_AOA.moved {ty : FieldType} {u U : State} (hvm : u.vm.Alike U.vm) (h : va_AOA ty u) : va_AOA ty U := Stand.arrayOver_alikeB hvm h
section ZI
variable {p : Program} {l : Launch} {e : Env} {R : Room} {s : State} {m : MethodId} {args : Array Value} {below : List Frame} {meth : Method} {c : Code} {H : Heap} {locs : List Loc} {cells slots : Nat} {Q : State → Prop}
variable {cc : ByteArray} {pc : Nat} {ls : Array Slot} {rest : List Value} {D : va_G} {cl : List vw_C} {A : Nat → Prop} {tys : List (ClassId × FieldType)} {ws : va_W} {H0 : Heap}
/-- new int[N][K], its rows behind it in the world -/
theorem z_mna (hx : p.tables.exec = Jvm.exec) (hb : c.code = cc) {own : String} {index : Nat} {cy : ClassId} (hown : s.vm.findClass own = some m.cls) (hclink : (Cond.classLink own index ("[" ++ (FieldType.array .int).toString)).before args s = true) (hover : va_AOA .int s) (harr : (Cond.arrayClass .int).before args s = true) (hcy : s.vm.findClass (FieldType.array .int).toString = some cy)
    (hK : va_K D cl tys s) (hP : va_P D cl ws H) (hD : va_D A ws) (hS : va_S A H0 H locs) (hA : ∀ q, H0.size ≤ q → A q) {N K : Nat} (hN : N ≤ 1000) (hKK : K ≤ 1000) (hcells : cells + (1 + N) ≤ R.cells) (hslots : slots + (N + N * K) ≤ R.slots) (hdg : decode cc pc = .ok (.multianewarray index 2, 4))
    (kk : ∀ (q : Nat) (r : Nat → Nat) (cA : ClassId) (H1 : Heap), va_K D cl (tys ++ [(cA, .array .int)]) s → va_P D cl (ws ++ ((q, .inl (cA, N, .inr (.inr (.inr (.inr (fun i => if i < N then some (r i) else none)))))) :: (List.range N).map (fun i => (r i, .inl (cy, K, .inl (fun _ => nI 0)))))) H1 →
      va_D A (ws ++ ((q, .inl (cA, N, .inr (.inr (.inr (.inr (fun i => if i < N then some (r i) else none)))))) :: (List.range N).map (fun i => (r i, .inl (cy, K, .inl (fun _ => nI 0)))))) → va_S A H0 H1 locs →
      W p l e R s m args below meth c H1 locs (cells + 1 + N) (slots + N + N * K) Q (F0 m (pc + 4) ls (.ref q :: rest))) : W p l e R s m args below meth c H locs cells slots Q (F0 m pc ls (.int (nI K) :: .int (nI N) :: rest)) := by
  have e0 : ws ++ va_pl [] (fun _ => .inr (0, [])) = ws := List.append_nil ws
  refine va_mna (X := ws) (L := []) (f := fun _ => .inr (0, [])) (ty := .int) (z := (K, .inl (fun _ => nI 0))) hx hb hown hclink hover harr hcy hK (by rw [e0]; exact hP) (by rw [e0]; exact hD) hS hA (nI_pos (by omega)) (nI_pos (by omega)) (nI_clamp (by omega)) (nI_clamp (by omega)) (by omega) (by show K * 4 ≤ _; omega) (by omega) rfl rfl hcells hslots (fun c => (arrV_new c K (.int 0)).trans rfl) hdg (fun q r cA H1 hinj hnl hK1 hP1 hD1 hS1 => ?_)
  have e1 : va_pl ([] ++ (List.range N).map r) (vr_up (fun _ => .inr (0, [])) ((List.range N).map r) (.inl (cy, K, .inl (fun _ => nI 0)))) = (List.range N).map (fun i => (r i, .inl (cy, K, .inl (fun _ => nI 0)))) := by
    unfold va_pl
    rw [List.nil_append, List.map_map]
    refine List.map_congr_left (fun i hi => ?_)
    show (r i, vr_up _ _ _ (r i)) = _
    rw [vr_up_in (List.mem_map.mpr ⟨i, hi, rfl⟩)]
  rw [e1, List.append_assoc] at hP1 hD1
  exact kk q r cA H1 hK1 hP1 hD1 hS1
end ZI
section MKI
variable {l : Launch} {y : MethodName} {ws ws' : List Cond} {rm : Room} {cc : ByteArray} {maxL : Nat} {av : List Value} {B : State → Prop} {mc ms : Nat}
/-- a constructor -/
theorem mkI_Qv {S : Type} {post : S → Prop} {BQ : S → State → Prop} {A : Nat → Prop} (hy : plainName y.cls = true) (hw : ws = Cond.code y cc maxL none :: ws') (hn : (lg_sl av).length ≤ maxL) (hini : y.name = "<init>")
    (body : ∀ {p : Program} {e : Env} {s : State} {m : MethodId} {args : Array Value} {below : List Frame} {meth : Method} {c : Code} (Q : State → Prop), Cx p s m args meth c cc maxL none ws y.cls → meth.name = "<init>" → B s →
      (∀ {u : S} {H : Heap} {locs : List Loc} {pc cells slots : Nat} {ls : Array Slot}, cells ≤ mc → slots ≤ ms → post u → va_S A s.heap H locs → (∀ t : State, t.heap = H → s.vm.Alike t.vm → BQ u t) → decode cc pc = .ok (.return_, 1) → W p l e rm s m args below meth c H locs cells slots Q (F0 m pc ls [])) →
      ∀ ls : Array Slot, lv_has ls maxL (lv_args 0 av) → W p l e rm s m args below meth c s.heap [] 0 0 Q (F0 m 0 ls [])) : Met l y ws rm (va_Pc av B) (va_Qv post BQ A) mc ms A := by
  refine Met.ofW (cc := cc) (maxL := maxL) (ret := none) hy hw ?_
  intro p e s m args below meth c s₁ X hml hv
  obtain ⟨rfl, hB⟩ := hv
  have hl := lv_entry av (n := maxL) hn
  rw [lg_entry_eq]
  generalize (lg_sl av ++ List.replicate (maxL - (lg_sl av).length) Slot.unset).toArray = ls at hl ⊢
  exact body _ ⟨X.exec, X.bytes, X.returns, hml, findClass_of_methodNamed X.named, atoms_spec (ws := ws) X.pre, X.notSynchronized⟩ ((name_of_methodNamed X.named X.method).1.trans hini) hB (fun hc hs hp hS hq hd => W.widen hc hs (W.vret X.exec X.bytes X.returns (fun t ht hW => ⟨⟨_, rfl, hp, hq t ht hW.alike⟩, hS.F ht⟩) hS.2.2 hd X.notSynchronized)) ls hl
end MKI
/-- a new object's own cells -/
def aIn (h0 sz : Nat) : Nat → Prop := fun q => q = h0 ∨ sz ≤ q
def Mz : Mdl := fun _ _ => 0
def rrow (M : Mdl) (f : Nat) : Nat → Mdl
  | 0 => M
  | t + 1 => mup (rrow M f t) (12 + 3 * f) t 100
def rall : Nat → Mdl
  | 0 => Mz
  | f + 1 => rrow (rall f) f 3
def rflat : Nat → Mdl
  | 0 => Mz
  | k + 1 => mup (rflat k) (12 + 3 * (k / 3)) (k % 3) 100
theorem rflat_9 : rflat 9 = rall 3 := rfl

