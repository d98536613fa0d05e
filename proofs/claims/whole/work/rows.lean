section
-- ===== PART A: goes FIRST, ahead of the names: the tables' words, and 'selects' of the private methods out of them =====
/-- a private method of a class that the tables say can be made, by its rows of tables_1 -/
def lw_okq (q : MethodName × Nat) : Prop := (q.1.cls ≠ "java/lang/invoke/MethodHandle" ∧ q.1.cls ≠ "java/lang/invoke/VarHandle") ∧ Cond.instantiable q.1.cls q.2 ∈ tables_1 ∧ Cond.privateMethod q.1 ∈ tables_1 ∧ Cond.instanceMethod q.1 ∈ tables_1
theorem lw_p0 : lw_okq (⟨"java/lang/Throwable", "fillInStackTrace", "(I)Ljava/lang/Throwable;"⟩, 6) := ⟨⟨by decide +kernel, by decide +kernel⟩, List.mem_of_getElem? (i := 118) (by decide +kernel), List.mem_of_getElem? (i := 116) (by decide +kernel), List.mem_of_getElem? (i := 117) (by decide +kernel)⟩
theorem lw_p1 : lw_okq (⟨"WellField", "unitsOfYear", "(II)I"⟩, 12) := ⟨⟨by decide +kernel, by decide +kernel⟩, List.mem_of_getElem? (i := 11) (by decide +kernel), List.mem_of_getElem? (i := 225) (by decide +kernel), List.mem_of_getElem? (i := 226) (by decide +kernel)⟩
theorem lw_p2 : lw_okq (⟨"WellField", "loweredIn", "(II)J"⟩, 12) := ⟨⟨by decide +kernel, by decide +kernel⟩, List.mem_of_getElem? (i := 11) (by decide +kernel), List.mem_of_getElem? (i := 246) (by decide +kernel), List.mem_of_getElem? (i := 247) (by decide +kernel)⟩
theorem lw_p3 : lw_okq (⟨"WellField", "reachOf", "(II)I"⟩, 12) := ⟨⟨by decide +kernel, by decide +kernel⟩, List.mem_of_getElem? (i := 11) (by decide +kernel), List.mem_of_getElem? (i := 250) (by decide +kernel), List.mem_of_getElem? (i := 251) (by decide +kernel)⟩
theorem lw_p4 : lw_okq (⟨"WellField", "tableNumber", "(II)I"⟩, 12) := ⟨⟨by decide +kernel, by decide +kernel⟩, List.mem_of_getElem? (i := 11) (by decide +kernel), List.mem_of_getElem? (i := 257) (by decide +kernel), List.mem_of_getElem? (i := 258) (by decide +kernel)⟩
theorem lw_p5 : lw_okq (⟨"WellField", "layPulse", "(III)V"⟩, 12) := ⟨⟨by decide +kernel, by decide +kernel⟩, List.mem_of_getElem? (i := 11) (by decide +kernel), List.mem_of_getElem? (i := 268) (by decide +kernel), List.mem_of_getElem? (i := 269) (by decide +kernel)⟩
theorem lw_p6 : lw_okq (⟨"WellField", "thousandthsLeft", "(II)J"⟩, 12) := ⟨⟨by decide +kernel, by decide +kernel⟩, List.mem_of_getElem? (i := 11) (by decide +kernel), List.mem_of_getElem? (i := 286) (by decide +kernel), List.mem_of_getElem? (i := 287) (by decide +kernel)⟩
theorem lw_p7 : lw_okq (⟨"WellField", "unitsLeft", "(III)J"⟩, 12) := ⟨⟨by decide +kernel, by decide +kernel⟩, List.mem_of_getElem? (i := 11) (by decide +kernel), List.mem_of_getElem? (i := 298) (by decide +kernel), List.mem_of_getElem? (i := 299) (by decide +kernel)⟩
theorem lw_p8 : lw_okq (⟨"WellField", "loweredInAll", "(III)J"⟩, 12) := ⟨⟨by decide +kernel, by decide +kernel⟩, List.mem_of_getElem? (i := 11) (by decide +kernel), List.mem_of_getElem? (i := 315) (by decide +kernel), List.mem_of_getElem? (i := 316) (by decide +kernel)⟩
theorem lw_p9 : lw_okq (⟨"WellField", "takenOfMonthsBefore", "(III)I"⟩, 12) := ⟨⟨by decide +kernel, by decide +kernel⟩, List.mem_of_getElem? (i := 11) (by decide +kernel), List.mem_of_getElem? (i := 326) (by decide +kernel), List.mem_of_getElem? (i := 327) (by decide +kernel)⟩
theorem lw_p10 : lw_okq (⟨"WellField", "burdenOfUnits", "(III)J"⟩, 12) := ⟨⟨by decide +kernel, by decide +kernel⟩, List.mem_of_getElem? (i := 11) (by decide +kernel), List.mem_of_getElem? (i := 361) (by decide +kernel), List.mem_of_getElem? (i := 362) (by decide +kernel)⟩
theorem lw_p11 : lw_okq (⟨"WellField", "needTwoWells", "(II)V"⟩, 12) := ⟨⟨by decide +kernel, by decide +kernel⟩, List.mem_of_getElem? (i := 11) (by decide +kernel), List.mem_of_getElem? (i := 372) (by decide +kernel), List.mem_of_getElem? (i := 373) (by decide +kernel)⟩
theorem lw_p12 : lw_okq (⟨"WellField", "canTrade", "(III)Z"⟩, 12) := ⟨⟨by decide +kernel, by decide +kernel⟩, List.mem_of_getElem? (i := 11) (by decide +kernel), List.mem_of_getElem? (i := 377) (by decide +kernel), List.mem_of_getElem? (i := 378) (by decide +kernel)⟩
theorem lw_p13 : lw_okq (⟨"WellField", "unitsGot", "(III)I"⟩, 12) := ⟨⟨by decide +kernel, by decide +kernel⟩, List.mem_of_getElem? (i := 11) (by decide +kernel), List.mem_of_getElem? (i := 381) (by decide +kernel), List.mem_of_getElem? (i := 382) (by decide +kernel)⟩
theorem lw_p14 : lw_okq (⟨"WellFieldModel", "mayBoth", "(ZZ)Z"⟩, 11) := ⟨⟨by decide +kernel, by decide +kernel⟩, List.mem_of_getElem? (i := 392) (by decide +kernel), List.mem_of_getElem? (i := 443) (by decide +kernel), List.mem_of_getElem? (i := 444) (by decide +kernel)⟩
theorem lw_p15 : lw_okq (⟨"WellFieldModel", "isWell", "(I)Z"⟩, 11) := ⟨⟨by decide +kernel, by decide +kernel⟩, List.mem_of_getElem? (i := 392) (by decide +kernel), List.mem_of_getElem? (i := 467) (by decide +kernel), List.mem_of_getElem? (i := 468) (by decide +kernel)⟩
def lw_privs_1 : List (MethodName × Nat) := [(⟨"java/lang/Throwable", "fillInStackTrace", "(I)Ljava/lang/Throwable;"⟩, 6), (⟨"WellField", "unitsOfYear", "(II)I"⟩, 12), (⟨"WellField", "loweredIn", "(II)J"⟩, 12), (⟨"WellField", "reachOf", "(II)I"⟩, 12), (⟨"WellField", "tableNumber", "(II)I"⟩, 12), (⟨"WellField", "layPulse", "(III)V"⟩, 12), (⟨"WellField", "thousandthsLeft", "(II)J"⟩, 12), (⟨"WellField", "unitsLeft", "(III)J"⟩, 12), (⟨"WellField", "loweredInAll", "(III)J"⟩, 12), (⟨"WellField", "takenOfMonthsBefore", "(III)I"⟩, 12), (⟨"WellField", "burdenOfUnits", "(III)J"⟩, 12), (⟨"WellField", "needTwoWells", "(II)V"⟩, 12), (⟨"WellField", "canTrade", "(III)Z"⟩, 12), (⟨"WellField", "unitsGot", "(III)I"⟩, 12), (⟨"WellFieldModel", "mayBoth", "(ZZ)Z"⟩, 11), (⟨"WellFieldModel", "isWell", "(I)Z"⟩, 11)]
theorem lw_r1 : ∀ q ∈ lw_privs_1, lw_okq q := List.forall_mem_cons.mpr ⟨lw_p0, List.forall_mem_cons.mpr ⟨lw_p1, List.forall_mem_cons.mpr ⟨lw_p2, List.forall_mem_cons.mpr ⟨lw_p3, List.forall_mem_cons.mpr ⟨lw_p4, List.forall_mem_cons.mpr ⟨lw_p5, List.forall_mem_cons.mpr ⟨lw_p6, List.forall_mem_cons.mpr ⟨lw_p7, List.forall_mem_cons.mpr ⟨lw_p8, List.forall_mem_cons.mpr ⟨lw_p9, List.forall_mem_cons.mpr ⟨lw_p10, List.forall_mem_cons.mpr ⟨lw_p11, List.forall_mem_cons.mpr ⟨lw_p12, List.forall_mem_cons.mpr ⟨lw_p13, List.forall_mem_cons.mpr ⟨lw_p14, List.forall_mem_cons.mpr ⟨lw_p15, fun _ h => absurd h List.not_mem_nil⟩⟩⟩⟩⟩⟩⟩⟩⟩⟩⟩⟩⟩⟩⟩⟩
theorem lw_p16 : lw_okq (⟨"WellFieldModel", "may", "(Z)Z"⟩, 11) := ⟨⟨by decide +kernel, by decide +kernel⟩, List.mem_of_getElem? (i := 392) (by decide +kernel), List.mem_of_getElem? (i := 485) (by decide +kernel), List.mem_of_getElem? (i := 486) (by decide +kernel)⟩
theorem lw_p17 : lw_okq (⟨"WellFieldModel", "pumpedIn", "(II)I"⟩, 11) := ⟨⟨by decide +kernel, by decide +kernel⟩, List.mem_of_getElem? (i := 392) (by decide +kernel), List.mem_of_getElem? (i := 489) (by decide +kernel), List.mem_of_getElem? (i := 490) (by decide +kernel)⟩
theorem lw_p18 : lw_okq (⟨"WellFieldModel", "isWatch", "(I)Z"⟩, 11) := ⟨⟨by decide +kernel, by decide +kernel⟩, List.mem_of_getElem? (i := 392) (by decide +kernel), List.mem_of_getElem? (i := 501) (by decide +kernel), List.mem_of_getElem? (i := 502) (by decide +kernel)⟩
theorem lw_p19 : lw_okq (⟨"WellFieldModel", "drawdownOf", "(II)J"⟩, 11) := ⟨⟨by decide +kernel, by decide +kernel⟩, List.mem_of_getElem? (i := 392) (by decide +kernel), List.mem_of_getElem? (i := 505) (by decide +kernel), List.mem_of_getElem? (i := 506) (by decide +kernel)⟩
theorem lw_p20 : lw_okq (⟨"WellFieldModel", "answer", "(III)I"⟩, 11) := ⟨⟨by decide +kernel, by decide +kernel⟩, List.mem_of_getElem? (i := 392) (by decide +kernel), List.mem_of_getElem? (i := 509) (by decide +kernel), List.mem_of_getElem? (i := 510) (by decide +kernel)⟩
theorem lw_p21 : lw_okq (⟨"WellFieldModel", "takenBy", "(III)I"⟩, 11) := ⟨⟨by decide +kernel, by decide +kernel⟩, List.mem_of_getElem? (i := 392) (by decide +kernel), List.mem_of_getElem? (i := 539) (by decide +kernel), List.mem_of_getElem? (i := 540) (by decide +kernel)⟩
theorem lw_p22 : lw_okq (⟨"WellFieldModel", "allOf", "(II)I"⟩, 11) := ⟨⟨by decide +kernel, by decide +kernel⟩, List.mem_of_getElem? (i := 392) (by decide +kernel), List.mem_of_getElem? (i := 559) (by decide +kernel), List.mem_of_getElem? (i := 560) (by decide +kernel)⟩
theorem lw_p23 : lw_okq (⟨"WellFieldModel", "can", "(III)Z"⟩, 11) := ⟨⟨by decide +kernel, by decide +kernel⟩, List.mem_of_getElem? (i := 392) (by decide +kernel), List.mem_of_getElem? (i := 567) (by decide +kernel), List.mem_of_getElem? (i := 568) (by decide +kernel)⟩
theorem lw_p24 : lw_okq (⟨"WellFieldModel", "got", "(III)I"⟩, 11) := ⟨⟨by decide +kernel, by decide +kernel⟩, List.mem_of_getElem? (i := 392) (by decide +kernel), List.mem_of_getElem? (i := 571) (by decide +kernel), List.mem_of_getElem? (i := 572) (by decide +kernel)⟩
theorem lw_p25 : lw_okq (⟨"WellFieldModel", "mayAll", "(ZZZ)Z"⟩, 11) := ⟨⟨by decide +kernel, by decide +kernel⟩, List.mem_of_getElem? (i := 392) (by decide +kernel), List.mem_of_getElem? (i := 575) (by decide +kernel), List.mem_of_getElem? (i := 576) (by decide +kernel)⟩
def lw_privs_2 : List (MethodName × Nat) := [(⟨"WellFieldModel", "may", "(Z)Z"⟩, 11), (⟨"WellFieldModel", "pumpedIn", "(II)I"⟩, 11), (⟨"WellFieldModel", "isWatch", "(I)Z"⟩, 11), (⟨"WellFieldModel", "drawdownOf", "(II)J"⟩, 11), (⟨"WellFieldModel", "answer", "(III)I"⟩, 11), (⟨"WellFieldModel", "takenBy", "(III)I"⟩, 11), (⟨"WellFieldModel", "allOf", "(II)I"⟩, 11), (⟨"WellFieldModel", "can", "(III)Z"⟩, 11), (⟨"WellFieldModel", "got", "(III)I"⟩, 11), (⟨"WellFieldModel", "mayAll", "(ZZZ)Z"⟩, 11)]
theorem lw_r2 : ∀ q ∈ lw_privs_2, lw_okq q := List.forall_mem_cons.mpr ⟨lw_p16, List.forall_mem_cons.mpr ⟨lw_p17, List.forall_mem_cons.mpr ⟨lw_p18, List.forall_mem_cons.mpr ⟨lw_p19, List.forall_mem_cons.mpr ⟨lw_p20, List.forall_mem_cons.mpr ⟨lw_p21, List.forall_mem_cons.mpr ⟨lw_p22, List.forall_mem_cons.mpr ⟨lw_p23, List.forall_mem_cons.mpr ⟨lw_p24, List.forall_mem_cons.mpr ⟨lw_p25, fun _ h => absurd h List.not_mem_nil⟩⟩⟩⟩⟩⟩⟩⟩⟩⟩
def lw_privs : List (MethodName × Nat) := lw_privs_1 ++ (lw_privs_2)
def lw_tbl : List Cond := k2_sels lw_privs ++ tables_1
theorem lw_privs_ok : ∀ q ∈ lw_privs, lw_okq q := by
  show ∀ q ∈ lw_privs_1 ++ (lw_privs_2), lw_okq q
  exact List.forall_mem_append.mpr ⟨lw_r1, lw_r2⟩
-- ===== end of PART A; then your names; then what follows =====
end
section
/-! ===== BEGIN words of one list among another's, by their places ===== -/
theorem goodIn_r {big : List Cond} (ws : List Cond) (ps : List Nat) (hp : ws = ps.filterMap (fun i => big[i]?)) (h : ws.all goodWord = true) : GoodIn big ws := by
  intro w hw
  have h1 := List.all_eq_true.mp h w hw
  rw [hp] at hw
  obtain ⟨i, -, hi⟩ := List.mem_filterMap.mp hw
  have hm : w ∈ big := by first | exact List.mem_of_getElem? hi | exact List.getElem?_mem hi
  exact ⟨hm, good_of_word h1⟩
theorem goodIn_app {big a b : List Cond} (ha : GoodIn big a) (hb : GoodIn big b) : GoodIn big (a ++ b) := fun w h => (List.mem_append.mp h).elim (ha w) (hb w)
theorem goodIn_ca {big a b : List Cond} {c : Cond} (ha : GoodIn big (c :: a)) (hb : GoodIn big b) : GoodIn big (c :: (a ++ b)) := fun w h => (List.mem_cons.mp h).elim (fun e => ha w (List.mem_cons.mpr (Or.inl e))) (fun h => (List.mem_append.mp h).elim (fun h => ha w (List.mem_cons.mpr (Or.inr h))) (hb w))
theorem goodIn_sub {big ws : List Cond} (hm : ∀ w ∈ ws, w ∈ big) (h : ws.all goodWord = true) : GoodIn big ws := fun w hw => ⟨hm w hw, good_of_word (List.all_eq_true.mp h w hw)⟩
/-! ===== END ===== -/

/-! ===== BEGIN new T[n][m]: the outer array a place, the inner ones among the pooled ===== -/
def va_AOA (ty : FieldType) (U : State) : Prop := (Cond.arrayOver (.array ty)).before #[] U = true
theorem va_AOA.of {ty : FieldType} {A : Array Value} {U : State} (h : (Cond.arrayOver (.array ty)).before A U = true) : va_AOA ty U := h
theorem va_AOA.use {ty : FieldType} {A : Array Value} {U : State} (h : va_AOA ty U) : (Cond.arrayOver (.array ty)).before A U = true := h
/-- f, but v at every address of l -/
def vr_up {α : Type} (f : Nat → α) (l : List Nat) (v : α) : Nat → α := fun a => if a ∈ l then v else f a
theorem vr_up_in {α : Type} {f : Nat → α} {l : List Nat} {v : α} {a : Nat} (h : a ∈ l) : vr_up f l v a = v := if_pos h
theorem vr_up_ne {α : Type} {f : Nat → α} {l : List Nat} {v : α} {a : Nat} (h : a ∉ l) : vr_up f l v a = f a := if_neg h
theorem vr_rows {L l : List Nat} {f : Nat → va_E} {e : va_E} (h : ∀ a, a ∈ l → a ∉ L) : va_pl L f ++ l.map (fun a => (a, e)) = va_pl (L ++ l) (vr_up f l e) := by
  unfold va_pl
  rw [List.map_append]
  congr 1
  · apply List.map_congr_left
    intro a ha
    rw [vr_up_ne (fun q => h a q ha)]
  · apply List.map_congr_left
    intro a ha
    rw [vr_up_in ha]
theorem vr_lay {X rows : va_W} {x : Nat × va_E} {pl : va_W} {D : va_G} {cl : List vw_C} {H : Heap} (hP : va_P D cl (((X ++ pl) ++ [x]) ++ rows) H) : va_P D cl ((X ++ [x]) ++ (pl ++ rows)) H := by
  rw [List.append_assoc (X ++ pl)] at hP
  have h := va_P.swap hP
  rw [← List.append_assoc X] at h
  have h2 := va_P.swap h
  rw [List.append_assoc (X ++ [x])] at h2
  exact h2
theorem vr_layD {X rows : va_W} {x : Nat × va_E} {pl : va_W} {A : Nat → Prop} (hD : va_D A (((X ++ pl) ++ [x]) ++ rows)) : va_D A ((X ++ [x]) ++ (pl ++ rows)) := by
  rw [List.append_assoc (X ++ pl)] at hD
  have h := va_D.swap hD
  rw [← List.append_assoc X] at h
  have h2 := va_D.swap h
  rw [List.append_assoc (X ++ [x])] at h2
  exact h2
theorem vr_outer (c : ClassId) (N h0 : Nat) : ∀ i : Nat, Jvm.Free.Multi.outerC c N h0 i = arrV c N (fun j => va_rf (if j < i then some (h0 + 1 + j) else none))
  | 0 => by
    show ({ cls := c, slots := Array.replicate N .null, vm := .none } : Cell) = _
    rw [arrV_new]
    refine congrArg (arrV c N) (funext fun j => ?_)
    simp [va_rf]
  | i + 1 => by
    show (Jvm.Free.Multi.outerC c N h0 i).setSlot i (.ref (h0 + 1 + i)) = _
    rw [vr_outer c N h0 i, arrV_store]
    refine congrArg (arrV c N) (funext fun j => ?_)
    by_cases e : j = i
    · subst e
      simp [updV, va_rf]
    · by_cases h : j < i
      · simp [updV, e, h, Nat.lt_succ_of_lt h]
      · simp [updV, e, h, show ¬ j < i + 1 by omega]
section VGM
variable {p : Program} {l : Launch} {e : Env} {R : Room} {s : State} {m : MethodId} {args : Array Value} {below : List Frame} {meth : Method} {c : Code} {H : Heap} {locs : List Loc} {cells slots : Nat} {Q : State → Prop}
variable {cc : ByteArray} {pc : Nat} {ls : Array Slot} {rest : List Value} {D : va_G} {cl : List vw_C} {A : Nat → Prop} {a : Nat} {tys : List (ClassId × FieldType)} {ws : va_W} {H0 : Heap}
theorem va_mna {X : va_W} {L : List Nat} {f : Nat → va_E} {cc : ByteArray} (hexec : p.tables.exec = Jvm.exec) (hb : c.code = cc) {own : String} {index : Nat} {ty : FieldType} {cy : ClassId} (hown : s.vm.findClass own = some m.cls) (hclink : (Cond.classLink own index ("[" ++ (FieldType.array ty).toString)).before args s = true) (hover : va_AOA ty s) (harr : (Cond.arrayClass ty).before args s = true) (hcy : s.vm.findClass (FieldType.array ty).toString = some cy)
    (hK : va_K D cl tys s) (hP : va_P D cl (X ++ va_pl L f) H) (hD : va_D A (X ++ va_pl L f)) (hS : va_S A H0 H locs) (hA : ∀ q, H0.size ≤ q → A q) {n k : Int32} {N' K' : Nat} {z : vp_A} (hn : ¬ n < 0) (hk : ¬ k < 0) (hN : n.toNatClampNeg = N') (hM : k.toNatClampNeg = K')
    (hb1 : N' * 4 ≤ 536870912) (hb2 : K' * componentBytes ty ≤ 536870912) (hb3 : K' ≤ 536870912) (hdf : fits ty (defaultValue ty) = true) (hdd : (defaultValue ty).isDefault = true) (hcells : cells + (1 + N') ≤ R.cells) (hslots : slots + (N' + N' * K') ≤ R.slots) (hz : ∀ c : ClassId, Jvm.Free.Multi.innerC c K' (defaultValue ty) = vp_cell c z) (hdg : decode cc pc = .ok (.multianewarray index 2, 4))
    (kk : ∀ (q : Nat) (r : Nat → Nat) (cA : ClassId) (H1 : Heap), (∀ i j : Nat, i < N' → j < N' → r i = r j → i = j) → (∀ i : Nat, i < N' → r i ∉ L) → va_K D cl (tys ++ [(cA, .array ty)]) s →
      va_P D cl ((X ++ [(q, .inl (cA, N', .inr (.inr (.inr (.inr (fun i => if i < N' then some (r i) else none))))))]) ++ va_pl (L ++ (List.range N').map r) (vr_up f ((List.range N').map r) (.inl (cy, z)))) H1 → va_D A ((X ++ [(q, .inl (cA, N', .inr (.inr (.inr (.inr (fun i => if i < N' then some (r i) else none))))))]) ++ va_pl (L ++ (List.range N').map r) (vr_up f ((List.range N').map r) (.inl (cy, z)))) → va_S A H0 H1 locs →
      W p l e R s m args below meth c H1 locs (cells + 1 + N') (slots + N' + N' * K') Q (F0 m (pc + 4) ls (.ref q :: rest))) : W p l e R s m args below meth c H locs cells slots Q (F0 m pc ls (.int k :: .int n :: rest)) := by
  subst hN
  subst hM
  intro T hT Xs
  obtain ⟨vm₁, cA, comp, -, fA, fC, hO, -, X', step⟩ := Xs.multianewarray2F hexec hown hclink (va_AOA.use hover) harr (g := F0 m pc ls (.int k :: .int n :: rest)) rfl (by rw [hb]; exact hdg) rfl hn hk hb1 hb2 hb3 hdf hdd hcells hslots
  have ec : some cy = some comp := hcy.symm.trans fC
  cases ec
  generalize hF : Jvm.Free.Multi.fill (T.setVm vm₁) cA cy n.toNatClampNeg k.toNatClampNeg (defaultValue ty) n.toNatClampNeg = F at X' step
  have hTh : (T.setVm vm₁).heap = H := hT
  obtain ⟨f1, f2, -, -⟩ := Jvm.Free.Multi.fill_facts (T.setVm vm₁) cA cy n.toNatClampNeg k.toNatClampNeg (defaultValue ty) n.toNatClampNeg
  rw [hF, hTh] at f1 f2
  have hold : ∀ x : Nat, x < H.size → F.heap[x]? = H[x]? := fun x hx => by
    have := Jvm.Free.Multi.fill_old (T.setVm vm₁) cA cy n.toNatClampNeg k.toNatClampNeg (defaultValue ty) (a := x) (by rw [hTh]; exact hx) n.toNatClampNeg
    rw [hF, hTh] at this
    exact this
  have hrow : ∀ j : Nat, j < n.toNatClampNeg → F.heap[H.size + 1 + j]? = some (vp_cell cy z) := fun j hj => by
    have := Jvm.Free.Multi.fill_inner (T.setVm vm₁) cA cy n.toNatClampNeg k.toNatClampNeg (defaultValue ty) n.toNatClampNeg j hj
    rw [hF, hTh, hz] at this
    exact this
  have hout : Jvm.Free.Multi.outerC cA n.toNatClampNeg H.size n.toNatClampNeg = vp_cell cA (n.toNatClampNeg, .inr (.inr (.inr (.inr (fun i => if i < n.toNatClampNeg then some (H.size + 1 + i) else none))))) := by
    rw [vp_cell_q]
    exact vr_outer cA n.toNatClampNeg H.size n.toNatClampNeg
  rw [hout] at f2
  have hlt : ∀ a, a ∈ L → a < H.size := fun a ha => by
    obtain ⟨k9, hk9⟩ := va_pl_get (X := X) (f := f) ha
    exact (hP k9 _ hk9).lt
  have hnl : ∀ i : Nat, i < n.toNatClampNeg → H.size + 1 + i ∉ L := fun i _ h => by
    have := hlt _ h
    omega
  have hnm : ∀ a, a ∈ (List.range n.toNatClampNeg).map (fun i => H.size + 1 + i) → a ∉ L := fun a ha h => by
    obtain ⟨i, -, rfl⟩ := List.mem_map.mp ha
    have := hlt _ h
    omega
  have hP0 : va_P D cl (X ++ va_pl L f) F.heap := hP.kept (fun k9 x hx => hold x.1 ((hP k9 x hx).lt))
  have hP1 : va_P D cl ((X ++ va_pl L f) ++ [(H.size, .inl (cA, n.toNatClampNeg, .inr (.inr (.inr (.inr (fun i => if i < n.toNatClampNeg then some (H.size + 1 + i) else none))))))]) F.heap := hP0.app (fun k9 x hx => by
    have h0 : k9 < 1 := (List.getElem?_eq_some_iff.mp hx).1
    rw [show k9 = 0 by omega] at hx
    cases hx
    exact f2)
  have hP2 : va_P D cl (((X ++ va_pl L f) ++ [(H.size, .inl (cA, n.toNatClampNeg, .inr (.inr (.inr (.inr (fun i => if i < n.toNatClampNeg then some (H.size + 1 + i) else none))))))]) ++ ((List.range n.toNatClampNeg).map (fun i => H.size + 1 + i)).map (fun a => (a, .inl (cy, z)))) F.heap := hP1.app (fun k9 x hx => by
    obtain ⟨a, ha, rfl⟩ := List.mem_map.mp (List.mem_of_getElem? hx)
    obtain ⟨i, hi, rfl⟩ := List.mem_map.mp ha
    exact hrow i (List.mem_range.mp hi))
  have hD2 : va_D A (((X ++ va_pl L f) ++ [(H.size, .inl (cA, n.toNatClampNeg, .inr (.inr (.inr (.inr (fun i => if i < n.toNatClampNeg then some (H.size + 1 + i) else none))))))]) ++ ((List.range n.toNatClampNeg).map (fun i => H.size + 1 + i)).map (fun a => (a, .inl (cy, z)))) := by
    have hD1 := hD.push (e := .inl (cA, n.toNatClampNeg, .inr (.inr (.inr (.inr (fun i => if i < n.toNatClampNeg then some (H.size + 1 + i) else none)))))) hP rfl (hA _ hS.1)
    generalize hW1 : (X ++ va_pl L f) ++ [(H.size, .inl (cA, n.toNatClampNeg, .inr (.inr (.inr (.inr (fun i => if i < n.toNatClampNeg then some (H.size + 1 + i) else none))))))] = W1 at hD1 hP1 ⊢
    have hle : ∀ (k9 : Nat) (x : Nat × va_E), W1[k9]? = some x → x.1 ≤ H.size := fun k9 x hx => by
      rw [← hW1] at hx
      by_cases hl : k9 < (X ++ va_pl L f).length
      · rw [List.getElem?_append_left hl] at hx
        exact Nat.le_of_lt ((hP k9 x hx).lt)
      · rw [List.getElem?_append_right (by omega)] at hx
        have h0 : k9 - (X ++ va_pl L f).length < 1 := (List.getElem?_eq_some_iff.mp hx).1
        rw [show k9 - (X ++ va_pl L f).length = 0 by omega] at hx
        cases hx
        exact Nat.le_refl _
    have hr : ∀ (k9 : Nat) (x : Nat × va_E), (((List.range n.toNatClampNeg).map (fun i => H.size + 1 + i)).map (fun a => ((a, .inl (cy, z)) : Nat × va_E)))[k9]? = some x → x.1 = H.size + 1 + k9 := fun k9 x hx => by
      rw [List.getElem?_map, List.getElem?_map] at hx
      by_cases h9 : k9 < n.toNatClampNeg
      · rw [List.getElem?_range h9] at hx
        cases hx
        rfl
      · have hn0 : (List.range n.toNatClampNeg)[k9]? = none := List.getElem?_eq_none (by rw [List.length_range]; omega)
        rw [hn0] at hx
        cases hx
    refine ⟨fun i j x y hi hj hxy => ?_, fun k9 x hx => ?_⟩
    · by_cases h1 : i < W1.length <;> by_cases h2 : j < W1.length
      · rw [List.getElem?_append_left h1] at hi
        rw [List.getElem?_append_left h2] at hj
        exact hD1.1 i j x y hi hj hxy
      · rw [List.getElem?_append_left h1] at hi
        rw [List.getElem?_append_right (by omega)] at hj
        have := hle _ _ hi
        have := hr _ _ hj
        omega
      · rw [List.getElem?_append_right (by omega)] at hi
        rw [List.getElem?_append_left h2] at hj
        have := hle _ _ hj
        have := hr _ _ hi
        omega
      · rw [List.getElem?_append_right (by omega)] at hi hj
        have := hr _ _ hi
        have := hr _ _ hj
        omega
    · by_cases h1 : k9 < W1.length
      · rw [List.getElem?_append_left h1] at hx
        exact hD1.2 k9 x hx
      · rw [List.getElem?_append_right (by omega)] at hx
        have := hr _ _ hx
        exact hA _ (by have := hS.1; omega)
  have hAr : ArrOfT s cA (.array ty) := fun N9 z9 => by
    obtain ⟨-, k9, hk9, cm9, hkk9⟩ := (hO 0 0 0).1
    exact ⟨(fun q hq => by cases hq), k9, hk9, cm9, hkk9⟩
  have hK2 : va_K D cl (tys ++ [(cA, .array ty)]) s := ⟨hK.1, fun k9 x hx => by
    by_cases hl : k9 < tys.length
    · rw [List.getElem?_append_left hl] at hx
      exact hK.2 k9 x hx
    · rw [List.getElem?_append_right (by omega)] at hx
      have h0 : k9 - tys.length < 1 := (List.getElem?_eq_some_iff.mp hx).1
      rw [show k9 - tys.length = 0 by omega] at hx
      cases hx
      exact ⟨hAr, fA⟩⟩
  obtain ⟨t, a1, b1⟩ := kk H.size (fun i => H.size + 1 + i) cA F.heap (fun i j _ _ h => by have h9 : H.size + 1 + i = H.size + 1 + j := h; omega) hnl hK2 (by rw [← vr_rows hnm]; exact vr_lay hP2) (by rw [← vr_rows hnm]; exact vr_layD hD2) ⟨by rw [f1]; have := hS.1; omega, fun x h1 h2 => (hold x (Nat.lt_of_lt_of_le h1 hS.1)).trans (hS.2.1 x h1 h2), hS.2.2⟩ F rfl X'
  refine ⟨t, step t ?_, b1⟩
  have e : T.heap.size = H.size := by rw [hT]
  rw [e]
  exact a1
end VGM
/-! ===== END ===== -/

/-! ===== BEGIN exceptions that leave a method, and their catching by the caller (launches without stack traces) ===== -/
section VXA
/-! The laws vx_back, vx_callV, vx_callS, vx_callSW, vx_throw0, vx_throwS follow proofs of the library, with one case more: JvmDerived/Free/Laws.lean (Back.of_free), Shelf42/LK1.lean (callV, callS), Shelf/KitTraced.lean (throwNew0V, throwNewS). -/
/-- where a method has thrown q: the class by its name, the cell, what was written, the world -/
def vx_T (XC : String → State → State → Prop) (st : State) (q : Addr) (t : State) (mc ms : Nat) (free : Addr → Prop) : Prop :=
  ∃ (E : String) (ce : Cell) (L : List Loc), XC E st t ∧ t.heap[q]? = some ce ∧ ce.vm = .none ∧ st.vm.findClass E = some ce.cls ∧ st.WarmedH t.vm ∧ st.sameButNew ({ t with vm := st.vm } : State) L mc ms ∧ ∀ z ∈ L, free z.base
def vx_Q (Qc : Array Value → State → Outcome → State → Prop) (XC : String → State → State → Prop) (mc ms : Nat) (free : Addr → Prop) : Array Value → State → Outcome → State → Prop := fun a st o t =>
  (Qc a st o t ∧ ∃ L, FrameEnd st o t L mc ms ∧ ∀ q ∈ L, free q.base) ∨ ∃ q, o = .threw q ∧ vx_T XC st q t mc ms free
/-- a callee that returns or throws -/
def vx_Met (l : Launch) (y : MethodName) (ws : List Cond) (rm : Room) (Pc : Array Value → State → Prop) (Qc : Array Value → State → Outcome → State → Prop) (XC : String → State → State → Prop) (mc ms : Nat) (free : Addr → Prop) : Prop :=
  MetFree l y (headSpec ws rm) Pc (fun _ _ _ _ _ => True) (vx_Q Qc XC mc ms free)
def vx_Post (XC : String → State → State → Prop) (mc ms : Nat) (free : Addr → Prop) : Pt → Array Value → Addr → Pt → Prop := fun A a q B =>
  ∃ (g : JFrame) (mk : MethodId) (t : State) (L : List Loc) (E : String) (ce : Cell), B.U.heap = t.heap ∧ B.U.vm = t.vm ∧ XC E (A.U.calling g mk a) t ∧ t.heap[q]? = some ce ∧ ce.vm = .none ∧ A.U.vm.findClass E = some ce.cls ∧ B.locs = A.locs ++ L ∧ (∀ z ∈ L, free z.base) ∧ B.cells = A.cells + mc ∧ B.slots = A.slots + ms
def vx_Back (l : Launch) (R : Room) (p : Program) (e : Env) (below : List Frame) (s : State) (sargs : Array Value) (y : MethodName) (len W9 : Nat)
    (Pre : Pt → Array Value → Prop) (Post : Pt → Array Value → Option Value → Pt → Prop) (PostX : Pt → Array Value → Addr → Pt → Prop) : Prop :=
  ∀ (m : MethodId) (meth : Method) (c : Code) (A : Pt) (g : JFrame) (ig : Instr) (mk : MethodId) (a : Array Value),
    Stand p l e R s m sargs below meth c A.U A.locs A.cells A.slots → g.method = m → g.locals.size = c.maxLocals → decode c.code g.pc = .ok (ig, len) →
    2 * g.monitorRoom + (g.stack.map fun v => v.category).sum ≤ W9 → A.U.methodNamed? y = some mk → Pre A a →
    (∃ (v : Option Value) (B : Pt), Stand p l e R s m sargs below meth c B.U B.locs B.cells B.slots ∧ Post A a v B ∧
      Steps p.tables e below (doInvoke e (A.U.setTop g) [] mk a).1 (B.U.setTop { g with pc := g.pc + len, stack := v.toList ++ g.stack })) ∨
    (∃ (q : Addr) (B : Pt), Stand p l e R s m sargs below meth c B.U B.locs B.cells B.slots ∧ PostX A a q B ∧
      Steps p.tables e below (doInvoke e (A.U.setTop g) [] mk a).1 ((B.U.setTop g).pushFrame (.throwing q)))
section Payer
variable {l : Launch} {R : Room} {p : Program} {e : Env} {below : List Frame} {s : State} {sargs : Array Value} {y : MethodName} {len W9 : Nat}
theorem vx_back {ws : List Cond} {rm : Room} {Pc : Array Value → State → Prop} {Qc : Array Value → State → Outcome → State → Prop} {XC : String → State → State → Prop} {mc ms : Nat} {free : Addr → Prop} {bytes : ByteArray} {maxL : Nat} {ret : Option FieldType}
    (hM : vx_Met l y ws rm Pc Qc XC mc ms free) (hblind : FrameBlind Pc) (hrc : rm.cells = mc) (hrs : rm.slots = ms)
    (hframes : rm.frames + 1 ≤ R.frames) (hlocals : W9 + (maxL + 11) + rm.locals ≤ R.locals)
    (hws : ∀ w ∈ ws, ∀ a' U, s.WarmedH U.vm → w.before a' U = true) (hcode : Cond.code y bytes maxL ret ∈ ws) (hinit : ∀ a' U, s.WarmedH U.vm → (Cond.initialized y.cls).before a' U = true) :
    vx_Back l R p e below s sargs y len W9 (PreOf R mc ms Pc) (PostOf Qc mc ms free) (vx_Post XC mc ms free) := by
  intro m meth c A g ig mk a X hg hsize hdg hW hn hp
  have h1 : (headSpec ws rm).pre.before a A.U = true := atoms_intro fun w hw => hws w hw _ _ X.warmed
  have h2 : (Cond.code y bytes maxL ret).before a A.U = true := hws _ hcode _ _ X.warmed
  have h3 : (Cond.initialized y.cls).before a A.U = true := hinit _ _ X.warmed
  have h4 : A.cells + (headSpec ws rm).room.cells ≤ R.cells := by rw [show (headSpec ws rm).room.cells = mc from hrc]; exact hp.1
  have h5 : A.slots + (headSpec ws rm).room.slots ≤ R.slots := by rw [show (headSpec ws rm).room.slots = ms from hrs]; exact hp.2.1
  have hPc : Pc a (A.U.calling g mk a) := hblind _ _ _ _ hp.2.2
  obtain ⟨U, Ls, c0, s0⟩ := A
  dsimp only [Pt.U, Pt.locs, Pt.cells, Pt.slots] at h1 h2 h3 h4 h5 X hn hPc ⊢
  obtain ⟨methY, cY, hmY, hcY, -, hlY, -, -, -, -⟩ := Cond.code_spec hn h2
  obtain ⟨kY, hkY, -⟩ := className_of_methodNamed hn
  have hinitY : kY.init = .initialized := Cond.initialized_spec (findClass_of_methodNamed hn) hkY h3
  have h : At U g.method c below := by rw [hg]; exact X.here
  have hlocals9 : W9 + (maxL + 11) + (headSpec ws rm).room.locals ≤ R.locals := hlocals
  have happ : (headSpec ws rm).appliesLoose y e.platform (U.calling g mk a) = true :=
    Spec.appliesLoose_calling (g := g) h hdg hn hkY hinitY
      (X.room_calling (g := g) (R' := (headSpec ws rm).room) hsize hmY hcY hframes (by rw [hlY]; omega) h4 h5) h1
  obtain ⟨mid, hmid⟩ := h.above
  have hfr : (U.setTop g).frames = (.java g :: mid) ++ below := by rw [State.frames_setTop' g h.top, hmid]; rfl
  obtain ⟨o, s₂, hsteps, -, hend, hq⟩ := Steps.callFree hM p X.admits X.cas X.clock (acts := []) hfr happ hPc trivial
  have hq' : vx_Q Qc XC mc ms free a (U.calling g mk a) o s₂ := hq
  rw [State.frames_setTop' g h.top] at hend
  obtain ⟨g₀, hg0⟩ := Option.isSome_iff_exists.mp h.top
  obtain ⟨r, hr⟩ := State.topJava?_eq_some.mp hg0
  have hr' : (({ U with heap := s₂.heap, slotsUsed := s₂.slotsUsed } : State).setVm s₂.vm).frames = .java g₀ :: r := hr
  rcases hq' with ⟨hqc, L, hfe, hL⟩ | ⟨q, rfl, E, ce, L, hx, hce, hcv, hcl, hW₂, hsm, hL⟩
  · obtain ⟨⟨v, rfl⟩, hW₂, e2, q2, q3, q4, q5, q6⟩ := id hfe
    have e3 : s₂ = ({ (U.calling g mk a).setFrames s₂.frames with heap := s₂.heap, slotsUsed := s₂.slotsUsed } : State).setVm s₂.vm := by
      have : s₂ = ({ s₂ with vm := (U.calling g mk a).vm } : State).setVm s₂.vm := rfl
      rw [e2] at this
      exact this
    obtain ⟨c₂, i₂, len₂, hc₂, hd₂, hf₂⟩ := hend
    have hW' : U.WarmedH s₂.vm := hW₂
    have hcc : c₂ = c := by
      have h1 : s₂.code? g.method = U.code? g.method := by
        rw [State.code?_eq, State.code?_eq, hW'.alike.method?]
      exact Option.some.inj (hc₂.symm.trans (h1.trans h.code))
    subst hcc
    have hlen : len₂ = len := by rw [hdg] at hd₂; cases hd₂; rfl
    subst hlen
    have hs₂ : s₂ = (({ U with heap := s₂.heap, slotsUsed := s₂.slotsUsed } : State).setVm s₂.vm).setTop { g with pc := g.pc + len₂, stack := v.toList ++ g.stack } := by
      refine e3.trans ?_
      rw [hf₂, State.calling_eq h.top, State.setFrames_setFrames, State.setTop_of_frames _ hr', hr]
      rfl
    have hsame : U.sameButNew ({ U with heap := s₂.heap, slotsUsed := s₂.slotsUsed } : State) L mc ms := by
      refine ⟨?_, q2, q3, q4, q5, q6⟩
      obtain ⟨t, ht, -⟩ := State.frames_cons hr
      show ({ U with heap := s₂.heap, slotsUsed := s₂.slotsUsed } : State) = { U.setFrames U.frames with heap := s₂.heap, slotsUsed := s₂.slotsUsed }
      rw [State.setFrames_self ht]
    subst hg
    refine Or.inl ⟨v, ⟨(({ U with heap := s₂.heap, slotsUsed := s₂.slotsUsed } : State).setVm s₂.vm), Ls ++ L, c0 + mc, s0 + ms⟩,
      ⟨X.admits, X.cas, X.clock, X.frames, X.room, X.hears, X.method, X.code, (X.here.setHeapUsed s₂.heap s₂.slotsUsed).setVm hW'.alike, X.tail, State.WarmedH.trans X.warmed hW', X.limits, X.bytes, X.same.trans (hsame.setVm s.vm)⟩,
      ⟨g, mk, s₂, L, rfl, rfl, hqc, rfl, hL, rfl, rfl⟩, ?_⟩
    show Steps p.tables e below _ ((({ U with heap := s₂.heap, slotsUsed := s₂.slotsUsed } : State).setVm s₂.vm).setTop { g with pc := g.pc + len₂, stack := v.toList ++ g.stack })
    rw [← hs₂]
    exact hsteps
  · obtain ⟨e2, q2, q3, q4, q5, q6⟩ := id hsm
    have e3 : s₂ = ({ (U.calling g mk a).setFrames s₂.frames with heap := s₂.heap, slotsUsed := s₂.slotsUsed } : State).setVm s₂.vm := by
      have : s₂ = ({ s₂ with vm := (U.calling g mk a).vm } : State).setVm s₂.vm := rfl
      rw [e2] at this
      exact this
    have hf₂ : s₂.frames = .throwing q :: .java g :: U.frames.tail := hend
    have hW' : U.WarmedH s₂.vm := hW₂
    have hs₂ : s₂ = ((({ U with heap := s₂.heap, slotsUsed := s₂.slotsUsed } : State).setVm s₂.vm).setTop g).pushFrame (.throwing q) := by
      refine e3.trans ?_
      rw [hf₂, State.calling_eq h.top, State.setFrames_setFrames, State.pushFrame, State.frames_setTop _ hr', State.setTop_of_frames _ hr', State.setFrames_setFrames, hr]
      rfl
    have hsame : U.sameButNew ({ U with heap := s₂.heap, slotsUsed := s₂.slotsUsed } : State) L mc ms := by
      refine ⟨?_, q2, q3, q4, q5, q6⟩
      obtain ⟨t, ht, -⟩ := State.frames_cons hr
      show ({ U with heap := s₂.heap, slotsUsed := s₂.slotsUsed } : State) = { U.setFrames U.frames with heap := s₂.heap, slotsUsed := s₂.slotsUsed }
      rw [State.setFrames_self ht]
    subst hg
    refine Or.inr ⟨q, ⟨(({ U with heap := s₂.heap, slotsUsed := s₂.slotsUsed } : State).setVm s₂.vm), Ls ++ L, c0 + mc, s0 + ms⟩,
      ⟨X.admits, X.cas, X.clock, X.frames, X.room, X.hears, X.method, X.code, (X.here.setHeapUsed s₂.heap s₂.slotsUsed).setVm hW'.alike, X.tail, State.WarmedH.trans X.warmed hW', X.limits, X.bytes, X.same.trans (hsame.setVm s.vm)⟩,
      ⟨g, mk, s₂, L, E, ce, rfl, rfl, hx, hce, hcv, hcl, rfl, hL, rfl, rfl⟩, ?_⟩
    show Steps p.tables e below _ (((({ U with heap := s₂.heap, slotsUsed := s₂.slotsUsed } : State).setVm s₂.vm).setTop g).pushFrame (.throwing q))
    rw [← hs₂]
    exact hsteps
end Payer
section Calls
variable {p : Program} {l : Launch} {e : Env} {R : Room} {s : State} {m : MethodId} {args : Array Value} {below : List Frame} {meth : Method} {c : Code} {T : State} {locs : List Loc} {cells slots : Nat}
theorem vx_callV (X : Stand p l e R s m args below meth c T locs cells slots) (hexec : p.tables.exec = Jvm.exec) {own C : String} {index : Nat} {y : MethodName} {bytes : ByteArray} {maxL : Nat} {ret : Option FieldType}
    (hown : s.vm.findClass own = some m.cls) (hlink : (Cond.methodLink own index y).before args s = true) (hinst : (Cond.instanceMethod y).before args s = true) (hsel : (Cond.selects C y y).before args s = true)
    (hcode : (Cond.code y bytes maxL ret).before args s = true) (hy : y.cls ≠ "java/lang/invoke/MethodHandle" ∧ y.cls ≠ "java/lang/invoke/VarHandle")
    {W9 : Nat} {Pre : Pt → Array Value → Prop} {Post : Pt → Array Value → Option Value → Pt → Prop} {PostX : Pt → Array Value → Addr → Pt → Prop} (hK : vx_Back l R p e below s args y 3 W9 Pre Post PostX)
    {b : Addr} {cellB : Cell} (hcell : T.heap[b]? = some cellB) (hobj : cellB.vm.isStatics = false) (hcls : s.vm.findClass C = some cellB.cls)
    {g : JFrame} (hg : g.method = m) (hsize : g.locals.size = c.maxLocals) {argsL rest : List Value} (hlen : ∀ sig, parseMethodDescriptor y.desc = some sig → argsL.length = sig.parameters.length)
    (hstack : g.stack = argsL.reverse ++ .ref b :: rest) (hW : 2 * g.monitorRoom + (rest.map fun v => v.category).sum ≤ W9) (hdg : decode c.code g.pc = .ok (.invokevirtual index, 3))
    (hpre : ∀ vm₁, s.WarmedH vm₁ → Pre ⟨T.setVm vm₁, locs, cells, slots⟩ (Value.ref b :: argsL).toArray) :
    (∃ (v : Option Value) (vm₁ : Vm) (B : Pt), s.WarmedH vm₁ ∧ Stand p l e R s m args below meth c B.U B.locs B.cells B.slots ∧ Post ⟨T.setVm vm₁, locs, cells, slots⟩ (Value.ref b :: argsL).toArray v B ∧
      ∀ target, Steps p.tables e below (B.U.setTop { g with pc := g.pc + 3, stack := v.toList ++ rest }) target → Steps p.tables e below (T.setTop g) target) ∨
    (∃ (q : Addr) (vm₁ : Vm) (B : Pt), s.WarmedH vm₁ ∧ Stand p l e R s m args below meth c B.U B.locs B.cells B.slots ∧ PostX ⟨T.setVm vm₁, locs, cells, slots⟩ (Value.ref b :: argsL).toArray q B ∧
      Steps p.tables e below (T.setTop g) ((B.U.setTop { g with stack := rest }).pushFrame (.throwing q))) := by
  obtain ⟨mk, methM, hnamed, hmethM, hstM, habM⟩ := Cond.instanceMethod_spec hinst
  obtain ⟨methM', cM, hmethM', -, -, -, -, -, -, hsigM⟩ := Cond.code_spec hnamed hcode
  cases hmethM.symm.trans hmethM'
  obtain ⟨c2, r2, m2, q1, q2, q3, q4, kP, hkP, hkPi⟩ := Cond.selects_spec hsel
  cases hcls.symm.trans q1
  cases (State.methodFound?_of_named hnamed hy).symm.trans q2
  cases hnamed.symm.trans q3
  have hselP : selectMethod e.platform s.vm cellB.cls mk = .method mk := by rw [Launch.admits_selectMethod X.admits]; exact q4
  obtain ⟨vm₁, X₁, hstep₁⟩ := X.invokevirtual hexec hown hlink hnamed hmethM hstM hkP hkPi hy (a := b) (cell := cellB) hcell
    (fun z h => by rw [h] at hobj; cases hobj) hselP hmethM habM hkP hkPi (g := g) hg (argsL := argsL) (rest := rest) (hlen _ hsigM) hstack hdg
  rcases hK m meth c ⟨T.setVm vm₁, locs, cells, slots⟩ { g with stack := rest } (.invokevirtual index) mk (Value.ref b :: argsL).toArray X₁ hg hsize hdg hW (X₁.named hnamed) (hpre vm₁ X₁.warmed) with ⟨v, B, X', hpost, hsteps⟩ | ⟨q, B, X', hpost, hsteps⟩
  · exact Or.inl ⟨v, vm₁, B, X₁.warmed, X', hpost, fun target h => hstep₁ _ fun acts => by rw [doInvoke_state]; exact hsteps.trans h⟩
  · exact Or.inr ⟨q, vm₁, B, X₁.warmed, X', hpost, hstep₁ _ fun acts => by rw [doInvoke_state]; exact hsteps⟩
theorem vx_callS (X : Stand p l e R s m args below meth c T locs cells slots) (hexec : p.tables.exec = Jvm.exec) {own : String} {index : Nat} {y : MethodName} {bytes : ByteArray} {maxL : Nat} {ret : Option FieldType}
    (hown : s.vm.findClass own = some m.cls) (hlink : (Cond.methodLink own index y).before args s = true) (hstat : (Cond.static y).before args s = true) (hinit : (Cond.initialized y.cls).before args s = true)
    (hcode : (Cond.code y bytes maxL ret).before args s = true) (hy : y.cls ≠ "java/lang/invoke/MethodHandle" ∧ y.cls ≠ "java/lang/invoke/VarHandle")
    {W9 : Nat} {Pre : Pt → Array Value → Prop} {Post : Pt → Array Value → Option Value → Pt → Prop} {PostX : Pt → Array Value → Addr → Pt → Prop} (hK : vx_Back l R p e below s args y 3 W9 Pre Post PostX)
    {g : JFrame} (hg : g.method = m) (hsize : g.locals.size = c.maxLocals) {argsL rest : List Value} (hlen : ∀ sig, parseMethodDescriptor y.desc = some sig → argsL.length = sig.parameters.length)
    (hstack : g.stack = argsL.reverse ++ rest) (hW : 2 * g.monitorRoom + (rest.map fun v => v.category).sum ≤ W9) (hdg : decode c.code g.pc = .ok (.invokestatic index, 3))
    (hpre : ∀ vm₁, s.WarmedH vm₁ → Pre ⟨T.setVm vm₁, locs, cells, slots⟩ argsL.toArray) :
    (∃ (v : Option Value) (vm₁ : Vm) (B : Pt), s.WarmedH vm₁ ∧ Stand p l e R s m args below meth c B.U B.locs B.cells B.slots ∧ Post ⟨T.setVm vm₁, locs, cells, slots⟩ argsL.toArray v B ∧
      ∀ target, Steps p.tables e below (B.U.setTop { g with pc := g.pc + 3, stack := v.toList ++ rest }) target → Steps p.tables e below (T.setTop g) target) ∨
    (∃ (q : Addr) (vm₁ : Vm) (B : Pt), s.WarmedH vm₁ ∧ Stand p l e R s m args below meth c B.U B.locs B.cells B.slots ∧ PostX ⟨T.setVm vm₁, locs, cells, slots⟩ argsL.toArray q B ∧
      Steps p.tables e below (T.setTop g) ((B.U.setTop { g with stack := rest }).pushFrame (.throwing q))) := by
  obtain ⟨mk, hnamed⟩ := Cond.code_named hcode
  obtain ⟨methM, cM, hmethM, -, -, -, -, -, -, hsigM⟩ := Cond.code_spec hnamed hcode
  have hstatic : methM.isStatic = true := Cond.static_spec hnamed hmethM hstat
  obtain ⟨kP, hkP, -⟩ := className_of_methodNamed hnamed
  have hinitP : kP.init = .initialized := Cond.initialized_spec (findClass_of_methodNamed hnamed) hkP hinit
  obtain ⟨vm₁, X₁, hstep₁⟩ := X.invokestatic hexec hown hlink hnamed hmethM hstatic hkP hinitP hy (g := g) hg (argsL := argsL) (rest := rest) (hlen _ hsigM) hstack hdg
  rcases hK m meth c ⟨T.setVm vm₁, locs, cells, slots⟩ { g with stack := rest } (.invokestatic index) mk argsL.toArray X₁ hg hsize hdg hW (X₁.named hnamed) (hpre vm₁ X₁.warmed) with ⟨v, B, X', hpost, hsteps⟩ | ⟨q, B, X', hpost, hsteps⟩
  · exact Or.inl ⟨v, vm₁, B, X₁.warmed, X', hpost, fun target h => hstep₁ _ fun acts => by rw [doInvoke_state]; exact hsteps.trans h⟩
  · exact Or.inr ⟨q, vm₁, B, X₁.warmed, X', hpost, hstep₁ _ fun acts => by rw [doInvoke_state]; exact hsteps⟩
end Calls
theorem vx_cls {s : State} {T : State} {vm₁ : Vm} {E : String} {k : ClassId} (hW : s.WarmedH vm₁) (h : (T.setVm vm₁).vm.findClass E = some k) : s.vm.findClass E = some k := by
  have h1 : vm₁.findClass E = some k := h
  rw [hW.alike.findClass] at h1
  exact h1
/-- the method's frame g, with q thrown over it -/
def vx_W (p : Program) (l : Launch) (e : Env) (R : Room) (s : State) (m : MethodId) (args : Array Value) (below : List Frame) (meth : Method) (c : Code) (H : Heap) (locs : List Loc) (cells slots : Nat) (Q : State → Prop) (g : JFrame) (q : Addr) : Prop :=
  ∀ T : State, T.heap = H → Stand p l e R s m args below meth c T locs cells slots → ∃ t, Steps p.tables e below ((T.setTop g).pushFrame (.throwing q)) t ∧ Q t
def vx_Run (p : Program) (l : Launch) (e : Env) (R : Room) (s : State) (m : MethodId) (args : Array Value) (below : List Frame) (meth : Method) (c : Code) (H : Heap) (locs : List Loc) (cells slots mc ms : Nat) (g : JFrame) (rest : List Value) (Qa : State → Outcome → State → Prop) (XC : String → State → State → Prop) (free : Addr → Prop) : Prop :=
  ∀ T : State, T.heap = H → Stand p l e R s m args below meth c T locs cells slots →
    (∃ (v : Option Value) (st₀ t T' : State) (L : List Loc), st₀.heap = H ∧ Stand p l e R s m args below meth c T' (locs ++ L) (cells + mc) (slots + ms) ∧ (∀ q ∈ L, free q.base) ∧ T'.heap = t.heap ∧ T'.vm = t.vm ∧ Qa st₀ (.returned v) t ∧
      Goes p e below T g T' { g with pc := g.pc + 3, stack := v.toList ++ rest }) ∨
    (∃ (q : Addr) (st₀ t T' : State) (L : List Loc) (E : String) (ce : Cell), st₀.heap = H ∧ Stand p l e R s m args below meth c T' (locs ++ L) (cells + mc) (slots + ms) ∧ (∀ z ∈ L, free z.base) ∧ T'.heap = t.heap ∧ T'.vm = t.vm ∧ XC E st₀ t ∧ t.heap[q]? = some ce ∧ ce.vm = .none ∧ s.vm.findClass E = some ce.cls ∧
      Steps p.tables e below (T.setTop g) ((T'.setTop { g with stack := rest }).pushFrame (.throwing q)))
def vx_X {S : Type} (px : S → Prop) (B : String → S → State → Prop) (A : Nat → Prop) : String → State → State → Prop := fun E st t => ∃ u : S, px u ∧ B E u t ∧ va_F A st t
section Runs
variable {p : Program} {l : Launch} {e : Env} {R : Room} {s : State} {m : MethodId} {args : Array Value} {below : List Frame} {meth : Method} {c : Code} {H : Heap} {locs : List Loc} {cells slots : Nat}
variable {y : MethodName} {bytes cc : ByteArray} {maxL nL mc ms n index : Nat} {ret : Option FieldType} {ws : List Cond} {rm : Room} {Pc : Array Value → State → Prop} {Qc : Array Value → State → Outcome → State → Prop} {XC : String → State → State → Prop} {free : Addr → Prop} {Ts : List Cond} {own C : String} {b : Addr} {As rest : List Value} {g : JFrame}
theorem vx_callBack (cb : CallB R s args own index y bytes maxL ret ws rm mc ms n) (hM : vx_Met l y ws rm Pc Qc XC mc ms free) (hbl : FrameBlind Pc) : vx_Back l R p e below s args y 3 8 (PreOf R mc ms Pc) (PostOf Qc mc ms free) (vx_Post XC mc ms free) := by
  obtain ⟨hrc, hrs, hfr, hlo, hws, hcw, -, hini, -⟩ := cb
  exact vx_back (bytes := bytes) (maxL := maxL) (ret := ret) hM hbl hrc hrs hfr hlo hws hcw (fun a' U hW => word_at hW (Or.inl (by first | rfl | simp [Cond.onTables, Cond.keeps, Cond.steady])) hini)
theorem vx_runV (S : CallFix p m c cc nL s args Ts own) (hM : vx_Met l y ws rm Pc Qc XC mc ms free) (cw : CallW R s args own C index y bytes maxL ret ws rm mc ms n) (hp : PreV s H C b Pc As)
    (hg : g.method = m) (hn : As.length = n) (hsize : g.locals.size = nL) (hstack : g.stack = As.reverse ++ .ref b :: rest) (hW : 2 * g.monitorRoom + (rest.map fun v => v.category).sum ≤ 8) (hdg : decode cc g.pc = .ok (.invokevirtual index, 3)) (hf : cells + mc ≤ R.cells ∧ slots + ms ≤ R.slots) :
    vx_Run p l e R s m args below meth c H locs cells slots mc ms g rest (Qc (Value.ref b :: As).toArray) XC free := by
  have hK : vx_Back l R p e below s args y 3 8 (PreOf R mc ms Pc) (PostOf Qc mc ms free) (vx_Post XC mc ms free) := vx_callBack cw.1 hM hp.1
  obtain ⟨⟨-, -, -, -, -, -, hcode, -, hy, hlen, hl⟩, hin, hse⟩ := cw
  obtain ⟨hx, hb, hml, ho, -⟩ := S
  obtain ⟨-, ⟨cellB, hcB, hoB, hclB⟩, hPc⟩ := hp
  intro T hT X
  rcases vx_callV X hx (C := C) (bytes := bytes) (maxL := maxL) (ret := ret) ho hl hin hse hcode hy hK (by rw [hT]; exact hcB) hoB hclB hg (hsize.trans hml.symm) (argsL := As) (rest := rest) (fun sig h => hn.trans (hlen sig h)) hstack hW (by rw [hb]; exact hdg)
    (fun vm₁ hW₁ => ⟨hf.1, hf.2, hPc (T.setVm vm₁) hT hW₁⟩) with ⟨v, vm₁, ⟨U', l2, c2, s2⟩, hW₁, X', ⟨g', mk, t, L, e1, e2, hq, h1, hL, h2, h3⟩, st⟩ | ⟨q, vm₁, ⟨U', l2, c2, s2⟩, hW₁, X', ⟨g', mk, t, L, E, ce, e1, e2, hq, hce, hcv, hcl, h1, hL, h2, h3⟩, st⟩
  · dsimp only [Pt.U, Pt.locs, Pt.cells, Pt.slots] at X' e1 e2 h1 h2 h3 st
    subst h1; subst h2; subst h3
    exact Or.inl ⟨v, (T.setVm vm₁).calling g' mk (Value.ref b :: As).toArray, t, U', L, hT, X', hL, e1, e2, hq, st⟩
  · dsimp only [Pt.U, Pt.locs, Pt.cells, Pt.slots] at X' e1 e2 h1 h2 h3 st hcl
    subst h1; subst h2; subst h3
    exact Or.inr ⟨q, (T.setVm vm₁).calling g' mk (Value.ref b :: As).toArray, t, U', L, E, ce, hT, X', hL, e1, e2, hq, hce, hcv, vx_cls hW₁ hcl, st⟩
theorem vx_runS (S : CallFix p m c cc nL s args Ts own) (hM : vx_Met l y ws rm Pc Qc XC mc ms free) (cw : CallB R s args own index y bytes maxL ret ws rm mc ms n ∧ (Cond.static y).before args s = true) (hp : PreS s H Pc As)
    (hg : g.method = m) (hn : As.length = n) (hsize : g.locals.size = nL) (hstack : g.stack = As.reverse ++ rest) (hW : 2 * g.monitorRoom + (rest.map fun v => v.category).sum ≤ 8) (hdg : decode cc g.pc = .ok (.invokestatic index, 3)) (hf : cells + mc ≤ R.cells ∧ slots + ms ≤ R.slots) :
    vx_Run p l e R s m args below meth c H locs cells slots mc ms g rest (Qc As.toArray) XC free := by
  have hK : vx_Back l R p e below s args y 3 8 (PreOf R mc ms Pc) (PostOf Qc mc ms free) (vx_Post XC mc ms free) := vx_callBack cw.1 hM hp.1
  obtain ⟨⟨-, -, -, -, -, -, hcode, hini, hy, hlen, hl⟩, hstt⟩ := cw
  obtain ⟨hx, hb, hml, ho, -⟩ := S
  intro T hT X
  rcases vx_callS X hx (bytes := bytes) (maxL := maxL) (ret := ret) ho hl hstt hini hcode hy hK hg (hsize.trans hml.symm) (argsL := As) (rest := rest) (fun sig h => hn.trans (hlen sig h)) hstack hW (by rw [hb]; exact hdg)
    (fun vm₁ hW₁ => ⟨hf.1, hf.2, hp.2 (T.setVm vm₁) hT hW₁⟩) with ⟨v, vm₁, ⟨U', l2, c2, s2⟩, hW₁, X', ⟨g', mk, t, L, e1, e2, hq, h1, hL, h2, h3⟩, st⟩ | ⟨q, vm₁, ⟨U', l2, c2, s2⟩, hW₁, X', ⟨g', mk, t, L, E, ce, e1, e2, hq, hce, hcv, hcl, h1, hL, h2, h3⟩, st⟩
  · dsimp only [Pt.U, Pt.locs, Pt.cells, Pt.slots] at X' e1 e2 h1 h2 h3 st
    subst h1; subst h2; subst h3
    exact Or.inl ⟨v, (T.setVm vm₁).calling g' mk As.toArray, t, U', L, hT, X', hL, e1, e2, hq, st⟩
  · dsimp only [Pt.U, Pt.locs, Pt.cells, Pt.slots] at X' e1 e2 h1 h2 h3 st hcl
    subst h1; subst h2; subst h3
    exact Or.inr ⟨q, (T.setVm vm₁).calling g' mk As.toArray, t, U', L, E, ce, hT, X', hL, e1, e2, hq, hce, hcv, vx_cls hW₁ hcl, st⟩
end Runs
section Rows
variable {p : Program} {l : Launch} {e : Env} {R : Room} {s : State} {m : MethodId} {args : Array Value} {below : List Frame} {meth : Method} {c : Code} {H : Heap} {locs : List Loc} {cells slots : Nat} {Q : State → Prop}
variable {mc ms : Nat} {free : Addr → Prop} {A0 A1 : Nat → Prop} {H0 : Heap} {a : Array Value} {pc : Nat} {ls : Array Slot} {st0 rest : List Value}
theorem vx_keep {st₀ t T' : State} {L : List Loc} (h0 : st₀.heap = H) (e1 : T'.heap = t.heap) (hS : va_S A0 H0 H locs) (hA : ∀ q, q < H.size → A1 q → A0 q) (hf : ∀ q, free q → A0 q) (hL : ∀ q ∈ L, free q.base) (hF : va_F A1 st₀ t) :
    H.size ≤ T'.heap.size ∧ (∀ q : Nat, q < H.size → ¬ A1 q → T'.heap[q]? = H[q]?) ∧ va_S A0 H0 T'.heap (locs ++ L) := by
  obtain ⟨hz, hk⟩ := hF
  rw [h0] at hz hk
  exact ⟨by rw [e1]; exact hz, fun q h1 h2 => by rw [e1]; exact hk q h1 h2,
    ⟨Nat.le_trans hS.1 (by rw [e1]; exact hz), fun q h1 h2 => by rw [e1, hk q (Nat.lt_of_lt_of_le h1 hS.1) (fun z => h2 (hA q (Nat.lt_of_lt_of_le h1 hS.1) z))]; exact hS.2.1 q h1 h2, fun q hq => by
      rcases List.mem_append.mp hq with h | h
      · exact hS.2.2 q h
      · exact hf _ (hL q h)⟩⟩
theorem vx_calli {S SX : Type} {post : Int32 → S → Prop} {px : SX → Prop} {B : S → State → Prop} {BX : String → SX → State → Prop} {AX : Nat → Prop} (hr : vx_Run p l e R s m args below meth c H locs cells slots mc ms (F0 m pc ls st0) rest (va_Qi post B A1 a) (vx_X px BX AX) free) (hS : va_S A0 H0 H locs) (hA : ∀ q, q < H.size → A1 q → A0 q) (hf : ∀ q, free q → A0 q) (hAX : ∀ q, q < H.size → AX q → A0 q)
    (kx : ∀ (E : String) (ce : Cell) (q9 : Addr) (u : SX) (t : State) (H1 : Heap) (locs1 : List Loc), t.heap = H1 → s.vm.Alike t.vm → px u → BX E u t → H.size ≤ H1.size → (∀ q : Nat, q < H.size → ¬ AX q → H1[q]? = H[q]?) → va_S A0 H0 H1 locs1 → H1[q9]? = some ce → ce.vm = .none → s.vm.findClass E = some ce.cls → vx_W p l e R s m args below meth c H1 locs1 (cells + mc) (slots + ms) Q (F0 m pc ls rest) q9)
    (kk : ∀ (r : Int32) (u : S) (t : State) (H1 : Heap) (locs1 : List Loc), t.heap = H1 → s.vm.Alike t.vm → post r u → B u t → H.size ≤ H1.size → (∀ q : Nat, q < H.size → ¬ A1 q → H1[q]? = H[q]?) → va_S A0 H0 H1 locs1 → W p l e R s m args below meth c H1 locs1 (cells + mc) (slots + ms) Q (F0 m (pc + 3) ls (.int r :: rest))) : W p l e R s m args below meth c H locs cells slots Q (F0 m pc ls st0) := by
  intro T hT X
  rcases hr T hT X with ⟨v, st₀, t, T', L, h0, X', hL, e1, e2, ⟨⟨r, u, hv, hp, hb⟩, hF⟩, st⟩ | ⟨q, st₀, t, T', L, E, ce, h0, X', hL, e1, e2, ⟨u, hp, hb, hF⟩, hce, hcv, hcl, st⟩
  · cases hv
    obtain ⟨k1, k2, k3⟩ := vx_keep h0 e1 hS hA hf hL hF
    obtain ⟨t2, a1, b1⟩ := kk r u t T'.heap (locs ++ L) e1.symm (by rw [← e2]; exact X'.warmed.alike) hp hb k1 k2 k3 T' rfl X'
    exact ⟨t2, st t2 a1, b1⟩
  · obtain ⟨k1, k2, k3⟩ := vx_keep h0 e1 hS hAX hf hL hF
    obtain ⟨t2, a1, b1⟩ := kx E ce q u t T'.heap (locs ++ L) e1.symm (by rw [← e2]; exact X'.warmed.alike) hp hb k1 k2 k3 (by rw [e1]; exact hce) hcv hcl T' rfl X'
    exact ⟨t2, st.trans a1, b1⟩
theorem vx_calll {S SX : Type} {post : Int64 → S → Prop} {px : SX → Prop} {B : S → State → Prop} {BX : String → SX → State → Prop} {AX : Nat → Prop} (hr : vx_Run p l e R s m args below meth c H locs cells slots mc ms (F0 m pc ls st0) rest (va_Ql post B A1 a) (vx_X px BX AX) free) (hS : va_S A0 H0 H locs) (hA : ∀ q, q < H.size → A1 q → A0 q) (hf : ∀ q, free q → A0 q) (hAX : ∀ q, q < H.size → AX q → A0 q)
    (kx : ∀ (E : String) (ce : Cell) (q9 : Addr) (u : SX) (t : State) (H1 : Heap) (locs1 : List Loc), t.heap = H1 → s.vm.Alike t.vm → px u → BX E u t → H.size ≤ H1.size → (∀ q : Nat, q < H.size → ¬ AX q → H1[q]? = H[q]?) → va_S A0 H0 H1 locs1 → H1[q9]? = some ce → ce.vm = .none → s.vm.findClass E = some ce.cls → vx_W p l e R s m args below meth c H1 locs1 (cells + mc) (slots + ms) Q (F0 m pc ls rest) q9)
    (kk : ∀ (r : Int64) (u : S) (t : State) (H1 : Heap) (locs1 : List Loc), t.heap = H1 → s.vm.Alike t.vm → post r u → B u t → H.size ≤ H1.size → (∀ q : Nat, q < H.size → ¬ A1 q → H1[q]? = H[q]?) → va_S A0 H0 H1 locs1 → W p l e R s m args below meth c H1 locs1 (cells + mc) (slots + ms) Q (F0 m (pc + 3) ls (.long r :: rest))) : W p l e R s m args below meth c H locs cells slots Q (F0 m pc ls st0) := by
  intro T hT X
  rcases hr T hT X with ⟨v, st₀, t, T', L, h0, X', hL, e1, e2, ⟨⟨r, u, hv, hp, hb⟩, hF⟩, st⟩ | ⟨q, st₀, t, T', L, E, ce, h0, X', hL, e1, e2, ⟨u, hp, hb, hF⟩, hce, hcv, hcl, st⟩
  · cases hv
    obtain ⟨k1, k2, k3⟩ := vx_keep h0 e1 hS hA hf hL hF
    obtain ⟨t2, a1, b1⟩ := kk r u t T'.heap (locs ++ L) e1.symm (by rw [← e2]; exact X'.warmed.alike) hp hb k1 k2 k3 T' rfl X'
    exact ⟨t2, st t2 a1, b1⟩
  · obtain ⟨k1, k2, k3⟩ := vx_keep h0 e1 hS hAX hf hL hF
    obtain ⟨t2, a1, b1⟩ := kx E ce q u t T'.heap (locs ++ L) e1.symm (by rw [← e2]; exact X'.warmed.alike) hp hb k1 k2 k3 (by rw [e1]; exact hce) hcv hcl T' rfl X'
    exact ⟨t2, st.trans a1, b1⟩
theorem vx_callf {S SX : Type} {post : UInt32 → S → Prop} {px : SX → Prop} {B : S → State → Prop} {BX : String → SX → State → Prop} {AX : Nat → Prop} (hr : vx_Run p l e R s m args below meth c H locs cells slots mc ms (F0 m pc ls st0) rest (va_Qf post B A1 a) (vx_X px BX AX) free) (hS : va_S A0 H0 H locs) (hA : ∀ q, q < H.size → A1 q → A0 q) (hf : ∀ q, free q → A0 q) (hAX : ∀ q, q < H.size → AX q → A0 q)
    (kx : ∀ (E : String) (ce : Cell) (q9 : Addr) (u : SX) (t : State) (H1 : Heap) (locs1 : List Loc), t.heap = H1 → s.vm.Alike t.vm → px u → BX E u t → H.size ≤ H1.size → (∀ q : Nat, q < H.size → ¬ AX q → H1[q]? = H[q]?) → va_S A0 H0 H1 locs1 → H1[q9]? = some ce → ce.vm = .none → s.vm.findClass E = some ce.cls → vx_W p l e R s m args below meth c H1 locs1 (cells + mc) (slots + ms) Q (F0 m pc ls rest) q9)
    (kk : ∀ (r : UInt32) (u : S) (t : State) (H1 : Heap) (locs1 : List Loc), t.heap = H1 → s.vm.Alike t.vm → post r u → B u t → H.size ≤ H1.size → (∀ q : Nat, q < H.size → ¬ A1 q → H1[q]? = H[q]?) → va_S A0 H0 H1 locs1 → W p l e R s m args below meth c H1 locs1 (cells + mc) (slots + ms) Q (F0 m (pc + 3) ls (.float r :: rest))) : W p l e R s m args below meth c H locs cells slots Q (F0 m pc ls st0) := by
  intro T hT X
  rcases hr T hT X with ⟨v, st₀, t, T', L, h0, X', hL, e1, e2, ⟨⟨r, u, hv, hp, hb⟩, hF⟩, st⟩ | ⟨q, st₀, t, T', L, E, ce, h0, X', hL, e1, e2, ⟨u, hp, hb, hF⟩, hce, hcv, hcl, st⟩
  · cases hv
    obtain ⟨k1, k2, k3⟩ := vx_keep h0 e1 hS hA hf hL hF
    obtain ⟨t2, a1, b1⟩ := kk r u t T'.heap (locs ++ L) e1.symm (by rw [← e2]; exact X'.warmed.alike) hp hb k1 k2 k3 T' rfl X'
    exact ⟨t2, st t2 a1, b1⟩
  · obtain ⟨k1, k2, k3⟩ := vx_keep h0 e1 hS hAX hf hL hF
    obtain ⟨t2, a1, b1⟩ := kx E ce q u t T'.heap (locs ++ L) e1.symm (by rw [← e2]; exact X'.warmed.alike) hp hb k1 k2 k3 (by rw [e1]; exact hce) hcv hcl T' rfl X'
    exact ⟨t2, st.trans a1, b1⟩
theorem vx_calld {S SX : Type} {post : UInt64 → S → Prop} {px : SX → Prop} {B : S → State → Prop} {BX : String → SX → State → Prop} {AX : Nat → Prop} (hr : vx_Run p l e R s m args below meth c H locs cells slots mc ms (F0 m pc ls st0) rest (va_Qd post B A1 a) (vx_X px BX AX) free) (hS : va_S A0 H0 H locs) (hA : ∀ q, q < H.size → A1 q → A0 q) (hf : ∀ q, free q → A0 q) (hAX : ∀ q, q < H.size → AX q → A0 q)
    (kx : ∀ (E : String) (ce : Cell) (q9 : Addr) (u : SX) (t : State) (H1 : Heap) (locs1 : List Loc), t.heap = H1 → s.vm.Alike t.vm → px u → BX E u t → H.size ≤ H1.size → (∀ q : Nat, q < H.size → ¬ AX q → H1[q]? = H[q]?) → va_S A0 H0 H1 locs1 → H1[q9]? = some ce → ce.vm = .none → s.vm.findClass E = some ce.cls → vx_W p l e R s m args below meth c H1 locs1 (cells + mc) (slots + ms) Q (F0 m pc ls rest) q9)
    (kk : ∀ (r : UInt64) (u : S) (t : State) (H1 : Heap) (locs1 : List Loc), t.heap = H1 → s.vm.Alike t.vm → post r u → B u t → H.size ≤ H1.size → (∀ q : Nat, q < H.size → ¬ A1 q → H1[q]? = H[q]?) → va_S A0 H0 H1 locs1 → W p l e R s m args below meth c H1 locs1 (cells + mc) (slots + ms) Q (F0 m (pc + 3) ls (.double r :: rest))) : W p l e R s m args below meth c H locs cells slots Q (F0 m pc ls st0) := by
  intro T hT X
  rcases hr T hT X with ⟨v, st₀, t, T', L, h0, X', hL, e1, e2, ⟨⟨r, u, hv, hp, hb⟩, hF⟩, st⟩ | ⟨q, st₀, t, T', L, E, ce, h0, X', hL, e1, e2, ⟨u, hp, hb, hF⟩, hce, hcv, hcl, st⟩
  · cases hv
    obtain ⟨k1, k2, k3⟩ := vx_keep h0 e1 hS hA hf hL hF
    obtain ⟨t2, a1, b1⟩ := kk r u t T'.heap (locs ++ L) e1.symm (by rw [← e2]; exact X'.warmed.alike) hp hb k1 k2 k3 T' rfl X'
    exact ⟨t2, st t2 a1, b1⟩
  · obtain ⟨k1, k2, k3⟩ := vx_keep h0 e1 hS hAX hf hL hF
    obtain ⟨t2, a1, b1⟩ := kx E ce q u t T'.heap (locs ++ L) e1.symm (by rw [← e2]; exact X'.warmed.alike) hp hb k1 k2 k3 (by rw [e1]; exact hce) hcv hcl T' rfl X'
    exact ⟨t2, st.trans a1, b1⟩
theorem vx_callv {S SX : Type} {post : S → Prop} {px : SX → Prop} {B : S → State → Prop} {BX : String → SX → State → Prop} {AX : Nat → Prop} (hr : vx_Run p l e R s m args below meth c H locs cells slots mc ms (F0 m pc ls st0) rest (va_Qv post B A1 a) (vx_X px BX AX) free) (hS : va_S A0 H0 H locs) (hA : ∀ q, q < H.size → A1 q → A0 q) (hf : ∀ q, free q → A0 q) (hAX : ∀ q, q < H.size → AX q → A0 q)
    (kx : ∀ (E : String) (ce : Cell) (q9 : Addr) (u : SX) (t : State) (H1 : Heap) (locs1 : List Loc), t.heap = H1 → s.vm.Alike t.vm → px u → BX E u t → H.size ≤ H1.size → (∀ q : Nat, q < H.size → ¬ AX q → H1[q]? = H[q]?) → va_S A0 H0 H1 locs1 → H1[q9]? = some ce → ce.vm = .none → s.vm.findClass E = some ce.cls → vx_W p l e R s m args below meth c H1 locs1 (cells + mc) (slots + ms) Q (F0 m pc ls rest) q9)
    (kk : ∀ (u : S) (t : State) (H1 : Heap) (locs1 : List Loc), t.heap = H1 → s.vm.Alike t.vm → post u → B u t → H.size ≤ H1.size → (∀ q : Nat, q < H.size → ¬ A1 q → H1[q]? = H[q]?) → va_S A0 H0 H1 locs1 → W p l e R s m args below meth c H1 locs1 (cells + mc) (slots + ms) Q (F0 m (pc + 3) ls (rest))) : W p l e R s m args below meth c H locs cells slots Q (F0 m pc ls st0) := by
  intro T hT X
  rcases hr T hT X with ⟨v, st₀, t, T', L, h0, X', hL, e1, e2, ⟨⟨u, hv, hp, hb⟩, hF⟩, st⟩ | ⟨q, st₀, t, T', L, E, ce, h0, X', hL, e1, e2, ⟨u, hp, hb, hF⟩, hce, hcv, hcl, st⟩
  · cases hv
    obtain ⟨k1, k2, k3⟩ := vx_keep h0 e1 hS hA hf hL hF
    obtain ⟨t2, a1, b1⟩ := kk u t T'.heap (locs ++ L) e1.symm (by rw [← e2]; exact X'.warmed.alike) hp hb k1 k2 k3 T' rfl X'
    exact ⟨t2, st t2 a1, b1⟩
  · obtain ⟨k1, k2, k3⟩ := vx_keep h0 e1 hS hAX hf hL hF
    obtain ⟨t2, a1, b1⟩ := kx E ce q u t T'.heap (locs ++ L) e1.symm (by rw [← e2]; exact X'.warmed.alike) hp hb k1 k2 k3 (by rw [e1]; exact hce) hcv hcl T' rfl X'
    exact ⟨t2, st.trans a1, b1⟩
/-- caught by the row x of this method's table; the rows ahead don't take it -/
theorem vx_catch {own name : String} {E : String} {ce : Cell} {q : Addr} (hown : s.vm.findClass own = some m.cls) (pre : List ExceptionTableEntry) (x : ExceptionTableEntry) (suf : List ExceptionTableEntry) (hsplit : c.exceptionTable.toList = pre ++ x :: suf)
    (hpass : ∀ z ∈ pre, covers z pc = false ∨ (z.catchType ≠ 0 ∧ ∃ nm : String, (Cond.classLink own z.catchType nm).before args s = true ∧ va_Nc E nm s)) (hx : covers x pc = true) (h0 : x.catchType ≠ 0)
    (hlink : (Cond.classLink own x.catchType name).before args s = true) (hcast : (Cond.castable E name).before args s = true) (hcell : H[q]? = some ce) (hv : ce.vm = .none) (hcl : s.vm.findClass E = some ce.cls)
    (kk : W p l e R s m args below meth c H locs cells slots Q (F0 m x.handlerPc ls [.ref q])) : vx_W p l e R s m args below meth c H locs cells slots Q (F0 m pc ls rest) q := by
  intro T hT X
  have hpl : e.platform.magicAccessors = ({} : Platform).magicAccessors := by rw [X.admits.platform]
  obtain ⟨c3, c4, hc3, hc4, hasg⟩ := Cond.castable_spec hcast
  cases Option.some.inj (hc3.symm.trans hcl)
  obtain ⟨c5, hc5, hcl5⟩ := Cond.classLink_spec hown hlink e.platform hpl
  cases Option.some.inj (hc4.symm.trans hc5)
  obtain ⟨vm', X', st⟩ := X.thenCaughtThrough q (g := F0 m pc ls rest) rfl (Steps.refl _) (by rw [hT]; exact hcell) (by rw [hv]; rfl) (by obtain ⟨k9, h9, -⟩ := Vm.findClass_spec hcl; exact ⟨k9, h9⟩) pre x suf hsplit
    (fun z hz => by
      rcases hpass z hz with h | ⟨hz0, nm, hl1, hn1⟩
      · exact Or.inl h
      · obtain ⟨c6, hc6, hcl6⟩ := Cond.classLink_spec hown hl1 e.platform hpl
        obtain ⟨a8, b8, h1, h2, h3⟩ := hn1
        cases Option.some.inj (h1.symm.trans hcl)
        cases Option.some.inj (h2.symm.trans hc6)
        exact Or.inr ⟨hz0, _, hcl6, h3⟩) hx (Or.inr ⟨h0, c4, hcl5, hasg⟩)
  obtain ⟨t, a1, b1⟩ := kk (T.setVm vm') hT X'
  exact ⟨t, st.trans a1, b1⟩
end Rows
section Ends
variable {p : Program} {l : Launch} {e : Env} {R : Room} {s : State} {m : MethodId} {args : Array Value} {below : List Frame} {meth : Method} {c : Code} {H : Heap} {locs : List Loc} {cells slots : Nat} {Q : State → Prop}
variable {mc ms : Nat} {free : Addr → Prop} {A0 A1 : Nat → Prop} {H0 : Heap} {a : Array Value} {ls : Array Slot} {st0 rest : List Value}
variable {Qc : Array Value → State → Outcome → State → Prop} {XC : String → State → State → Prop}
/-- what a body that may throw owes at its end -/
def vx_MQ (below : List Frame) (Qc : Array Value → State → Outcome → State → Prop) (XC : String → State → State → Prop) (a : Array Value) (s : State) (mc ms : Nat) (free : Addr → Prop) : State → Prop := fun t =>
  ∃ o, t.status = .running ∧ Ended t below o ∧ vx_Q Qc XC mc ms free a s o t
theorem vx_ret {g : JFrame} {mc ms : Nat} (k : W p l e R s m args below meth c H locs cells slots (MQ below Qc args s mc ms free) g) : W p l e R s m args below meth c H locs cells slots (vx_MQ below Qc XC args s mc ms free) g := by
  intro T hT X
  obtain ⟨t, a1, o, b1, b2, b3, b4⟩ := k T hT X
  exact ⟨t, a1, o, b1, b2, Or.inl ⟨b3, b4⟩⟩
/-- not caught here: it goes on to the caller -/
theorem vx_widen {g : JFrame} {q : Addr} {k n : Nat} (h1 : cells ≤ k) (h2 : slots ≤ n) (kk : vx_W p l e R s m args below meth c H locs k n Q g q) : vx_W p l e R s m args below meth c H locs cells slots Q g q := fun T hT X => kk T hT (stand_widen X h1 h2)
theorem vx_out {pc : Nat} {E : String} {ce : Cell} {q : Addr} {mc ms : Nat} (hout : ∀ x ∈ c.exceptionTable.toList, covers x pc = false) (hlocks : meth.locks = false) (hcell : H[q]? = some ce) (hv : ce.vm = .none) (hcl : s.vm.findClass E = some ce.cls)
    (hx : ∀ t : State, t.heap = H → s.vm.Alike t.vm → XC E s t) (hf : ∀ z ∈ locs, free z.base) (hc : cells ≤ mc) (hs : slots ≤ ms) :
    vx_W p l e R s m args below meth c H locs cells slots (vx_MQ below Qc XC args s mc ms free) (F0 m pc ls rest) q := by
  intro T hT X
  obtain ⟨st1, hrun, hend, hW, hsm⟩ := X.leaveThrown q (g := F0 m pc ls rest) rfl rfl rfl hout hlocks
  have hcell9 : (T.setFrames (.throwing q :: below)).heap[q]? = some ce := by
    show T.heap[q]? = some ce
    rw [hT]; exact hcell
  exact ⟨_, st1, .threw q, hrun, hend, Or.inr ⟨q, rfl, E, ce, locs, hx _ hT hW.alike, hcell9, hv, hcl, hW, hsm.mono hc hs, hf⟩⟩
theorem vx_frame {U : State} {k n : Nat} (h : s.sameButNew ({ U with vm := s.vm } : State) locs k n) : s.heap.size ≤ U.heap.size ∧ ∀ q : Nat, q < s.heap.size → (∀ z ∈ locs, z.base ≠ q) → U.heap[q]? = s.heap[q]? := by
  obtain ⟨-, h2, -, -, -, h6⟩ := h
  refine ⟨h2, fun q hq hz => ?_⟩
  obtain ⟨c9, e1, e2, e3, e4⟩ := h6 q _ (Array.getElem?_eq_getElem hq)
  have hs : c9.slots = (s.heap[q]).slots := Array.ext_getElem? fun i => e4 i fun hm => hz _ hm rfl
  have h9 : c9 = s.heap[q] := by
    rw [hs] at e2
    exact e2
  have e5 : U.heap[q]? = some c9 := e1
  rw [e5, h9, Array.getElem?_eq_getElem hq]
/-- the words of a throw but the four that speak of the heap -/
def vx_no (w : Cond) : Bool := decide (w ≠ .isRef (.static Bundle.tN "UNASSIGNED_STACK" Bundle.steD)) && decide (w ≠ .isRef (.static Bundle.tN "SUPPRESSED_SENTINEL" Bundle.listD)) && decide (w ≠ .laysStatic Bundle.tN "UNASSIGNED_STACK" Bundle.steD) && decide (w ≠ .laysStatic Bundle.tN "SUPPRESSED_SENTINEL" Bundle.listD)
def vx_at0 (own : String) (ic : Nat) (X : String) (names : List String) : List Cond := (Bundle.ownAtoms0 own ic X names).filter vx_no
def vx_atS (own : String) (ic : Nat) (X : String) (names : List String) : List Cond := (Bundle.ownAtoms own ic X names).filter vx_no
/-- a word that the tables alone decide, or a good one -/
def vx_ot (w : Cond) : Bool := w.onTables || goodWord w
theorem vx_ot_at {args a' : Array Value} {s U : State} {w : Cond} (hW : s.WarmedH U.vm) (hvm : s.vm = U.vm) (hg : vx_ot w = true) (h : w.before args s = true) : w.before a' U = true := by
  simp only [vx_ot, Bool.or_eq_true] at hg
  rcases hg with hg | hg
  · exact va_tabs hg hvm h
  · exact word_at hW (good_of_word hg) h
/-- a list's words: the good ones out of the method's own list, the others by premises of their own -/
theorem vx_hat {args : Array Value} {s : State} {L B : List Cond} (h1 : ∀ w ∈ L.filter goodWord, w.before args s = true) (h2 : ∀ w ∈ L.filter (fun w => !goodWord w), w ∈ B) (h3 : ∀ w ∈ B, w.before args s = true) : ∀ w ∈ L, w.before args s = true := by
  intro w hw
  by_cases g : goodWord w = true
  · exact h1 w (List.mem_filter.mpr ⟨hw, g⟩)
  · refine h3 w (h2 w (List.mem_filter.mpr ⟨hw, ?_⟩))
    show (!goodWord w) = true
    cases hgw : goodWord w
    · rfl
    · exact absurd hgw g
theorem vx_c {args : Array Value} {s : State} {w : Cond} {B : List Cond} (h : w.before args s = true) (t : ∀ w ∈ B, w.before args s = true) : ∀ w' ∈ w :: B, w'.before args s = true := fun w' h' => (List.mem_cons.mp h').elim (fun e => by rw [e]; exact h) (t w')
theorem vx_n {args : Array Value} {s : State} : ∀ w ∈ ([] : List Cond), w.before args s = true := fun _ h => nomatch h
theorem vx_own {args : Array Value} {s : State} {L : List Cond} (h1 : ∀ w ∈ L.filter vx_no, w.before args s = true)
    (hU : (Cond.isRef (.static Bundle.tN "UNASSIGNED_STACK" Bundle.steD)).before args s = true) (hN : (Cond.isRef (.static Bundle.tN "SUPPRESSED_SENTINEL" Bundle.listD)).before args s = true)
    (lU : (Cond.laysStatic Bundle.tN "UNASSIGNED_STACK" Bundle.steD).before args s = true) (lN : (Cond.laysStatic Bundle.tN "SUPPRESSED_SENTINEL" Bundle.listD).before args s = true) : ∀ w ∈ L, w.before args s = true := by
  intro w hw
  by_cases e1 : w = .isRef (.static Bundle.tN "UNASSIGNED_STACK" Bundle.steD)
  · rw [e1]; exact hU
  · by_cases e2 : w = .isRef (.static Bundle.tN "SUPPRESSED_SENTINEL" Bundle.listD)
    · rw [e2]; exact hN
    · by_cases e3 : w = .laysStatic Bundle.tN "UNASSIGNED_STACK" Bundle.steD
      · rw [e3]; exact lU
      · by_cases e4 : w = .laysStatic Bundle.tN "SUPPRESSED_SENTINEL" Bundle.listD
        · rw [e4]; exact lN
        · exact h1 w (List.mem_filter.mpr ⟨hw, by unfold vx_no; rw [decide_eq_true e1, decide_eq_true e2, decide_eq_true e3, decide_eq_true e4]; rfl⟩)
/-- where a static field lies, its class's statics cell in H -/
def vx_L (C n d : String) (A : Nat → Prop) (U : State) (H : Heap) : Prop := ∃ (c : ClassId) (k : Class) (i : Nat) (f : Field) (a : Nat) (cell : Cell), U.vm.findClass C = some c ∧ U.fieldFound? C n d = some (c, k, i, f) ∧ f.isStatic = true ∧ k.statics = some a ∧ H[a]? = some cell ∧ cell.vm.isStatics = true ∧ cell.cls = c ∧ f.slot < cell.slots.size ∧ k.staticTypes[f.slot]? = some f.type ∧ ¬ A a
theorem vx_L.moved {C n d : String} {A : Nat → Prop} {u U : State} {H : Heap} (hvm : u.vm.Alike U.vm) (h : vx_L C n d A u H) : vx_L C n d A U H := by
  obtain ⟨c, k, i, f, a, cell, h1, h2, h3, h4, h5, h6, h7, h8, h9, h10⟩ := h
  obtain ⟨k', hi', he⟩ := State.fieldFound?_setVm hvm h2
  exact ⟨c, k', i, f, a, cell, by rw [hvm.findClass]; exact h1, hi', h3, by rw [he]; exact h4, h5, h6, h7, h8, by rw [he]; exact h9, h10⟩
theorem vx_L.kept {C n d : String} {A : Nat → Prop} {U : State} {H H1 : Heap} (h : vx_L C n d A U H) (hq : ∀ a : Nat, a < H.size → ¬ A a → H1[a]? = H[a]?) : vx_L C n d A U H1 := by
  obtain ⟨c, k, i, f, a, cell, h1, h2, h3, h4, h5, h6, h7, h8, h9, h10⟩ := h
  exact ⟨c, k, i, f, a, cell, h1, h2, h3, h4, by rw [hq a (Array.getElem?_eq_some_iff.mp h5).1 h10]; exact h5, h6, h7, h8, h9, h10⟩
theorem vx_L.narrow {C n d : String} {A B : Nat → Prop} {U : State} {H : Heap} (h : vx_L C n d A U H) (hAB : ∀ q, B q → A q) : vx_L C n d B U H := by
  obtain ⟨c, k, i, f, a, cell, h1, h2, h3, h4, h5, h6, h7, h8, h9, h10⟩ := h
  exact ⟨c, k, i, f, a, cell, h1, h2, h3, h4, h5, h6, h7, h8, h9, fun z => h10 (hAB _ z)⟩
theorem vx_L.word {C n d : String} {A : Nat → Prop} {s : State} {args : Array Value} (h : vx_L C n d A s s.heap) : (Cond.laysStatic C n d).before args s = true := by
  obtain ⟨c, k, i, f, a, cell, h1, h2, h3, h4, h5, h6, h7, h8, h9, -⟩ := h
  show (Cond.laysStatic C n d).holds args s none s [] = true
  exact Cond.laysStatic_of h1 h2 h3 h4 h5 h6 h7 h8 h9
/-- .. and what it holds: null or some reference -/
def vx_Zq (C n d : String) (A : Nat → Prop) (U : State) (H : Heap) : Prop := va_Zq C n d A U H ∧ vx_L C n d A U H
theorem vx_Zq.moved {C n d : String} {A : Nat → Prop} {u U : State} {H : Heap} (hvm : u.vm.Alike U.vm) (h : vx_Zq C n d A u H) : vx_Zq C n d A U H := ⟨va_Zq.moved hvm h.1, vx_L.moved hvm h.2⟩
theorem vx_Zq.kept {C n d : String} {A : Nat → Prop} {U : State} {H H1 : Heap} (h : vx_Zq C n d A U H) (hq : ∀ a : Nat, a < H.size → ¬ A a → H1[a]? = H[a]?) : vx_Zq C n d A U H1 := ⟨va_Zq.kept h.1 hq, vx_L.kept h.2 hq⟩
theorem vx_Zq.narrow {C n d : String} {A B : Nat → Prop} {U : State} {H : Heap} (h : vx_Zq C n d A U H) (hAB : ∀ q, B q → A q) : vx_Zq C n d B U H := ⟨va_Zq.narrow h.1 hAB, vx_L.narrow h.2 hAB⟩
theorem vx_Zqof {args : Array Value} {s : State} {C n d : String} {A : Nat → Prop} (hl : (Cond.laysStatic C n d).before args s = true) (hini : (Cond.initialized C).before args s = true) (h : (Cond.isRef (.static C n d)).before args s = true) (hA : ∀ a : Nat, a < s.heap.size → ¬ A a) : vx_Zq C n d A s s.heap := by
  refine ⟨va_Zqof hl hini h hA, ?_⟩
  obtain ⟨c, k, i, f, a, cell, h1, h2, h3, h4, h5, h6, h7, h8, h9⟩ := Cond.laysStatic_spec hl
  exact ⟨c, k, i, f, a, cell, h1, h2, h3, h4, h5, h6, h7, h8, h9, hA a (Array.getElem?_eq_some_iff.mp h5).1⟩
theorem vx_isRef {C n d : String} {v : Value} {A : Nat → Prop} {s : State} {args : Array Value} (h : va_Z C n d v A s s.heap) (hv : v.isRef = true) : (Cond.isRef (.static C n d)).before args s = true := by
  obtain ⟨cf, kf, fi, f, a, cell, h1, h2, h3, h4, h5, h6, h7, -⟩ := h
  have he : (Term.static C n d).eval args s none [] s = some v := by
    simp [Term.eval, State.fieldNamed?, h1, h2, h4, h5, h6, h7]
  simp only [Cond.before, Cond.holds, Cond.value, he]
  cases v <;> simp_all [Value.isRef]
theorem vx_isRefq {C n d : String} {A : Nat → Prop} {s : State} {args : Array Value} (h : va_Zq C n d A s s.heap) : (Cond.isRef (.static C n d)).before args s = true := by
  rcases h with h | ⟨t, h⟩
  · exact vx_isRef h rfl
  · exact vx_isRef h rfl
/-- the same frame, seen from here: as if the method were called anew in this heap -/
theorem vx_rebase {T : State} (X : Stand p l e R s m args below meth c T locs cells slots) {R' : Room} (hf : R'.frames ≤ R.frames) (hl : R'.locals ≤ R.locals) (hc : cells + R'.cells ≤ R.cells) (hs : slots + R'.slots ≤ R.slots) :
    Stand p l e R' ((T.setVm s.vm).setFrames (.invoking m args :: below)) m args below meth c T [] 0 0 := by
  have htop : (T.setVm s.vm).topJava?.isSome := X.here.top
  have hF : ((T.setVm s.vm).setFrames (.invoking m args :: below)).frames = .invoking m args :: below := State.frames_setFrames _ (State.cur_lt_of_top htop)
  obtain ⟨g₀, hg0⟩ := Option.isSome_iff_exists.mp htop
  obtain ⟨r, hr⟩ := State.topJava?_eq_some.mp hg0
  have hl9 : e.platform.stackLimits (T.setVm s.vm).me = e.platform.stackLimits s.me := X.limits
  have hb9 : (T.setVm s.vm).me.stackBytes = s.me.stackBytes := X.bytes
  refine ⟨X.admits, X.cas, X.clock, hF, ?_, X.hears, X.method, X.code, X.here, X.tail, X.warmed, ?_, ?_, ?_⟩
  · have h := X.room
    have hU : ((T.setVm s.vm).setFrames (.invoking m args :: below)).localsInUse = s.localsInUse := by
      rw [State.localsInUse_invoking hF (meth := meth) (c := c) X.method X.code, State.localsInUse_invoking X.frames X.method X.code]
    simp only [State.hasRoom, Bool.and_eq_true, decide_eq_true_eq] at h ⊢
    obtain ⟨⟨⟨⟨h1, h2, h3, h4, h5, h6⟩, h7⟩, h8⟩, h9⟩ := h
    rw [X.frames, List.length_cons] at h2 h3
    have q1 := X.heapSize
    have q2 := X.used
    simp only [hF, hU, List.length_cons, State.stackLimits_setFrames, State.stackBytes_setFrames, hl9, hb9]
    refine ⟨⟨⟨⟨by omega, by omega, by omega, by omega, by omega, h6⟩, ?_⟩, ?_⟩, X.book⟩
    · show T.heap.size + R'.cells ≤ e.platform.maxCells
      omega
    · show T.slotsUsed + R'.slots ≤ e.platform.maxSlots
      omega
  · rw [State.stackLimits_setFrames]; rfl
  · rw [State.stackBytes_setFrames]; rfl
  · refine ⟨?_, Nat.le_refl _, Nat.le_refl _, ?_, ?_, fun a c9 h9 => ⟨c9, h9, rfl, rfl, fun _ _ => rfl⟩⟩
    · obtain ⟨t, ht, -⟩ := State.frames_cons hr
      show T.setVm s.vm = { ((T.setVm s.vm).setFrames (.invoking m args :: below)).setFrames (T.setVm s.vm).frames with heap := T.heap, slotsUsed := T.slotsUsed }
      rw [State.setFrames_setFrames, State.setFrames_self ht]
      rfl
    · show T.slotsUsed = T.slotsUsed + ((T.heap.toList.drop T.heap.size).map (·.slots.size)).sum
      rw [List.drop_eq_nil_of_le (Nat.le_of_eq Array.length_toList)]
      rfl
    · show ((T.heap.toList.drop T.heap.size).map (·.slots.size)).sum ≤ 0
      rw [List.drop_eq_nil_of_le (Nat.le_of_eq Array.length_toList)]
      exact Nat.le_refl _
/-- 'throw new E()': new; dup; invokespecial; athrow -/
theorem vx_throw0 {cc : ByteArray} {pc : Nat} (hexec : p.tables.exec = Jvm.exec) (hb : c.code = cc) (hl : l.stackTraces = false) {own cls : String} {names : List String} {ik ic mc ms : Nat} {A : Nat → Prop}
    (hown : s.vm.findClass own = some m.cls) (hcls : Bundle.fit cls = true) (hnames : ∀ n ∈ names, Bundle.fit n = true)
    (hk : (Cond.classLink own ik cls).before args s = true) (hini : (Cond.initialized cls).before args s = true) (hat : ∀ w ∈ vx_at0 own ic cls names, w.before args s = true)
    (hgood : ∀ w ∈ Cond.classLink own ik cls :: Cond.initialized cls :: vx_at0 own ic cls names, vx_ot w = true)
    (hU : vx_Zq Bundle.tN "UNASSIGNED_STACK" Bundle.steD A s s.heap) (hN : vx_Zq Bundle.tN "SUPPRESSED_SENTINEL" Bundle.listD A s s.heap) (hS : va_S A s.heap H locs) (hsize : ls.size = c.maxLocals)
    (d0 : decode cc pc = .ok (.new ik, 3)) (d3 : decode cc (pc + 3) = .ok (.dup, 1)) (d4 : decode cc (pc + 4) = .ok (.invokespecial ic, 3)) (d7 : decode cc (pc + 7) = .ok (.athrow, 1))
    (hout : ∀ x ∈ c.exceptionTable.toList, covers x (pc + 7) = false)
    (hRframes : names.length + 3 < R.frames) (hRlocals : (rest.map fun v => v.category).sum + (13 * (names.length + 1) + 42) ≤ R.locals) (hRcells : cells + 1 ≤ R.cells) (hRslots : slots + 6 ≤ R.slots) (hlocks : meth.locks = false)
    (hx : ∀ t : State, s.vm.Alike t.vm → H.size ≤ t.heap.size → (∀ q : Nat, q < H.size → t.heap[q]? = H[q]?) → XC cls s t)
    (hf : ∀ z ∈ locs, free z.base) (hc : cells + 1 ≤ mc) (hs : slots + 6 ≤ ms) :
    W p l e R s m args below meth c H locs cells slots (vx_MQ below Qc XC args s mc ms free) (F0 m pc ls rest) := by
  intro T hT X
  have htr : e.platform.stackTraces = false := (show e.platform.stackTraces = l.stackTraces by rw [X.admits.platform]).trans hl
  have Y := vx_rebase X (R' := { frames := R.frames, locals := R.locals, cells := 1, slots := 6 }) (Nat.le_refl _) (Nat.le_refl _) hRcells hRslots
  obtain ⟨s', hA⟩ : ∃ z, z = (T.setVm s.vm).setFrames (.invoking m args :: below) := ⟨_, rfl⟩
  rw [← hA] at Y
  have hvm : s'.vm = s.vm := by rw [hA]; rfl
  have hhp : s'.heap = H := by rw [hA]; exact hT
  have hW0 : s.WarmedH s'.vm := by rw [hvm]; exact State.WarmedH.refl s
  have hat' : ∀ w ∈ vx_at0 own ic cls names, w.before args s' = true := fun w hw => vx_ot_at hW0 hvm.symm (hgood w (List.mem_cons_of_mem _ (List.mem_cons_of_mem _ hw))) (hat w hw)
  have hk' : (Cond.classLink own ik cls).before args s' = true := vx_ot_at hW0 hvm.symm (hgood _ List.mem_cons_self) hk
  have hini' : (Cond.initialized cls).before args s' = true := vx_ot_at hW0 hvm.symm (hgood _ (List.mem_cons_of_mem _ List.mem_cons_self)) hini
  have hU' : vx_Zq Bundle.tN "UNASSIGNED_STACK" Bundle.steD A s' s'.heap := by rw [hhp]; exact vx_Zq.moved hW0.alike (hU.kept hS.2.1)
  have hN' : vx_Zq Bundle.tN "SUPPRESSED_SENTINEL" Bundle.listD A s' s'.heap := by rw [hhp]; exact vx_Zq.moved hW0.alike (hN.kept hS.2.1)
  have h : ∀ w ∈ Bundle.ownAtoms0 own ic cls names, w.before args s' = true := vx_own hat' (vx_isRefq hU'.1) (vx_isRefq hN'.1) hU'.2.word hN'.2.word
  have hown' : s'.vm.findClass own = some m.cls := by rw [hvm]; exact hown
  have hins : (Cond.instantiable cls 6).before args s' = true := h _ (by simp [Bundle.ownAtoms0])
  obtain ⟨vm₁, cX, kX, hfX, hkX, -, -, X₁, st1⟩ := Y.newCold hexec (own := own) (C := cls) (index := ik) (n := 6) hown' hk' hins hini'
    (g := F0 m pc ls rest) rfl (by rw [hb]; exact d0) (Nat.le_refl _) (Nat.le_refl _)
  generalize hT1 : (T.setVm vm₁).pushCell { cls := cX, slots := kX.instanceTypes.map defaultValue, vm := .none } = T1 at X₁ st1
  have hcat : (Value.ref T.heap.size).category = 1 := rfl
  have hcellA : T1.heap[T.heap.size]? = some (freshCell cX kX) := by rw [← hT1]; exact State.heap_pushCell_size _ _
  have d3' : decode c.code (pc + 3) = .ok (.dup, 1) := by rw [hb]; exact d3
  obtain ⟨U, hsteps, hrun, hend, hW, hsame, ce, hce, hO⟩ := X₁.ctorThrow0 hexec htr (own := own) (cls := cls) (names := names) (ic := ic) hown' hcls hnames h (fun x hx => nomatch hx) hfX hkX hcellA (by rw [hhp, hT]; exact Nat.le_refl _)
    (g := { method := m, pc := pc + 4, locals := ls, stack := .ref T.heap.size :: .ref T.heap.size :: rest, locked := none }) rfl hsize rfl rfl (rest := rest) rfl
    (by rw [hb]; exact d4) (by rw [hb]; exact d7) hout hRframes (by simp only [List.map_cons, List.sum_cons, hcat]; omega) hlocks
  obtain ⟨f1, f2⟩ := vx_frame hsame
  rw [hhp] at f1 f2
  have hWs : s.WarmedH U.vm := State.WarmedH.trans hW0 hW
  have hcl : s.vm.findClass cls = some ce.cls := by
    have h9 := hO.cls
    rw [hvm] at h9
    exact h9
  have hall : s.sameButNew ({ U with vm := s.vm } : State) locs mc ms := by
    subst hA
    obtain ⟨e1, e2⟩ := hsame
    rw [State.setFrames_setFrames] at e1
    have h2 : (T.setVm s.vm).sameButNew ({ U with vm := s.vm } : State) [] (0 + 1) (0 + 6) := ⟨e1, e2⟩
    have h3 := X.same.trans h2
    rw [List.append_nil] at h3
    exact h3.mono hc hs
  refine ⟨U, ?_, .threw T.heap.size, hrun, hend, Or.inr ⟨T.heap.size, rfl, cls, ce, locs, hx U hWs.alike f1 (fun q hq => f2 q hq (fun z hz => nomatch hz)), hce, hO.vm, hcl, hWs, hall, hf⟩⟩
  refine st1 _ ?_
  show Steps p.tables e below (T1.setTop { method := m, pc := pc + 3, locals := ls, stack := .ref T.heap.size :: rest, locked := none }) _
  jvm_step X₁.here [X₁.here.top, hexec, d3', Value.category]
  exact hsteps
/-- 'throw new E("text")': new; dup; ldc; invokespecial; athrow -/
theorem vx_throwS {cc : ByteArray} {pc : Nat} (hexec : p.tables.exec = Jvm.exec) (hb : c.code = cc) (hl : l.stackTraces = false) {own cls text : String} {names : List String} {ik is ic mc ms sa : Nat} {A : Nat → Prop}
    (hown : s.vm.findClass own = some m.cls) (hcls : Bundle.fit cls = true) (hnames : ∀ n ∈ names, Bundle.fit n = true)
    (hk : (Cond.classLink own ik cls).before args s = true) (hini : (Cond.initialized cls).before args s = true) (hstr : vk_R own is text sa s) (hat : ∀ w ∈ vx_atS own ic cls names, w.before args s = true)
    (hgood : ∀ w ∈ Cond.classLink own ik cls :: Cond.initialized cls :: vx_atS own ic cls names, vx_ot w = true)
    (hU : vx_Zq Bundle.tN "UNASSIGNED_STACK" Bundle.steD A s s.heap) (hN : vx_Zq Bundle.tN "SUPPRESSED_SENTINEL" Bundle.listD A s s.heap) (hS : va_S A s.heap H locs) (hsize : ls.size = c.maxLocals)
    (d0 : decode cc pc = .ok (.new ik, 3)) (d3 : decode cc (pc + 3) = .ok (.dup, 1)) (d4 : decode cc (pc + 4) = .ok (.ldc is, 2)) (d6 : decode cc (pc + 6) = .ok (.invokespecial ic, 3)) (d9 : decode cc (pc + 9) = .ok (.athrow, 1))
    (hout : ∀ x ∈ c.exceptionTable.toList, covers x (pc + 9) = false)
    (hRframes : names.length + 3 < R.frames) (hRlocals : (rest.map fun v => v.category).sum + (13 * (names.length + 1) + 43) ≤ R.locals) (hRcells : cells + 1 ≤ R.cells) (hRslots : slots + 6 ≤ R.slots) (hlocks : meth.locks = false)
    (hx : ∀ t : State, s.vm.Alike t.vm → H.size ≤ t.heap.size → (∀ q : Nat, q < H.size → t.heap[q]? = H[q]?) → XC cls s t)
    (hf : ∀ z ∈ locs, free z.base) (hc : cells + 1 ≤ mc) (hs : slots + 6 ≤ ms) :
    W p l e R s m args below meth c H locs cells slots (vx_MQ below Qc XC args s mc ms free) (F0 m pc ls rest) := by
  intro T hT X
  have htr : e.platform.stackTraces = false := (show e.platform.stackTraces = l.stackTraces by rw [X.admits.platform]).trans hl
  have Y := vx_rebase X (R' := { frames := R.frames, locals := R.locals, cells := 1, slots := 6 }) (Nat.le_refl _) (Nat.le_refl _) hRcells hRslots
  obtain ⟨s', hA⟩ : ∃ z, z = (T.setVm s.vm).setFrames (.invoking m args :: below) := ⟨_, rfl⟩
  rw [← hA] at Y
  have hvm : s'.vm = s.vm := by rw [hA]; rfl
  have hhp : s'.heap = H := by rw [hA]; exact hT
  have hW0 : s.WarmedH s'.vm := by rw [hvm]; exact State.WarmedH.refl s
  have hat' : ∀ w ∈ vx_atS own ic cls names, w.before args s' = true := fun w hw => vx_ot_at hW0 hvm.symm (hgood w (List.mem_cons_of_mem _ (List.mem_cons_of_mem _ hw))) (hat w hw)
  have hk' : (Cond.classLink own ik cls).before args s' = true := vx_ot_at hW0 hvm.symm (hgood _ List.mem_cons_self) hk
  have hini' : (Cond.initialized cls).before args s' = true := vx_ot_at hW0 hvm.symm (hgood _ (List.mem_cons_of_mem _ List.mem_cons_self)) hini
  have hU' : vx_Zq Bundle.tN "UNASSIGNED_STACK" Bundle.steD A s' s'.heap := by rw [hhp]; exact vx_Zq.moved hW0.alike (hU.kept hS.2.1)
  have hN' : vx_Zq Bundle.tN "SUPPRESSED_SENTINEL" Bundle.listD A s' s'.heap := by rw [hhp]; exact vx_Zq.moved hW0.alike (hN.kept hS.2.1)
  have h : ∀ w ∈ Bundle.ownAtoms own ic cls names, w.before args s' = true := vx_own hat' (vx_isRefq hU'.1) (vx_isRefq hN'.1) hU'.2.word hN'.2.word
  have hown' : s'.vm.findClass own = some m.cls := by rw [hvm]; exact hown
  have hins : (Cond.instantiable cls 6).before args s' = true := h _ (by simp [Bundle.ownAtoms])
  obtain ⟨vm₁, cX, kX, hfX, hkX, -, -, X₁, st1⟩ := Y.newCold hexec (own := own) (C := cls) (index := ik) (n := 6) hown' hk' hins hini'
    (g := F0 m pc ls rest) rfl (by rw [hb]; exact d0) (Nat.le_refl _) (Nat.le_refl _)
  generalize hT1 : (T.setVm vm₁).pushCell { cls := cX, slots := kX.instanceTypes.map defaultValue, vm := .none } = T1 at X₁ st1
  have hcat : (Value.ref T.heap.size).category = 1 := rfl
  have hcellA : T1.heap[T.heap.size]? = some (freshCell cX kX) := by rw [← hT1]; exact State.heap_pushCell_size _ _
  have d3' : decode c.code (pc + 3) = .ok (.dup, 1) := by rw [hb]; exact d3
  have d4' : decode c.code (pc + 4) = .ok (.ldc is, 2) := by rw [hb]; exact d4
  have hstr' : vk_R own is text sa s' := vk_R.warm hW0 hstr
  obtain ⟨U, hsteps, hrun, hend, hW, hsame, ce, hce, hO⟩ := X₁.ctorThrowS hexec htr (own := own) (cls := cls) (names := names) (ic := ic) hown' hcls hnames h (fun x hx => nomatch hx) hfX hkX hcellA (by rw [hhp, hT]; exact Nat.le_refl _) (msg := .ref sa) rfl
    (g := { method := m, pc := pc + 6, locals := ls, stack := .ref sa :: .ref T.heap.size :: .ref T.heap.size :: rest, locked := none }) rfl hsize rfl rfl (rest := rest) rfl
    (by rw [hb]; exact d6) (by rw [hb]; exact d9) hout hRframes (by simp only [List.map_cons, List.sum_cons, hcat]; omega) hlocks
  obtain ⟨f1, f2⟩ := vx_frame hsame
  rw [hhp] at f1 f2
  have hWs : s.WarmedH U.vm := State.WarmedH.trans hW0 hW
  have hcl : s.vm.findClass cls = some ce.cls := by
    have h9 := hO.cls
    rw [hvm] at h9
    exact h9
  have hall : s.sameButNew ({ U with vm := s.vm } : State) locs mc ms := by
    subst hA
    obtain ⟨e1, e2⟩ := hsame
    rw [State.setFrames_setFrames] at e1
    have h2 : (T.setVm s.vm).sameButNew ({ U with vm := s.vm } : State) [] (0 + 1) (0 + 6) := ⟨e1, e2⟩
    have h3 := X.same.trans h2
    rw [List.append_nil] at h3
    exact h3.mono hc hs
  refine ⟨U, ?_, .threw T.heap.size, hrun, hend, Or.inr ⟨T.heap.size, rfl, cls, ce, locs, hx U hWs.alike f1 (fun q hq => f2 q hq (fun z hz => nomatch hz)), hce, hO.vm, hcl, hWs, hall, hf⟩⟩
  refine st1 _ ?_
  show Steps p.tables e below (T1.setTop { method := m, pc := pc + 3, locals := ls, stack := .ref T.heap.size :: rest, locked := none }) _
  jvm_step X₁.here [X₁.here.top, hexec, d3', Value.category]
  exact X₁.ldcString hexec (own := own) (text := text) (index := is) (a := sa) hown' hstr'.1 hstr'.2
    (g := { method := m, pc := pc + 4, locals := ls, stack := .ref T.heap.size :: .ref T.heap.size :: rest, locked := none }) rfl d4' _ hsteps
/-- 'throw new E("text")', the text by a wide index -/
theorem vx_throwSW {cc : ByteArray} {pc : Nat} (hexec : p.tables.exec = Jvm.exec) (hb : c.code = cc) (hl : l.stackTraces = false) {own cls text : String} {names : List String} {ik is ic mc ms sa : Nat} {A : Nat → Prop}
    (hown : s.vm.findClass own = some m.cls) (hcls : Bundle.fit cls = true) (hnames : ∀ n ∈ names, Bundle.fit n = true)
    (hk : (Cond.classLink own ik cls).before args s = true) (hini : (Cond.initialized cls).before args s = true) (hstr : vk_R own is text sa s) (hat : ∀ w ∈ vx_atS own ic cls names, w.before args s = true)
    (hgood : ∀ w ∈ Cond.classLink own ik cls :: Cond.initialized cls :: vx_atS own ic cls names, vx_ot w = true)
    (hU : vx_Zq Bundle.tN "UNASSIGNED_STACK" Bundle.steD A s s.heap) (hN : vx_Zq Bundle.tN "SUPPRESSED_SENTINEL" Bundle.listD A s s.heap) (hS : va_S A s.heap H locs) (hsize : ls.size = c.maxLocals)
    (d0 : decode cc pc = .ok (.new ik, 3)) (d3 : decode cc (pc + 3) = .ok (.dup, 1)) (d4 : decode cc (pc + 4) = .ok (.ldc_w is, 3)) (d7 : decode cc (pc + 7) = .ok (.invokespecial ic, 3)) (d10 : decode cc (pc + 10) = .ok (.athrow, 1))
    (hout : ∀ x ∈ c.exceptionTable.toList, covers x (pc + 10) = false)
    (hRframes : names.length + 3 < R.frames) (hRlocals : (rest.map fun v => v.category).sum + (13 * (names.length + 1) + 43) ≤ R.locals) (hRcells : cells + 1 ≤ R.cells) (hRslots : slots + 6 ≤ R.slots) (hlocks : meth.locks = false)
    (hx : ∀ t : State, s.vm.Alike t.vm → H.size ≤ t.heap.size → (∀ q : Nat, q < H.size → t.heap[q]? = H[q]?) → XC cls s t)
    (hf : ∀ z ∈ locs, free z.base) (hc : cells + 1 ≤ mc) (hs : slots + 6 ≤ ms) :
    W p l e R s m args below meth c H locs cells slots (vx_MQ below Qc XC args s mc ms free) (F0 m pc ls rest) := by
  intro T hT X
  have htr : e.platform.stackTraces = false := (show e.platform.stackTraces = l.stackTraces by rw [X.admits.platform]).trans hl
  have Y := vx_rebase X (R' := { frames := R.frames, locals := R.locals, cells := 1, slots := 6 }) (Nat.le_refl _) (Nat.le_refl _) hRcells hRslots
  obtain ⟨s', hA⟩ : ∃ z, z = (T.setVm s.vm).setFrames (.invoking m args :: below) := ⟨_, rfl⟩
  rw [← hA] at Y
  have hvm : s'.vm = s.vm := by rw [hA]; rfl
  have hhp : s'.heap = H := by rw [hA]; exact hT
  have hW0 : s.WarmedH s'.vm := by rw [hvm]; exact State.WarmedH.refl s
  have hat' : ∀ w ∈ vx_atS own ic cls names, w.before args s' = true := fun w hw => vx_ot_at hW0 hvm.symm (hgood w (List.mem_cons_of_mem _ (List.mem_cons_of_mem _ hw))) (hat w hw)
  have hk' : (Cond.classLink own ik cls).before args s' = true := vx_ot_at hW0 hvm.symm (hgood _ List.mem_cons_self) hk
  have hini' : (Cond.initialized cls).before args s' = true := vx_ot_at hW0 hvm.symm (hgood _ (List.mem_cons_of_mem _ List.mem_cons_self)) hini
  have hU' : vx_Zq Bundle.tN "UNASSIGNED_STACK" Bundle.steD A s' s'.heap := by rw [hhp]; exact vx_Zq.moved hW0.alike (hU.kept hS.2.1)
  have hN' : vx_Zq Bundle.tN "SUPPRESSED_SENTINEL" Bundle.listD A s' s'.heap := by rw [hhp]; exact vx_Zq.moved hW0.alike (hN.kept hS.2.1)
  have h : ∀ w ∈ Bundle.ownAtoms own ic cls names, w.before args s' = true := vx_own hat' (vx_isRefq hU'.1) (vx_isRefq hN'.1) hU'.2.word hN'.2.word
  have hown' : s'.vm.findClass own = some m.cls := by rw [hvm]; exact hown
  have hins : (Cond.instantiable cls 6).before args s' = true := h _ (by simp [Bundle.ownAtoms])
  obtain ⟨vm₁, cX, kX, hfX, hkX, -, -, X₁, st1⟩ := Y.newCold hexec (own := own) (C := cls) (index := ik) (n := 6) hown' hk' hins hini'
    (g := F0 m pc ls rest) rfl (by rw [hb]; exact d0) (Nat.le_refl _) (Nat.le_refl _)
  generalize hT1 : (T.setVm vm₁).pushCell { cls := cX, slots := kX.instanceTypes.map defaultValue, vm := .none } = T1 at X₁ st1
  have hcat : (Value.ref T.heap.size).category = 1 := rfl
  have hcellA : T1.heap[T.heap.size]? = some (freshCell cX kX) := by rw [← hT1]; exact State.heap_pushCell_size _ _
  have d3' : decode c.code (pc + 3) = .ok (.dup, 1) := by rw [hb]; exact d3
  have d4' : decode c.code (pc + 4) = .ok (.ldc_w is, 3) := by rw [hb]; exact d4
  have hstr' : vk_R own is text sa s' := vk_R.warm hW0 hstr
  obtain ⟨U, hsteps, hrun, hend, hW, hsame, ce, hce, hO⟩ := X₁.ctorThrowS hexec htr (own := own) (cls := cls) (names := names) (ic := ic) hown' hcls hnames h (fun x hx => nomatch hx) hfX hkX hcellA (by rw [hhp, hT]; exact Nat.le_refl _) (msg := .ref sa) rfl
    (g := { method := m, pc := pc + 7, locals := ls, stack := .ref sa :: .ref T.heap.size :: .ref T.heap.size :: rest, locked := none }) rfl hsize rfl rfl (rest := rest) rfl
    (by rw [hb]; exact d7) (by rw [hb]; exact d10) hout hRframes (by simp only [List.map_cons, List.sum_cons, hcat]; omega) hlocks
  obtain ⟨f1, f2⟩ := vx_frame hsame
  rw [hhp] at f1 f2
  have hWs : s.WarmedH U.vm := State.WarmedH.trans hW0 hW
  have hcl : s.vm.findClass cls = some ce.cls := by
    have h9 := hO.cls
    rw [hvm] at h9
    exact h9
  have hall : s.sameButNew ({ U with vm := s.vm } : State) locs mc ms := by
    subst hA
    obtain ⟨e1, e2⟩ := hsame
    rw [State.setFrames_setFrames] at e1
    have h2 : (T.setVm s.vm).sameButNew ({ U with vm := s.vm } : State) [] (0 + 1) (0 + 6) := ⟨e1, e2⟩
    have h3 := X.same.trans h2
    rw [List.append_nil] at h3
    exact h3.mono hc hs
  refine ⟨U, ?_, .threw T.heap.size, hrun, hend, Or.inr ⟨T.heap.size, rfl, cls, ce, locs, hx U hWs.alike f1 (fun q hq => f2 q hq (fun z hz => nomatch hz)), hce, hO.vm, hcl, hWs, hall, hf⟩⟩
  refine st1 _ ?_
  show Steps p.tables e below (T1.setTop { method := m, pc := pc + 3, locals := ls, stack := .ref T.heap.size :: rest, locked := none }) _
  jvm_step X₁.here [X₁.here.top, hexec, d3', Value.category]
  exact X₁.ldcStringW hexec (own := own) (text := text) (index := is) (a := sa) hown' hstr'.1 hstr'.2
    (g := { method := m, pc := pc + 4, locals := ls, stack := .ref T.heap.size :: .ref T.heap.size :: rest, locked := none }) rfl d4' _ hsteps
end Ends
section Bodies
variable {l : Launch}
theorem vx_ofW {y : MethodName} {ws ws' : List Cond} {rm : Room} {Pc : Array Value → State → Prop} {Qc : Array Value → State → Outcome → State → Prop} {XC : String → State → State → Prop} {mc ms : Nat} {free : Addr → Prop} {cc : ByteArray} {maxL : Nat} {ret : Option FieldType}
    (hy : plainName y.cls = true) (hw : ws = Cond.code y cc maxL ret :: ws')
    (body : ∀ p e s m args below meth c s₁, BodyLoose p l y (headSpec ws rm) cc maxL ret e s m args below meth c s₁ → c.maxLocals = maxL → (∀ x ∈ c.exceptionTable.toList, False) → Pc args s →
      W p l e (headSpec ws rm).room s m args below meth c s.heap [] 0 0 (vx_MQ below Qc XC args s mc ms free) (entryFrame m args maxL)) : vx_Met l y ws rm Pc Qc XC mc ms free := by
  refine MetFree.of_bodyS (code := cc) (maxLocals := maxL) (ret := ret) hy ?_ ?_
  · intro args s m h hn
    obtain ⟨meth, c, h1, h2, h3, h4, h5, h6, -, -⟩ := Cond.code_spec hn (atoms_spec (ws := ws) h _ (by rw [hw]; exact List.mem_cons_self))
    exact ⟨meth, c, h1, h2, h3, h4, h5, h6⟩
  · intro p e s m args below meth c s₁ B hml hP _
    have hh0 : s₁.heap = s.heap := by rw [B.state]; rfl
    have ht : ∀ x ∈ c.exceptionTable.toList, False := by
      obtain ⟨meth9, c9, h1, h2, -, -, -, -, h7, -⟩ := Cond.code_spec B.named (atoms_spec (ws := ws) B.pre _ (by rw [hw]; exact List.mem_cons_self))
      cases Option.some.inj (h1.symm.trans B.method)
      cases Option.some.inj (h2.symm.trans (Stand.of_body B).code)
      intro x hx
      rw [Array.isEmpty_iff.mp h7] at hx
      cases hx
    obtain ⟨t, a1, o, b1, b2, b3⟩ := body p e s m args below meth c s₁ B hml ht hP s₁ hh0 (Stand.of_body B)
    exact ⟨t, o, a1, b1, b2, b3⟩
/-- the table of a body with handlers -/
theorem vx_table {p : Program} {x y : MethodName} {S : Spec} {cc bytes : ByteArray} {maxL maxL' : Nat} {ret ret' : Option FieldType} {e : Env} {s s₁ : State} {m : MethodId} {args : Array Value} {below : List Frame} {meth : Method} {c : Code} {hh : List (Nat × Nat × Nat × Nat)}
    (B : BodyLoose p l y S cc maxL ret e s m args below meth c s₁) (h : (Cond.codeWith y bytes maxL' ret' hh).before args s = true) : c.exceptionTable.toList = tableOf hh := by
  obtain ⟨m9, meth9, c9, hn9, h1, h2, -, -, h6, -⟩ := Cond.codeWith_spec h
  cases Option.some.inj (hn9.symm.trans B.named)
  cases Option.some.inj (h1.symm.trans B.method)
  cases Option.some.inj (h2.symm.trans (Stand.of_body B).code)
  rw [← h6, table_eq]
end Bodies
end VXA
/-! ===== END ===== -/
/-! ===== BEGIN a static call of a method with an exception table ===== -/
section VXS
variable {p : Program} {l : Launch} {e : Env} {R : Room} {s : State} {m : MethodId} {args : Array Value} {below : List Frame} {meth : Method} {c : Code} {T : State} {H : Heap} {locs : List Loc} {cells slots : Nat}
abbrev vx_CSW (R : Room) (s : State) (args : Array Value) (own : String) (index : Nat) (y : MethodName) (bytes : ByteArray) (maxL : Nat) (ret : Option FieldType) (hh : List (Nat × Nat × Nat × Nat)) (ws : List Cond) (rm : Room) (mc ms n : Nat) : Prop :=
  (rm.cells = mc ∧ rm.slots = ms ∧ rm.frames + 1 ≤ R.frames ∧ 8 + (maxL + 11) + rm.locals ≤ R.locals ∧ (∀ w ∈ ws, ∀ (a' : Array Value) (U : State), s.WarmedH U.vm → w.before a' U = true) ∧ Cond.codeWith y bytes maxL ret hh ∈ ws) ∧
  (Cond.codeWith y bytes maxL ret hh).before args s = true ∧ (Cond.initialized y.cls).before args s = true ∧ (y.cls ≠ "java/lang/invoke/MethodHandle" ∧ y.cls ≠ "java/lang/invoke/VarHandle") ∧
  (∀ sig, parseMethodDescriptor y.desc = some sig → n = sig.parameters.length) ∧ (Cond.methodLink own index y).before args s = true ∧ (Cond.static y).before args s = true
theorem vx_cwSW {own : String} {index maxL mc ms : Nat} {y : MethodName} {bytes : ByteArray} {ret : Option FieldType} {hh : List (Nat × Nat × Nat × Nat)} {Ts ws ws' : List Cond} {rm : Room} (n : Nat) (ht : ∀ w ∈ Ts, w.before args s = true) (hT : GoodIn Ts (va_wsS own index y ws)) (hw : ws = Cond.codeWith y bytes maxL ret hh :: ws') (hrc : rm.cells = mc) (hrs : rm.slots = ms)
    (hd : y.cls ≠ "java/lang/invoke/MethodHandle" ∧ y.cls ≠ "java/lang/invoke/VarHandle" ∧ (parseMethodDescriptor y.desc).map (fun d => d.parameters.length) = some n) (hR : rm.frames + 1 ≤ R.frames ∧ 8 + (maxL + 11) + rm.locals ≤ R.locals) :
    vx_CSW R s args own index y bytes maxL ret hh ws rm mc ms n := by
  have ok : ∀ w ∈ va_wsS own index y ws, w.before args s = true := fun w h => ht w (hT w h).1
  have hG : GoodIn Ts ws := fun w h => hT w (by unfold va_wsS; exact List.mem_append_right _ h)
  have hc : Cond.codeWith y bytes maxL ret hh ∈ ws := by rw [hw]; exact List.mem_cons_self
  refine ⟨⟨hrc, hrs, hR.1, hR.2, pay_in ht hG, hc⟩, ht _ (hG _ hc).1, ok _ (by simp [va_wsS]), ⟨hd.1, hd.2.1⟩, fun sig h => ?_, ok _ (by simp [va_wsS]), ok _ (by simp [va_wsS])⟩
  have h2 := hd.2.2
  rw [h] at h2
  exact (Option.some.inj h2).symm
theorem vx_callSW (X : Stand p l e R s m args below meth c T locs cells slots) (hexec : p.tables.exec = Jvm.exec) {own : String} {index : Nat} {y : MethodName} {bytes : ByteArray} {maxL : Nat} {ret : Option FieldType} {hh : List (Nat × Nat × Nat × Nat)}
    (hown : s.vm.findClass own = some m.cls) (hlink : (Cond.methodLink own index y).before args s = true) (hstat : (Cond.static y).before args s = true) (hinit : (Cond.initialized y.cls).before args s = true)
    (hcode : (Cond.codeWith y bytes maxL ret hh).before args s = true) (hy : y.cls ≠ "java/lang/invoke/MethodHandle" ∧ y.cls ≠ "java/lang/invoke/VarHandle")
    {W9 : Nat} {Pre : Pt → Array Value → Prop} {Post : Pt → Array Value → Option Value → Pt → Prop} (hK : Back l R p e below s args y 3 W9 Pre Post)
    {g : JFrame} (hg : g.method = m) (hsize : g.locals.size = c.maxLocals) {argsL rest : List Value} (hlen : ∀ sig, parseMethodDescriptor y.desc = some sig → argsL.length = sig.parameters.length)
    (hstack : g.stack = argsL.reverse ++ rest) (hW : 2 * g.monitorRoom + (rest.map fun v => v.category).sum ≤ W9) (hdg : decode c.code g.pc = .ok (.invokestatic index, 3))
    (hpre : ∀ vm₁, s.WarmedH vm₁ → Pre ⟨T.setVm vm₁, locs, cells, slots⟩ argsL.toArray) :
    ∃ (v : Option Value) (vm₁ : Vm) (B : Pt), s.WarmedH vm₁ ∧ Stand p l e R s m args below meth c B.U B.locs B.cells B.slots ∧ Post ⟨T.setVm vm₁, locs, cells, slots⟩ argsL.toArray v B ∧
      ∀ target, Steps p.tables e below (B.U.setTop { g with pc := g.pc + 3, stack := v.toList ++ rest }) target → Steps p.tables e below (T.setTop g) target := by
  obtain ⟨mk, methM, cM, hnamed, hmethM, -, -, -, -, -, -, hsigM⟩ := Cond.codeWith_spec hcode
  have hstatic : methM.isStatic = true := Cond.static_spec hnamed hmethM hstat
  obtain ⟨kP, hkP, -⟩ := className_of_methodNamed hnamed
  have hinitP : kP.init = .initialized := Cond.initialized_spec (findClass_of_methodNamed hnamed) hkP hinit
  obtain ⟨vm₁, X₁, hstep₁⟩ := X.invokestatic hexec hown hlink hnamed hmethM hstatic hkP hinitP hy (g := g) hg (argsL := argsL) (rest := rest) (hlen _ hsigM) hstack hdg
  obtain ⟨v, B, X', hpost, hsteps⟩ := hK m meth c ⟨T.setVm vm₁, locs, cells, slots⟩ { g with stack := rest } (.invokestatic index) mk argsL.toArray X₁ hg hsize hdg hW (X₁.named hnamed) (hpre vm₁ X₁.warmed)
  exact ⟨v, vm₁, B, X₁.warmed, X', hpost, fun target h => hstep₁ _ fun acts => by rw [doInvoke_state]; exact hsteps.trans h⟩
theorem vx_runSW {y : MethodName} {bytes cc : ByteArray} {maxL nL mc ms n index : Nat} {ret : Option FieldType} {hh : List (Nat × Nat × Nat × Nat)} {ws : List Cond} {rm : Room} {Pc : Array Value → State → Prop} {Qc : Array Value → State → Outcome → State → Prop} {free : Addr → Prop} {Ts : List Cond} {own : String} {As rest : List Value} {g : JFrame}
    (S : CallFix p m c cc nL s args Ts own) (hM : Met l y ws rm Pc Qc mc ms free) (cw : vx_CSW R s args own index y bytes maxL ret hh ws rm mc ms n) (hp : PreS s H Pc As)
    (hg : g.method = m) (hn : As.length = n) (hsize : g.locals.size = nL) (hstack : g.stack = As.reverse ++ rest) (hW : 2 * g.monitorRoom + (rest.map fun v => v.category).sum ≤ 8) (hdg : decode cc g.pc = .ok (.invokestatic index, 3)) (hf : cells + mc ≤ R.cells ∧ slots + ms ≤ R.slots) :
    va_Run p l e R s m args below meth c H locs cells slots mc ms g rest (Qc As.toArray) (free) := by
  obtain ⟨⟨hrc, hrs, hfr, hlo, hws, hcw⟩, hcode, hini, hy, hlen, hl, hstt⟩ := cw
  have hK : Back l R p e below s args y 3 8 (PreOf R mc ms Pc) (PostOf Qc mc ms free) := va_backW (hh := hh) (bytes := bytes) (maxL := maxL) (ret := ret) hM hp.1 hrc hrs hfr hlo hws hcw (fun a' U hW => word_at hW (Or.inl (by first | rfl | simp [Cond.onTables, Cond.keeps, Cond.steady])) hini)
  obtain ⟨hx, hb, hml, ho, -⟩ := S
  intro T hT X
  obtain ⟨v, vm₁, ⟨U', l2, c2, s2⟩, hW₁, X', ⟨g', mk, t, L, e1, e2, hq, h1, hL, h2, h3⟩, st⟩ := vx_callSW X hx (hh := hh) (bytes := bytes) (maxL := maxL) (ret := ret) ho hl hstt hini hcode hy hK hg (hsize.trans hml.symm) (argsL := As) (rest := rest) (fun sig h => hn.trans (hlen sig h)) hstack hW (by rw [hb]; exact hdg)
    (fun vm₁ hW₁ => ⟨hf.1, hf.2, hp.2 (T.setVm vm₁) hT hW₁⟩)
  dsimp only [Pt.U, Pt.locs, Pt.cells, Pt.slots] at X' e1 e2 h1 h2 h3 st
  subst h1; subst h2; subst h3
  exact ⟨v, (T.setVm vm₁).calling g' mk As.toArray, t, U', L, hT, X', hL, e1, e2, hq, st⟩
/-- not caught here, past rows that name other classes: it goes on to the caller -/
theorem vx_outP {p : Program} {l : Launch} {e : Env} {R : Room} {s : State} {m : MethodId} {args : Array Value} {below : List Frame} {meth : Method} {c : Code} {H : Heap} {locs : List Loc} {cells slots : Nat} {free : Addr → Prop} {ls : Array Slot} {rest : List Value} {Qc : Array Value → State → Outcome → State → Prop} {XC : String → State → State → Prop}
    {pc : Nat} {own E : String} {ce : Cell} {q : Addr} {mc ms : Nat} (hown : s.vm.findClass own = some m.cls) (hlocks : meth.locks = false)
    (hpass : ∀ z ∈ c.exceptionTable.toList, covers z pc = false ∨ (z.catchType ≠ 0 ∧ ∃ nm : String, (Cond.classLink own z.catchType nm).before args s = true ∧ va_Nc E nm s)) (hcell : H[q]? = some ce) (hv : ce.vm = .none) (hcl : s.vm.findClass E = some ce.cls)
    (hx : ∀ t : State, t.heap = H → s.vm.Alike t.vm → XC E s t) (hf : ∀ z ∈ locs, free z.base) (hc : cells ≤ mc) (hs : slots ≤ ms) :
    vx_W p l e R s m args below meth c H locs cells slots (vx_MQ below Qc XC args s mc ms free) (F0 m pc ls rest) q := by
  intro T hT X
  have hpl : e.platform.magicAccessors = ({} : Platform).magicAccessors := by rw [X.admits.platform]
  obtain ⟨vm', hW', X', st⟩ := X.outThrough hlocks q (g := F0 m pc ls rest) rfl rfl rfl (cell := ce) (by rw [hT]; exact hcell) (by rw [hv]; rfl)
    (by obtain ⟨k9, h9, -⟩ := Vm.findClass_spec hcl; exact ⟨k9, h9⟩) (fun z hz => by
      rcases hpass z hz with h | ⟨hz0, nm, hl1, hn1⟩
      · exact Or.inl h
      · obtain ⟨c6, hc6, hcl6⟩ := Cond.classLink_spec hown hl1 e.platform hpl
        obtain ⟨a8, b8, h1, h2, h3⟩ := hn1
        cases Option.some.inj (h1.symm.trans hcl)
        cases Option.some.inj (h2.symm.trans hc6)
        exact Or.inr ⟨hz0, _, hcl6, h3⟩)
  obtain ⟨g₀, hfr⟩ := X'.frames_eq
  have hcell9 : ((T.setVm vm').setFrames (.throwing q :: below)).heap[q]? = some ce := by
    show T.heap[q]? = some ce
    rw [hT]; exact hcell
  have hend : Ended ((T.setVm vm').setFrames (.throwing q :: below)) below (.threw q) := State.frames_setFrames _ (State.cur_lt_of_frames hfr)
  refine ⟨(T.setVm vm').setFrames (.throwing q :: below), ?_, .threw q, X'.here.running, hend, Or.inr ⟨q, rfl, E, ce, locs, hx _ hT (X'.ends _).1.alike, hcell9, hv, hcl, (X'.ends _).1, (X'.ends _).2.mono hc hs, hf⟩⟩
  rw [X.pushThrowing_eq]
  exact st
/-- a thing of a world lies in the heap -/
theorem vx_lt {D : va_G} {cl : List vw_C} {ws : va_W} {H1 : Heap} (h : va_P D cl ws H1) {k : Nat} {q : Nat × va_E} (hk : ws[k]? = some q) : q.1 < H1.size := (h k q hk).lt
end VXS
/-! ===== END ===== -/
/-! ===== BEGIN methods with a table of their own: called by a name, returning or throwing ===== -/
section VXH
/-! vx_backW, vx_callVX, vx_callSX, vx_callVW, vx_runVW, vx_runVX, vx_runSX, vx_ofWH follow the same proofs as their sisters above (Free/Laws.lean, Shelf42/LK1.lean); vx_outP calls Shelf42/NT130.lean (outThrough). -/
section
variable {l : Launch} {R : Room} {p : Program} {e : Env} {below : List Frame} {s : State} {sargs : Array Value} {y : MethodName} {len W9 : Nat}
theorem vx_backW {ws : List Cond} {rm : Room} {Pc : Array Value → State → Prop} {Qc : Array Value → State → Outcome → State → Prop} {XC : String → State → State → Prop} {mc ms : Nat} {free : Addr → Prop} {bytes : ByteArray} {maxL : Nat} {ret : Option FieldType} {hh : List (Nat × Nat × Nat × Nat)}
    (hM : vx_Met l y ws rm Pc Qc XC mc ms free) (hblind : FrameBlind Pc) (hrc : rm.cells = mc) (hrs : rm.slots = ms)
    (hframes : rm.frames + 1 ≤ R.frames) (hlocals : W9 + (maxL + 11) + rm.locals ≤ R.locals)
    (hws : ∀ w ∈ ws, ∀ a' U, s.WarmedH U.vm → w.before a' U = true) (hcode : Cond.codeWith y bytes maxL ret hh ∈ ws) (hinit : ∀ a' U, s.WarmedH U.vm → (Cond.initialized y.cls).before a' U = true) :
    vx_Back l R p e below s sargs y len W9 (PreOf R mc ms Pc) (PostOf Qc mc ms free) (vx_Post XC mc ms free) := by
  intro m meth c A g ig mk a X hg hsize hdg hW hn hp
  have h1 : (headSpec ws rm).pre.before a A.U = true := atoms_intro fun w hw => hws w hw _ _ X.warmed
  have h2 : (Cond.codeWith y bytes maxL ret hh).before a A.U = true := hws _ hcode _ _ X.warmed
  have h3 : (Cond.initialized y.cls).before a A.U = true := hinit _ _ X.warmed
  have h4 : A.cells + (headSpec ws rm).room.cells ≤ R.cells := by rw [show (headSpec ws rm).room.cells = mc from hrc]; exact hp.1
  have h5 : A.slots + (headSpec ws rm).room.slots ≤ R.slots := by rw [show (headSpec ws rm).room.slots = ms from hrs]; exact hp.2.1
  have hPc : Pc a (A.U.calling g mk a) := hblind _ _ _ _ hp.2.2
  obtain ⟨U, Ls, c0, s0⟩ := A
  dsimp only [Pt.U, Pt.locs, Pt.cells, Pt.slots] at h1 h2 h3 h4 h5 X hn hPc ⊢
  obtain ⟨m9, methY, cY, hn9, hmY, hcY, -, hlY, -⟩ := Cond.codeWith_spec h2
  cases Option.some.inj (hn9.symm.trans hn)
  obtain ⟨kY, hkY, -⟩ := className_of_methodNamed hn
  have hinitY : kY.init = .initialized := Cond.initialized_spec (findClass_of_methodNamed hn) hkY h3
  have h : At U g.method c below := by rw [hg]; exact X.here
  have hlocals9 : W9 + (maxL + 11) + (headSpec ws rm).room.locals ≤ R.locals := hlocals
  have happ : (headSpec ws rm).appliesLoose y e.platform (U.calling g mk a) = true :=
    Spec.appliesLoose_calling (g := g) h hdg hn hkY hinitY
      (X.room_calling (g := g) (R' := (headSpec ws rm).room) hsize hmY hcY hframes (by rw [hlY]; omega) h4 h5) h1
  obtain ⟨mid, hmid⟩ := h.above
  have hfr : (U.setTop g).frames = (.java g :: mid) ++ below := by rw [State.frames_setTop' g h.top, hmid]; rfl
  obtain ⟨o, s₂, hsteps, -, hend, hq⟩ := Steps.callFree hM p X.admits X.cas X.clock (acts := []) hfr happ hPc trivial
  have hq' : vx_Q Qc XC mc ms free a (U.calling g mk a) o s₂ := hq
  rw [State.frames_setTop' g h.top] at hend
  obtain ⟨g₀, hg0⟩ := Option.isSome_iff_exists.mp h.top
  obtain ⟨r, hr⟩ := State.topJava?_eq_some.mp hg0
  have hr' : (({ U with heap := s₂.heap, slotsUsed := s₂.slotsUsed } : State).setVm s₂.vm).frames = .java g₀ :: r := hr
  rcases hq' with ⟨hqc, L, hfe, hL⟩ | ⟨q, rfl, E, ce, L, hx, hce, hcv, hcl, hW₂, hsm, hL⟩
  · obtain ⟨⟨v, rfl⟩, hW₂, e2, q2, q3, q4, q5, q6⟩ := id hfe
    have e3 : s₂ = ({ (U.calling g mk a).setFrames s₂.frames with heap := s₂.heap, slotsUsed := s₂.slotsUsed } : State).setVm s₂.vm := by
      have : s₂ = ({ s₂ with vm := (U.calling g mk a).vm } : State).setVm s₂.vm := rfl
      rw [e2] at this
      exact this
    obtain ⟨c₂, i₂, len₂, hc₂, hd₂, hf₂⟩ := hend
    have hW' : U.WarmedH s₂.vm := hW₂
    have hcc : c₂ = c := by
      have h1 : s₂.code? g.method = U.code? g.method := by
        rw [State.code?_eq, State.code?_eq, hW'.alike.method?]
      exact Option.some.inj (hc₂.symm.trans (h1.trans h.code))
    subst hcc
    have hlen : len₂ = len := by rw [hdg] at hd₂; cases hd₂; rfl
    subst hlen
    have hs₂ : s₂ = (({ U with heap := s₂.heap, slotsUsed := s₂.slotsUsed } : State).setVm s₂.vm).setTop { g with pc := g.pc + len₂, stack := v.toList ++ g.stack } := by
      refine e3.trans ?_
      rw [hf₂, State.calling_eq h.top, State.setFrames_setFrames, State.setTop_of_frames _ hr', hr]
      rfl
    have hsame : U.sameButNew ({ U with heap := s₂.heap, slotsUsed := s₂.slotsUsed } : State) L mc ms := by
      refine ⟨?_, q2, q3, q4, q5, q6⟩
      obtain ⟨t, ht, -⟩ := State.frames_cons hr
      show ({ U with heap := s₂.heap, slotsUsed := s₂.slotsUsed } : State) = { U.setFrames U.frames with heap := s₂.heap, slotsUsed := s₂.slotsUsed }
      rw [State.setFrames_self ht]
    subst hg
    refine Or.inl ⟨v, ⟨(({ U with heap := s₂.heap, slotsUsed := s₂.slotsUsed } : State).setVm s₂.vm), Ls ++ L, c0 + mc, s0 + ms⟩,
      ⟨X.admits, X.cas, X.clock, X.frames, X.room, X.hears, X.method, X.code, (X.here.setHeapUsed s₂.heap s₂.slotsUsed).setVm hW'.alike, X.tail, State.WarmedH.trans X.warmed hW', X.limits, X.bytes, X.same.trans (hsame.setVm s.vm)⟩,
      ⟨g, mk, s₂, L, rfl, rfl, hqc, rfl, hL, rfl, rfl⟩, ?_⟩
    show Steps p.tables e below _ ((({ U with heap := s₂.heap, slotsUsed := s₂.slotsUsed } : State).setVm s₂.vm).setTop { g with pc := g.pc + len₂, stack := v.toList ++ g.stack })
    rw [← hs₂]
    exact hsteps
  · obtain ⟨e2, q2, q3, q4, q5, q6⟩ := id hsm
    have e3 : s₂ = ({ (U.calling g mk a).setFrames s₂.frames with heap := s₂.heap, slotsUsed := s₂.slotsUsed } : State).setVm s₂.vm := by
      have : s₂ = ({ s₂ with vm := (U.calling g mk a).vm } : State).setVm s₂.vm := rfl
      rw [e2] at this
      exact this
    have hf₂ : s₂.frames = .throwing q :: .java g :: U.frames.tail := hend
    have hW' : U.WarmedH s₂.vm := hW₂
    have hs₂ : s₂ = ((({ U with heap := s₂.heap, slotsUsed := s₂.slotsUsed } : State).setVm s₂.vm).setTop g).pushFrame (.throwing q) := by
      refine e3.trans ?_
      rw [hf₂, State.calling_eq h.top, State.setFrames_setFrames, State.pushFrame, State.frames_setTop _ hr', State.setTop_of_frames _ hr', State.setFrames_setFrames, hr]
      rfl
    have hsame : U.sameButNew ({ U with heap := s₂.heap, slotsUsed := s₂.slotsUsed } : State) L mc ms := by
      refine ⟨?_, q2, q3, q4, q5, q6⟩
      obtain ⟨t, ht, -⟩ := State.frames_cons hr
      show ({ U with heap := s₂.heap, slotsUsed := s₂.slotsUsed } : State) = { U.setFrames U.frames with heap := s₂.heap, slotsUsed := s₂.slotsUsed }
      rw [State.setFrames_self ht]
    subst hg
    refine Or.inr ⟨q, ⟨(({ U with heap := s₂.heap, slotsUsed := s₂.slotsUsed } : State).setVm s₂.vm), Ls ++ L, c0 + mc, s0 + ms⟩,
      ⟨X.admits, X.cas, X.clock, X.frames, X.room, X.hears, X.method, X.code, (X.here.setHeapUsed s₂.heap s₂.slotsUsed).setVm hW'.alike, X.tail, State.WarmedH.trans X.warmed hW', X.limits, X.bytes, X.same.trans (hsame.setVm s.vm)⟩,
      ⟨g, mk, s₂, L, E, ce, rfl, rfl, hx, hce, hcv, hcl, rfl, hL, rfl, rfl⟩, ?_⟩
    show Steps p.tables e below _ (((({ U with heap := s₂.heap, slotsUsed := s₂.slotsUsed } : State).setVm s₂.vm).setTop g).pushFrame (.throwing q))
    rw [← hs₂]
    exact hsteps
end
variable {p : Program} {l : Launch} {e : Env} {R : Room} {s : State} {m : MethodId} {args : Array Value} {below : List Frame} {meth : Method} {c : Code} {T : State} {H : Heap} {locs : List Loc} {cells slots : Nat}
theorem vx_callVX (X : Stand p l e R s m args below meth c T locs cells slots) (hexec : p.tables.exec = Jvm.exec) {own C : String} {index : Nat} {y : MethodName} {bytes : ByteArray} {maxL : Nat} {ret : Option FieldType} {hh : List (Nat × Nat × Nat × Nat)}
    (hown : s.vm.findClass own = some m.cls) (hlink : (Cond.methodLink own index y).before args s = true) (hinst : (Cond.instanceMethod y).before args s = true) (hsel : (Cond.selects C y y).before args s = true)
    (hcode : (Cond.codeWith y bytes maxL ret hh).before args s = true) (hy : y.cls ≠ "java/lang/invoke/MethodHandle" ∧ y.cls ≠ "java/lang/invoke/VarHandle")
    {W9 : Nat} {Pre : Pt → Array Value → Prop} {Post : Pt → Array Value → Option Value → Pt → Prop} {PostX : Pt → Array Value → Addr → Pt → Prop} (hK : vx_Back l R p e below s args y 3 W9 Pre Post PostX)
    {b : Addr} {cellB : Cell} (hcell : T.heap[b]? = some cellB) (hobj : cellB.vm.isStatics = false) (hcls : s.vm.findClass C = some cellB.cls)
    {g : JFrame} (hg : g.method = m) (hsize : g.locals.size = c.maxLocals) {argsL rest : List Value} (hlen : ∀ sig, parseMethodDescriptor y.desc = some sig → argsL.length = sig.parameters.length)
    (hstack : g.stack = argsL.reverse ++ .ref b :: rest) (hW : 2 * g.monitorRoom + (rest.map fun v => v.category).sum ≤ W9) (hdg : decode c.code g.pc = .ok (.invokevirtual index, 3))
    (hpre : ∀ vm₁, s.WarmedH vm₁ → Pre ⟨T.setVm vm₁, locs, cells, slots⟩ (Value.ref b :: argsL).toArray) :
    (∃ (v : Option Value) (vm₁ : Vm) (B : Pt), s.WarmedH vm₁ ∧ Stand p l e R s m args below meth c B.U B.locs B.cells B.slots ∧ Post ⟨T.setVm vm₁, locs, cells, slots⟩ (Value.ref b :: argsL).toArray v B ∧
      ∀ target, Steps p.tables e below (B.U.setTop { g with pc := g.pc + 3, stack := v.toList ++ rest }) target → Steps p.tables e below (T.setTop g) target) ∨
    (∃ (q : Addr) (vm₁ : Vm) (B : Pt), s.WarmedH vm₁ ∧ Stand p l e R s m args below meth c B.U B.locs B.cells B.slots ∧ PostX ⟨T.setVm vm₁, locs, cells, slots⟩ (Value.ref b :: argsL).toArray q B ∧
      Steps p.tables e below (T.setTop g) ((B.U.setTop { g with stack := rest }).pushFrame (.throwing q))) := by
  obtain ⟨mk, methM, hnamed, hmethM, hstM, habM⟩ := Cond.instanceMethod_spec hinst
  obtain ⟨m8, methM', cM, hn8, hmethM', -, -, -, -, -, -, hsigM⟩ := Cond.codeWith_spec hcode
  cases Option.some.inj (hn8.symm.trans hnamed)
  cases hmethM.symm.trans hmethM'
  obtain ⟨c2, r2, m2, q1, q2, q3, q4, kP, hkP, hkPi⟩ := Cond.selects_spec hsel
  cases hcls.symm.trans q1
  cases (State.methodFound?_of_named hnamed hy).symm.trans q2
  cases hnamed.symm.trans q3
  have hselP : selectMethod e.platform s.vm cellB.cls mk = .method mk := by rw [Launch.admits_selectMethod X.admits]; exact q4
  obtain ⟨vm₁, X₁, hstep₁⟩ := X.invokevirtual hexec hown hlink hnamed hmethM hstM hkP hkPi hy (a := b) (cell := cellB) hcell
    (fun z h => by rw [h] at hobj; cases hobj) hselP hmethM habM hkP hkPi (g := g) hg (argsL := argsL) (rest := rest) (hlen _ hsigM) hstack hdg
  rcases hK m meth c ⟨T.setVm vm₁, locs, cells, slots⟩ { g with stack := rest } (.invokevirtual index) mk (Value.ref b :: argsL).toArray X₁ hg hsize hdg hW (X₁.named hnamed) (hpre vm₁ X₁.warmed) with ⟨v, B, X', hpost, hsteps⟩ | ⟨q, B, X', hpost, hsteps⟩
  · exact Or.inl ⟨v, vm₁, B, X₁.warmed, X', hpost, fun target h => hstep₁ _ fun acts => by rw [doInvoke_state]; exact hsteps.trans h⟩
  · exact Or.inr ⟨q, vm₁, B, X₁.warmed, X', hpost, hstep₁ _ fun acts => by rw [doInvoke_state]; exact hsteps⟩
theorem vx_callSX (X : Stand p l e R s m args below meth c T locs cells slots) (hexec : p.tables.exec = Jvm.exec) {own : String} {index : Nat} {y : MethodName} {bytes : ByteArray} {maxL : Nat} {ret : Option FieldType} {hh : List (Nat × Nat × Nat × Nat)}
    (hown : s.vm.findClass own = some m.cls) (hlink : (Cond.methodLink own index y).before args s = true) (hstat : (Cond.static y).before args s = true) (hinit : (Cond.initialized y.cls).before args s = true)
    (hcode : (Cond.codeWith y bytes maxL ret hh).before args s = true) (hy : y.cls ≠ "java/lang/invoke/MethodHandle" ∧ y.cls ≠ "java/lang/invoke/VarHandle")
    {W9 : Nat} {Pre : Pt → Array Value → Prop} {Post : Pt → Array Value → Option Value → Pt → Prop} {PostX : Pt → Array Value → Addr → Pt → Prop} (hK : vx_Back l R p e below s args y 3 W9 Pre Post PostX)
    {g : JFrame} (hg : g.method = m) (hsize : g.locals.size = c.maxLocals) {argsL rest : List Value} (hlen : ∀ sig, parseMethodDescriptor y.desc = some sig → argsL.length = sig.parameters.length)
    (hstack : g.stack = argsL.reverse ++ rest) (hW : 2 * g.monitorRoom + (rest.map fun v => v.category).sum ≤ W9) (hdg : decode c.code g.pc = .ok (.invokestatic index, 3))
    (hpre : ∀ vm₁, s.WarmedH vm₁ → Pre ⟨T.setVm vm₁, locs, cells, slots⟩ argsL.toArray) :
    (∃ (v : Option Value) (vm₁ : Vm) (B : Pt), s.WarmedH vm₁ ∧ Stand p l e R s m args below meth c B.U B.locs B.cells B.slots ∧ Post ⟨T.setVm vm₁, locs, cells, slots⟩ argsL.toArray v B ∧
      ∀ target, Steps p.tables e below (B.U.setTop { g with pc := g.pc + 3, stack := v.toList ++ rest }) target → Steps p.tables e below (T.setTop g) target) ∨
    (∃ (q : Addr) (vm₁ : Vm) (B : Pt), s.WarmedH vm₁ ∧ Stand p l e R s m args below meth c B.U B.locs B.cells B.slots ∧ PostX ⟨T.setVm vm₁, locs, cells, slots⟩ argsL.toArray q B ∧
      Steps p.tables e below (T.setTop g) ((B.U.setTop { g with stack := rest }).pushFrame (.throwing q))) := by
  obtain ⟨mk, methM, cM, hnamed, hmethM, -, -, -, -, -, -, hsigM⟩ := Cond.codeWith_spec hcode
  have hstatic : methM.isStatic = true := Cond.static_spec hnamed hmethM hstat
  obtain ⟨kP, hkP, -⟩ := className_of_methodNamed hnamed
  have hinitP : kP.init = .initialized := Cond.initialized_spec (findClass_of_methodNamed hnamed) hkP hinit
  obtain ⟨vm₁, X₁, hstep₁⟩ := X.invokestatic hexec hown hlink hnamed hmethM hstatic hkP hinitP hy (g := g) hg (argsL := argsL) (rest := rest) (hlen _ hsigM) hstack hdg
  rcases hK m meth c ⟨T.setVm vm₁, locs, cells, slots⟩ { g with stack := rest } (.invokestatic index) mk argsL.toArray X₁ hg hsize hdg hW (X₁.named hnamed) (hpre vm₁ X₁.warmed) with ⟨v, B, X', hpost, hsteps⟩ | ⟨q, B, X', hpost, hsteps⟩
  · exact Or.inl ⟨v, vm₁, B, X₁.warmed, X', hpost, fun target h => hstep₁ _ fun acts => by rw [doInvoke_state]; exact hsteps.trans h⟩
  · exact Or.inr ⟨q, vm₁, B, X₁.warmed, X', hpost, hstep₁ _ fun acts => by rw [doInvoke_state]; exact hsteps⟩
theorem vx_callVW (X : Stand p l e R s m args below meth c T locs cells slots) (hexec : p.tables.exec = Jvm.exec) {own C : String} {index : Nat} {y : MethodName} {bytes : ByteArray} {maxL : Nat} {ret : Option FieldType} {hh : List (Nat × Nat × Nat × Nat)}
    (hown : s.vm.findClass own = some m.cls) (hlink : (Cond.methodLink own index y).before args s = true) (hinst : (Cond.instanceMethod y).before args s = true) (hsel : (Cond.selects C y y).before args s = true)
    (hcode : (Cond.codeWith y bytes maxL ret hh).before args s = true) (hy : y.cls ≠ "java/lang/invoke/MethodHandle" ∧ y.cls ≠ "java/lang/invoke/VarHandle")
    {W9 : Nat} {Pre : Pt → Array Value → Prop} {Post : Pt → Array Value → Option Value → Pt → Prop} (hK : Back l R p e below s args y 3 W9 Pre Post)
    {b : Addr} {cellB : Cell} (hcell : T.heap[b]? = some cellB) (hobj : cellB.vm.isStatics = false) (hcls : s.vm.findClass C = some cellB.cls)
    {g : JFrame} (hg : g.method = m) (hsize : g.locals.size = c.maxLocals) {argsL rest : List Value} (hlen : ∀ sig, parseMethodDescriptor y.desc = some sig → argsL.length = sig.parameters.length)
    (hstack : g.stack = argsL.reverse ++ .ref b :: rest) (hW : 2 * g.monitorRoom + (rest.map fun v => v.category).sum ≤ W9) (hdg : decode c.code g.pc = .ok (.invokevirtual index, 3))
    (hpre : ∀ vm₁, s.WarmedH vm₁ → Pre ⟨T.setVm vm₁, locs, cells, slots⟩ (Value.ref b :: argsL).toArray) :
    ∃ (v : Option Value) (vm₁ : Vm) (B : Pt), s.WarmedH vm₁ ∧ Stand p l e R s m args below meth c B.U B.locs B.cells B.slots ∧ Post ⟨T.setVm vm₁, locs, cells, slots⟩ (Value.ref b :: argsL).toArray v B ∧
      ∀ target, Steps p.tables e below (B.U.setTop { g with pc := g.pc + 3, stack := v.toList ++ rest }) target → Steps p.tables e below (T.setTop g) target := by
  obtain ⟨mk, methM, hnamed, hmethM, hstM, habM⟩ := Cond.instanceMethod_spec hinst
  obtain ⟨m8, methM', cM, hn8, hmethM', -, -, -, -, -, -, hsigM⟩ := Cond.codeWith_spec hcode
  cases Option.some.inj (hn8.symm.trans hnamed)
  cases hmethM.symm.trans hmethM'
  obtain ⟨c2, r2, m2, q1, q2, q3, q4, kP, hkP, hkPi⟩ := Cond.selects_spec hsel
  cases hcls.symm.trans q1
  cases (State.methodFound?_of_named hnamed hy).symm.trans q2
  cases hnamed.symm.trans q3
  have hselP : selectMethod e.platform s.vm cellB.cls mk = .method mk := by rw [Launch.admits_selectMethod X.admits]; exact q4
  obtain ⟨vm₁, X₁, hstep₁⟩ := X.invokevirtual hexec hown hlink hnamed hmethM hstM hkP hkPi hy (a := b) (cell := cellB) hcell
    (fun z h => by rw [h] at hobj; cases hobj) hselP hmethM habM hkP hkPi (g := g) hg (argsL := argsL) (rest := rest) (hlen _ hsigM) hstack hdg
  obtain ⟨v, B, X', hpost, hsteps⟩ := hK m meth c ⟨T.setVm vm₁, locs, cells, slots⟩ { g with stack := rest } (.invokevirtual index) mk (Value.ref b :: argsL).toArray X₁ hg hsize hdg hW (X₁.named hnamed) (hpre vm₁ X₁.warmed)
  exact ⟨v, vm₁, B, X₁.warmed, X', hpost, fun target h => hstep₁ _ fun acts => by rw [doInvoke_state]; exact hsteps.trans h⟩
abbrev vx_CVW (R : Room) (s : State) (args : Array Value) (own C : String) (index : Nat) (y : MethodName) (bytes : ByteArray) (maxL : Nat) (ret : Option FieldType) (hh : List (Nat × Nat × Nat × Nat)) (ws : List Cond) (rm : Room) (mc ms n : Nat) : Prop :=
  (rm.cells = mc ∧ rm.slots = ms ∧ rm.frames + 1 ≤ R.frames ∧ 8 + (maxL + 11) + rm.locals ≤ R.locals ∧ (∀ w ∈ ws, ∀ (a' : Array Value) (U : State), s.WarmedH U.vm → w.before a' U = true) ∧ Cond.codeWith y bytes maxL ret hh ∈ ws) ∧
  (Cond.codeWith y bytes maxL ret hh).before args s = true ∧ (Cond.initialized y.cls).before args s = true ∧ (y.cls ≠ "java/lang/invoke/MethodHandle" ∧ y.cls ≠ "java/lang/invoke/VarHandle") ∧
  (∀ sig, parseMethodDescriptor y.desc = some sig → n = sig.parameters.length) ∧ (Cond.methodLink own index y).before args s = true ∧ (Cond.instanceMethod y).before args s = true ∧ (Cond.selects C y y).before args s = true
theorem vx_cwVW {own C : String} {index maxL mc ms : Nat} {y : MethodName} {bytes : ByteArray} {ret : Option FieldType} {hh : List (Nat × Nat × Nat × Nat)} {Ts ws ws' : List Cond} {rm : Room} (n : Nat) (ht : ∀ w ∈ Ts, w.before args s = true) (hT : GoodIn Ts (wsV own index C y ws)) (hw : ws = Cond.codeWith y bytes maxL ret hh :: ws') (hrc : rm.cells = mc) (hrs : rm.slots = ms)
    (hd : y.cls = C ∧ y.cls ≠ "java/lang/invoke/MethodHandle" ∧ y.cls ≠ "java/lang/invoke/VarHandle" ∧ (parseMethodDescriptor y.desc).map (fun d => d.parameters.length) = some n) (hR : rm.frames + 1 ≤ R.frames ∧ 8 + (maxL + 11) + rm.locals ≤ R.locals) :
    vx_CVW R s args own C index y bytes maxL ret hh ws rm mc ms n := by
  obtain ⟨hC, hd⟩ := hd
  subst hC
  have ok : ∀ w ∈ wsV own index y.cls y ws, w.before args s = true := fun w h => ht w (hT w h).1
  have hG : GoodIn Ts ws := fun w h => hT w (by unfold wsV; exact List.mem_append_right _ h)
  have hc : Cond.codeWith y bytes maxL ret hh ∈ ws := by rw [hw]; exact List.mem_cons_self
  refine ⟨⟨hrc, hrs, hR.1, hR.2, pay_in ht hG, hc⟩, ht _ (hG _ hc).1, ok _ (by simp [wsV]), ⟨hd.1, hd.2.1⟩, fun sig h => ?_, ok _ (by simp [wsV]), ok _ (by simp [wsV]), ok _ (by simp [wsV])⟩
  have h2 := hd.2.2
  rw [h] at h2
  exact (Option.some.inj h2).symm
theorem vx_runVW {y : MethodName} {bytes cc : ByteArray} {maxL nL mc ms n index : Nat} {ret : Option FieldType} {hh : List (Nat × Nat × Nat × Nat)} {ws : List Cond} {rm : Room} {Pc : Array Value → State → Prop} {Qc : Array Value → State → Outcome → State → Prop} {free : Addr → Prop} {Ts : List Cond} {own C : String} {b : Addr} {As rest : List Value} {g : JFrame}
    (S : CallFix p m c cc nL s args Ts own) (hM : Met l y ws rm Pc Qc mc ms free) (cw : vx_CVW R s args own C index y bytes maxL ret hh ws rm mc ms n) (hp : PreV s H C b Pc As)
    (hg : g.method = m) (hn : As.length = n) (hsize : g.locals.size = nL) (hstack : g.stack = As.reverse ++ .ref b :: rest) (hW : 2 * g.monitorRoom + (rest.map fun v => v.category).sum ≤ 8) (hdg : decode cc g.pc = .ok (.invokevirtual index, 3)) (hf : cells + mc ≤ R.cells ∧ slots + ms ≤ R.slots) :
    va_Run p l e R s m args below meth c H locs cells slots mc ms g rest (Qc (Value.ref b :: As).toArray) free := by
  obtain ⟨⟨hrc, hrs, hfr, hlo, hws, hcw⟩, hcode, hini, hy, hlen, hl, hin, hse⟩ := cw
  have hK : Back l R p e below s args y 3 8 (PreOf R mc ms Pc) (PostOf Qc mc ms free) := va_backW (hh := hh) (bytes := bytes) (maxL := maxL) (ret := ret) hM hp.1 hrc hrs hfr hlo hws hcw (fun a' U hW => word_at hW (Or.inl (by first | rfl | simp [Cond.onTables, Cond.keeps, Cond.steady])) hini)
  obtain ⟨hx, hb, hml, ho, -⟩ := S
  obtain ⟨-, ⟨cellB, hcB, hoB, hclB⟩, hPc⟩ := hp
  intro T hT X
  obtain ⟨v, vm₁, ⟨U', l2, c2, s2⟩, hW₁, X', ⟨g', mk, t, L, e1, e2, hq, h1, hL, h2, h3⟩, st⟩ := vx_callVW X hx (C := C) (hh := hh) (bytes := bytes) (maxL := maxL) (ret := ret) ho hl hin hse hcode hy hK (by rw [hT]; exact hcB) hoB hclB hg (hsize.trans hml.symm) (argsL := As) (rest := rest) (fun sig h => hn.trans (hlen sig h)) hstack hW (by rw [hb]; exact hdg)
    (fun vm₁ hW₁ => ⟨hf.1, hf.2, hPc (T.setVm vm₁) hT hW₁⟩)
  dsimp only [Pt.U, Pt.locs, Pt.cells, Pt.slots] at X' e1 e2 h1 h2 h3 st
  subst h1; subst h2; subst h3
  exact ⟨v, (T.setVm vm₁).calling g' mk (Value.ref b :: As).toArray, t, U', L, hT, X', hL, e1, e2, hq, st⟩
section
variable {y : MethodName} {bytes cc : ByteArray} {maxL nL mc ms n index : Nat} {ret : Option FieldType} {ws : List Cond} {rm : Room} {Pc : Array Value → State → Prop} {Qc : Array Value → State → Outcome → State → Prop} {XC : String → State → State → Prop} {free : Addr → Prop} {Ts : List Cond} {own C : String} {b : Addr} {As rest : List Value} {g : JFrame}
theorem vx_runVX {hh : List (Nat × Nat × Nat × Nat)} (S : CallFix p m c cc nL s args Ts own) (hM : vx_Met l y ws rm Pc Qc XC mc ms free) (cw : vx_CVW R s args own C index y bytes maxL ret hh ws rm mc ms n) (hp : PreV s H C b Pc As)
    (hg : g.method = m) (hn : As.length = n) (hsize : g.locals.size = nL) (hstack : g.stack = As.reverse ++ .ref b :: rest) (hW : 2 * g.monitorRoom + (rest.map fun v => v.category).sum ≤ 8) (hdg : decode cc g.pc = .ok (.invokevirtual index, 3)) (hf : cells + mc ≤ R.cells ∧ slots + ms ≤ R.slots) :
    vx_Run p l e R s m args below meth c H locs cells slots mc ms g rest (Qc (Value.ref b :: As).toArray) XC free := by
  obtain ⟨⟨hrc, hrs, hfr, hlo, hws, hcw⟩, hcode, hini, hy, hlen, hl, hin, hse⟩ := cw
  have hK : vx_Back l R p e below s args y 3 8 (PreOf R mc ms Pc) (PostOf Qc mc ms free) (vx_Post XC mc ms free) := vx_backW (hh := hh) (bytes := bytes) (maxL := maxL) (ret := ret) hM hp.1 hrc hrs hfr hlo hws hcw (fun a' U hW => word_at hW (Or.inl (by first | rfl | simp [Cond.onTables, Cond.keeps, Cond.steady])) hini)
  obtain ⟨hx, hb, hml, ho, -⟩ := S
  obtain ⟨-, ⟨cellB, hcB, hoB, hclB⟩, hPc⟩ := hp
  intro T hT X
  rcases vx_callVX X hx (C := C) (hh := hh) (bytes := bytes) (maxL := maxL) (ret := ret) ho hl hin hse hcode hy hK (by rw [hT]; exact hcB) hoB hclB hg (hsize.trans hml.symm) (argsL := As) (rest := rest) (fun sig h => hn.trans (hlen sig h)) hstack hW (by rw [hb]; exact hdg)
    (fun vm₁ hW₁ => ⟨hf.1, hf.2, hPc (T.setVm vm₁) hT hW₁⟩) with ⟨v, vm₁, ⟨U', l2, c2, s2⟩, hW₁, X', ⟨g', mk, t, L, e1, e2, hq, h1, hL, h2, h3⟩, st⟩ | ⟨q, vm₁, ⟨U', l2, c2, s2⟩, hW₁, X', ⟨g', mk, t, L, E, ce, e1, e2, hq, hce, hcv, hcl, h1, hL, h2, h3⟩, st⟩
  · dsimp only [Pt.U, Pt.locs, Pt.cells, Pt.slots] at X' e1 e2 h1 h2 h3 st
    subst h1; subst h2; subst h3
    exact Or.inl ⟨v, (T.setVm vm₁).calling g' mk (Value.ref b :: As).toArray, t, U', L, hT, X', hL, e1, e2, hq, st⟩
  · dsimp only [Pt.U, Pt.locs, Pt.cells, Pt.slots] at X' e1 e2 h1 h2 h3 st hcl
    subst h1; subst h2; subst h3
    exact Or.inr ⟨q, (T.setVm vm₁).calling g' mk (Value.ref b :: As).toArray, t, U', L, E, ce, hT, X', hL, e1, e2, hq, hce, hcv, vx_cls hW₁ hcl, st⟩
theorem vx_runSX {hh : List (Nat × Nat × Nat × Nat)} (S : CallFix p m c cc nL s args Ts own) (hM : vx_Met l y ws rm Pc Qc XC mc ms free) (cw : vx_CSW R s args own index y bytes maxL ret hh ws rm mc ms n) (hp : PreS s H Pc As)
    (hg : g.method = m) (hn : As.length = n) (hsize : g.locals.size = nL) (hstack : g.stack = As.reverse ++ rest) (hW : 2 * g.monitorRoom + (rest.map fun v => v.category).sum ≤ 8) (hdg : decode cc g.pc = .ok (.invokestatic index, 3)) (hf : cells + mc ≤ R.cells ∧ slots + ms ≤ R.slots) :
    vx_Run p l e R s m args below meth c H locs cells slots mc ms g rest (Qc As.toArray) XC free := by
  obtain ⟨⟨hrc, hrs, hfr, hlo, hws, hcw⟩, hcode, hini, hy, hlen, hl, hstt⟩ := cw
  have hK : vx_Back l R p e below s args y 3 8 (PreOf R mc ms Pc) (PostOf Qc mc ms free) (vx_Post XC mc ms free) := vx_backW (hh := hh) (bytes := bytes) (maxL := maxL) (ret := ret) hM hp.1 hrc hrs hfr hlo hws hcw (fun a' U hW => word_at hW (Or.inl (by first | rfl | simp [Cond.onTables, Cond.keeps, Cond.steady])) hini)
  obtain ⟨hx, hb, hml, ho, -⟩ := S
  intro T hT X
  rcases vx_callSX X hx (hh := hh) (bytes := bytes) (maxL := maxL) (ret := ret) ho hl hstt hini hcode hy hK hg (hsize.trans hml.symm) (argsL := As) (rest := rest) (fun sig h => hn.trans (hlen sig h)) hstack hW (by rw [hb]; exact hdg)
    (fun vm₁ hW₁ => ⟨hf.1, hf.2, hp.2 (T.setVm vm₁) hT hW₁⟩) with ⟨v, vm₁, ⟨U', l2, c2, s2⟩, hW₁, X', ⟨g', mk, t, L, e1, e2, hq, h1, hL, h2, h3⟩, st⟩ | ⟨q, vm₁, ⟨U', l2, c2, s2⟩, hW₁, X', ⟨g', mk, t, L, E, ce, e1, e2, hq, hce, hcv, hcl, h1, hL, h2, h3⟩, st⟩
  · dsimp only [Pt.U, Pt.locs, Pt.cells, Pt.slots] at X' e1 e2 h1 h2 h3 st
    subst h1; subst h2; subst h3
    exact Or.inl ⟨v, (T.setVm vm₁).calling g' mk As.toArray, t, U', L, hT, X', hL, e1, e2, hq, st⟩
  · dsimp only [Pt.U, Pt.locs, Pt.cells, Pt.slots] at X' e1 e2 h1 h2 h3 st hcl
    subst h1; subst h2; subst h3
    exact Or.inr ⟨q, (T.setVm vm₁).calling g' mk As.toArray, t, U', L, E, ce, hT, X', hL, e1, e2, hq, hce, hcv, vx_cls hW₁ hcl, st⟩
end
end VXH
theorem vx_ofWH {l : Launch} {y : MethodName} {ws ws' : List Cond} {rm : Room} {Pc : Array Value → State → Prop} {Qc : Array Value → State → Outcome → State → Prop} {XC : String → State → State → Prop} {mc ms : Nat} {free : Addr → Prop} {cc : ByteArray} {maxL : Nat} {ret : Option FieldType} {hh : List (Nat × Nat × Nat × Nat)}
    (hy : plainName y.cls = true) (hw : ws = Cond.codeWith y cc maxL ret hh :: ws')
    (body : ∀ p e s m args below meth c s₁, BodyLoose p l y (headSpec ws rm) cc maxL ret e s m args below meth c s₁ → c.maxLocals = maxL → Pc args s →
      W p l e (headSpec ws rm).room s m args below meth c s.heap [] 0 0 (vx_MQ below Qc XC args s mc ms free) (entryFrame m args maxL)) : vx_Met l y ws rm Pc Qc XC mc ms free := by
  refine MetFree.of_bodyS (code := cc) (maxLocals := maxL) (ret := ret) hy ?_ ?_
  · intro args s m h hn
    obtain ⟨m9, meth, c, hn9, h1, h2, h3, h4, -, h5, h6, -⟩ := Cond.codeWith_spec (atoms_spec (ws := ws) h _ (by rw [hw]; exact List.mem_cons_self))
    cases hn.symm.trans hn9
    exact ⟨meth, c, h1, h2, h3, h4, h5, h6⟩
  · intro p e s m args below meth c s₁ B hml hP _
    have hh0 : s₁.heap = s.heap := by rw [B.state]; rfl
    obtain ⟨t, a1, o, b1, b2, b3⟩ := body p e s m args below meth c s₁ B hml hP s₁ hh0 (Stand.of_body B)
    exact ⟨t, o, a1, b1, b2, b3⟩
/-! ===== END ===== -/
end
section
/-! ===== BEGIN printed: names, fields, word lists, decode rows ===== -/
def RX0 : String := "WellField"
def TX0 : u_T := fun k => match k with
  | 0 => ("WellField", "wellPlaces", "[I", true)
  | 1 => ("WellField", "wellZones", "[I", true)
  | 2 => ("WellField", "licences", "[I", true)
  | 3 => ("WellField", "pumping", "[[I", true)
  | 4 => ("WellField", "watchPlaces", "[I", true)
  | 5 => ("WellField", "limits", "[I", true)
  | 6 => ("WellField", "table", "[[I", true)
  | 7 => ("WellField", "tableSums", "[I", true)
  | 8 => ("WellField", "ratios", "[[I", true)
  | 9 => ("WellField", "pulses", "[J", true)
  | 10 => ("WellField", "wellCount", "I", false)
  | _ => ("WellField", "watchCount", "I", false)
def tyX0 : Nat → FieldType := fun k => match k with
  | 0 => .array .int
  | 1 => .array .int
  | 2 => .array .int
  | 3 => .array (.array .int)
  | 4 => .array .int
  | 5 => .array .int
  | 6 => .array (.array .int)
  | 7 => .array .int
  | 8 => .array (.array .int)
  | 9 => .array .long
  | 10 => .int
  | _ => .int
abbrev wsX00 : List Cond := u_ws RX0 TX0 12
theorem nmX0 : ∀ a, a < 12 → ∀ b, b < 12 → a ≠ b → (TX0 a).2.1 ≠ (TX0 b).2.1 := by decide +kernel
theorem tyX0_ok : ∀ k, k < 12 → parseFieldDescriptor (TX0 k).2.2.1 = some (tyX0 k) := by decide +kernel
abbrev cX0_init : ByteArray := prog_1_method_1_code
def yX0_init : MethodName := ⟨RX0, "<init>", "()V"⟩
abbrev cX0_well : ByteArray := prog_1_method_2_code
def yX0_well : MethodName := ⟨RX0, "well", "(III)I"⟩
abbrev cX0_watch : ByteArray := prog_1_method_3_code
def yX0_watch : MethodName := ⟨RX0, "watch", "(II)I"⟩
abbrev cX0_response : ByteArray := prog_1_method_4_code
def yX0_response : MethodName := ⟨RX0, "response", "(III)I"⟩
abbrev cX0_wells : ByteArray := prog_1_method_5_code
def yX0_wells : MethodName := ⟨RX0, "wells", "()I"⟩
abbrev cX0_watches : ByteArray := prog_1_method_6_code
def yX0_watches : MethodName := ⟨RX0, "watches", "()I"⟩
abbrev cX0_pump : ByteArray := prog_1_method_7_code
def yX0_pump : MethodName := ⟨RX0, "pump", "(III)I"⟩
abbrev cX0_rest : ByteArray := prog_1_method_8_code
def yX0_rest : MethodName := ⟨RX0, "rest", "(III)I"⟩
abbrev cX0_pumped : ByteArray := prog_1_method_9_code
def yX0_pumped : MethodName := ⟨RX0, "pumped", "(II)I"⟩
abbrev cX0_beyond : ByteArray := prog_1_method_10_code
def yX0_beyond : MethodName := ⟨RX0, "beyond", "(I)I"⟩
abbrev cX0_drawdown : ByteArray := prog_1_method_11_code
def yX0_drawdown : MethodName := ⟨RX0, "drawdown", "(II)J"⟩
abbrev cX0_drawdownByPulses : ByteArray := prog_1_method_12_code
def yX0_drawdownByPulses : MethodName := ⟨RX0, "drawdownByPulses", "(II)J"⟩
abbrev cX0_worstMonth : ByteArray := prog_1_method_13_code
def yX0_worstMonth : MethodName := ⟨RX0, "worstMonth", "(I)I"⟩
abbrev cX0_over : ByteArray := prog_1_method_14_code
def yX0_over : MethodName := ⟨RX0, "over", "(I)I"⟩
abbrev cX0_headroom : ByteArray := prog_1_method_15_code
def yX0_headroom : MethodName := ⟨RX0, "headroom", "(II)I"⟩
abbrev cX0_heaviest : ByteArray := prog_1_method_16_code
def yX0_heaviest : MethodName := ⟨RX0, "heaviest", "(II)I"⟩
abbrev cX0_taken : ByteArray := prog_1_method_17_code
def yX0_taken : MethodName := ⟨RX0, "taken", "(I)I"⟩
abbrev cX0_takenLate : ByteArray := prog_1_method_18_code
def yX0_takenLate : MethodName := ⟨RX0, "takenLate", "(II)I"⟩
abbrev cX0_licence : ByteArray := prog_1_method_19_code
def yX0_licence : MethodName := ⟨RX0, "licence", "(I)I"⟩
abbrev cX0_ratio : ByteArray := prog_1_method_20_code
def yX0_ratio : MethodName := ⟨RX0, "ratio", "(III)I"⟩
abbrev cX0_burden : ByteArray := prog_1_method_21_code
def yX0_burden : MethodName := ⟨RX0, "burden", "(I)J"⟩
abbrev cX0_trade : ByteArray := prog_1_method_22_code
def yX0_trade : MethodName := ⟨RX0, "trade", "(III)I"⟩
abbrev cX0_mostTraded : ByteArray := prog_1_method_23_code
def yX0_mostTraded : MethodName := ⟨RX0, "mostTraded", "(II)I"⟩
abbrev cX0_needIndex : ByteArray := prog_1_method_24_code
def yX0_needIndex : MethodName := ⟨RX0, "needIndex", "(II)V"⟩
abbrev cX0_needRange : ByteArray := prog_1_method_25_code
def yX0_needRange : MethodName := ⟨RX0, "needRange", "(III)V"⟩
abbrev cX0_needAllowed : ByteArray := prog_1_method_26_code
def yX0_needAllowed : MethodName := ⟨RX0, "needAllowed", "(Z)V"⟩
abbrev cX0_needTwoWells : ByteArray := prog_1_method_27_code
def yX0_needTwoWells : MethodName := ⟨RX0, "needTwoWells", "(II)V"⟩
abbrev cX0_unitsOfYear : ByteArray := prog_1_method_28_code
def yX0_unitsOfYear : MethodName := ⟨RX0, "unitsOfYear", "(II)I"⟩
abbrev cX0_reachOf : ByteArray := prog_1_method_29_code
def yX0_reachOf : MethodName := ⟨RX0, "reachOf", "(II)I"⟩
abbrev cX0_tableNumber : ByteArray := prog_1_method_30_code
def yX0_tableNumber : MethodName := ⟨RX0, "tableNumber", "(II)I"⟩
abbrev cX0_loweredIn : ByteArray := prog_1_method_31_code
def yX0_loweredIn : MethodName := ⟨RX0, "loweredIn", "(II)J"⟩
abbrev cX0_layPulse : ByteArray := prog_1_method_32_code
def yX0_layPulse : MethodName := ⟨RX0, "layPulse", "(III)V"⟩
abbrev cX0_thousandthsLeft : ByteArray := prog_1_method_33_code
def yX0_thousandthsLeft : MethodName := ⟨RX0, "thousandthsLeft", "(II)J"⟩
abbrev cX0_unitsLeft : ByteArray := prog_1_method_34_code
def yX0_unitsLeft : MethodName := ⟨RX0, "unitsLeft", "(III)J"⟩
abbrev cX0_loweredInAll : ByteArray := prog_1_method_35_code
def yX0_loweredInAll : MethodName := ⟨RX0, "loweredInAll", "(III)J"⟩
abbrev cX0_takenOfMonthsBefore : ByteArray := prog_1_method_36_code
def yX0_takenOfMonthsBefore : MethodName := ⟨RX0, "takenOfMonthsBefore", "(III)I"⟩
abbrev cX0_isInYear : ByteArray := prog_1_method_37_code
def yX0_isInYear : MethodName := ⟨RX0, "isInYear", "(II)Z"⟩
abbrev cX0_burdenOfUnits : ByteArray := prog_1_method_38_code
def yX0_burdenOfUnits : MethodName := ⟨RX0, "burdenOfUnits", "(III)J"⟩
abbrev cX0_unitsGot : ByteArray := prog_1_method_39_code
def yX0_unitsGot : MethodName := ⟨RX0, "unitsGot", "(III)I"⟩
abbrev cX0_canTrade : ByteArray := prog_1_method_40_code
def yX0_canTrade : MethodName := ⟨RX0, "canTrade", "(III)Z"⟩
def RX1 : String := "WellFieldModel"
def TX1 : u_T := fun k => match k with
  | 0 => ("WellFieldModel", "wells", "I", false)
  | 1 => ("WellFieldModel", "place", "[I", true)
  | 2 => ("WellFieldModel", "zone", "[I", true)
  | 3 => ("WellFieldModel", "licence", "[I", true)
  | 4 => ("WellFieldModel", "units", "[I", true)
  | 5 => ("WellFieldModel", "watches", "I", false)
  | 6 => ("WellFieldModel", "spot", "[I", true)
  | 7 => ("WellFieldModel", "limit", "[I", true)
  | 8 => ("WellFieldModel", "table", "[I", true)
  | 9 => ("WellFieldModel", "ratio", "[I", true)
  | _ => ("WellFieldModel", "thrown", "I", false)
def tyX1 : Nat → FieldType := fun k => match k with
  | 0 => .int
  | 1 => .array .int
  | 2 => .array .int
  | 3 => .array .int
  | 4 => .array .int
  | 5 => .int
  | 6 => .array .int
  | 7 => .array .int
  | 8 => .array .int
  | 9 => .array .int
  | _ => .int
abbrev wsX10 : List Cond := u_ws RX1 TX1 11
theorem nmX1 : ∀ a, a < 11 → ∀ b, b < 11 → a ≠ b → (TX1 a).2.1 ≠ (TX1 b).2.1 := by decide +kernel
theorem tyX1_ok : ∀ k, k < 11 → parseFieldDescriptor (TX1 k).2.2.1 = some (tyX1 k) := by decide +kernel
abbrev cX1_init : ByteArray := prog_3_method_1_code
def yX1_init : MethodName := ⟨RX1, "<init>", "()V"⟩
abbrev cX1_thrown : ByteArray := prog_3_method_2_code
def yX1_thrown : MethodName := ⟨RX1, "thrown", "()I"⟩
abbrev cX1_may : ByteArray := prog_3_method_3_code
def yX1_may : MethodName := ⟨RX1, "may", "(Z)Z"⟩
abbrev cX1_mayBoth : ByteArray := prog_3_method_4_code
def yX1_mayBoth : MethodName := ⟨RX1, "mayBoth", "(ZZ)Z"⟩
abbrev cX1_mayAll : ByteArray := prog_3_method_5_code
def yX1_mayAll : MethodName := ⟨RX1, "mayAll", "(ZZZ)Z"⟩
abbrev cX1_isIn : ByteArray := prog_3_method_6_code
def yX1_isIn : MethodName := ⟨RX1, "isIn", "(III)Z"⟩
abbrev cX1_isWell : ByteArray := prog_3_method_7_code
def yX1_isWell : MethodName := ⟨RX1, "isWell", "(I)Z"⟩
abbrev cX1_isWatch : ByteArray := prog_3_method_8_code
def yX1_isWatch : MethodName := ⟨RX1, "isWatch", "(I)Z"⟩
abbrev cX1_isMonth : ByteArray := prog_3_method_9_code
def yX1_isMonth : MethodName := ⟨RX1, "isMonth", "(I)Z"⟩
abbrev cX1_isYear : ByteArray := prog_3_method_10_code
def yX1_isYear : MethodName := ⟨RX1, "isYear", "(I)Z"⟩
abbrev cX1_well : ByteArray := prog_3_method_11_code
def yX1_well : MethodName := ⟨RX1, "well", "(III)I"⟩
abbrev cX1_watch : ByteArray := prog_3_method_12_code
def yX1_watch : MethodName := ⟨RX1, "watch", "(II)I"⟩
abbrev cX1_response : ByteArray := prog_3_method_13_code
def yX1_response : MethodName := ⟨RX1, "response", "(III)I"⟩
abbrev cX1_wells : ByteArray := prog_3_method_14_code
def yX1_wells : MethodName := ⟨RX1, "wells", "()I"⟩
abbrev cX1_watches : ByteArray := prog_3_method_15_code
def yX1_watches : MethodName := ⟨RX1, "watches", "()I"⟩
abbrev cX1_pump : ByteArray := prog_3_method_16_code
def yX1_pump : MethodName := ⟨RX1, "pump", "(III)I"⟩
abbrev cX1_rest : ByteArray := prog_3_method_17_code
def yX1_rest : MethodName := ⟨RX1, "rest", "(III)I"⟩
abbrev cX1_pumpedIn : ByteArray := prog_3_method_18_code
def yX1_pumpedIn : MethodName := ⟨RX1, "pumpedIn", "(II)I"⟩
abbrev cX1_pumped : ByteArray := prog_3_method_19_code
def yX1_pumped : MethodName := ⟨RX1, "pumped", "(II)I"⟩
abbrev cX1_beyond : ByteArray := prog_3_method_20_code
def yX1_beyond : MethodName := ⟨RX1, "beyond", "(I)I"⟩
abbrev cX1_answer : ByteArray := prog_3_method_21_code
def yX1_answer : MethodName := ⟨RX1, "answer", "(III)I"⟩
abbrev cX1_drawdownOf : ByteArray := prog_3_method_22_code
def yX1_drawdownOf : MethodName := ⟨RX1, "drawdownOf", "(II)J"⟩
abbrev cX1_drawdown : ByteArray := prog_3_method_23_code
def yX1_drawdown : MethodName := ⟨RX1, "drawdown", "(II)J"⟩
abbrev cX1_drawdownByPulses : ByteArray := prog_3_method_24_code
def yX1_drawdownByPulses : MethodName := ⟨RX1, "drawdownByPulses", "(II)J"⟩
abbrev cX1_worstMonth : ByteArray := prog_3_method_25_code
def yX1_worstMonth : MethodName := ⟨RX1, "worstMonth", "(I)I"⟩
abbrev cX1_over : ByteArray := prog_3_method_26_code
def yX1_over : MethodName := ⟨RX1, "over", "(I)I"⟩
abbrev cX1_headroom : ByteArray := prog_3_method_27_code
def yX1_headroom : MethodName := ⟨RX1, "headroom", "(II)I"⟩
abbrev cX1_heaviest : ByteArray := prog_3_method_28_code
def yX1_heaviest : MethodName := ⟨RX1, "heaviest", "(II)I"⟩
abbrev cX1_takenBy : ByteArray := prog_3_method_29_code
def yX1_takenBy : MethodName := ⟨RX1, "takenBy", "(III)I"⟩
abbrev cX1_taken : ByteArray := prog_3_method_30_code
def yX1_taken : MethodName := ⟨RX1, "taken", "(I)I"⟩
abbrev cX1_takenLate : ByteArray := prog_3_method_31_code
def yX1_takenLate : MethodName := ⟨RX1, "takenLate", "(II)I"⟩
abbrev cX1_licence : ByteArray := prog_3_method_32_code
def yX1_licence : MethodName := ⟨RX1, "licence", "(I)I"⟩
abbrev cX1_ratio : ByteArray := prog_3_method_33_code
def yX1_ratio : MethodName := ⟨RX1, "ratio", "(III)I"⟩
abbrev cX1_allOf : ByteArray := prog_3_method_34_code
def yX1_allOf : MethodName := ⟨RX1, "allOf", "(II)I"⟩
abbrev cX1_burden : ByteArray := prog_3_method_35_code
def yX1_burden : MethodName := ⟨RX1, "burden", "(I)J"⟩
abbrev cX1_got : ByteArray := prog_3_method_36_code
def yX1_got : MethodName := ⟨RX1, "got", "(III)I"⟩
abbrev cX1_can : ByteArray := prog_3_method_37_code
def yX1_can : MethodName := ⟨RX1, "can", "(III)Z"⟩
abbrev cX1_trade : ByteArray := prog_3_method_38_code
def yX1_trade : MethodName := ⟨RX1, "trade", "(III)I"⟩
abbrev cX1_mostTraded : ByteArray := prog_3_method_39_code
def yX1_mostTraded : MethodName := ⟨RX1, "mostTraded", "(II)I"⟩
def RJ9 : String := "java/lang/Math"
def TJ9 : u_T := fun k => match k with
  | _ => ("", "", "", false)
def tyJ9 : Nat → FieldType := fun k => match k with
  | _ => .int
abbrev wsJ90 : List Cond := u_ws RJ9 TJ9 0
theorem nmJ9 : ∀ a, a < 0 → ∀ b, b < 0 → a ≠ b → (TJ9 a).2.1 ≠ (TJ9 b).2.1 := by decide +kernel
theorem tyJ9_ok : ∀ k, k < 0 → parseFieldDescriptor (TJ9 k).2.2.1 = some (tyJ9 k) := by decide +kernel
abbrev cJ9_abs_0f7a4 : ByteArray := prog_8_method_59_code
def yJ9_abs_0f7a4 : MethodName := ⟨RJ9, "abs", "(I)I"⟩
abbrev cJ9_max_7cf53 : ByteArray := prog_8_method_65_code
def yJ9_max_7cf53 : MethodName := ⟨RJ9, "max", "(II)I"⟩
abbrev cJ9_max_f86c9 : ByteArray := prog_8_method_66_code
def yJ9_max_f86c9 : MethodName := ⟨RJ9, "max", "(JJ)J"⟩
abbrev cJ9_min_7cf53 : ByteArray := prog_8_method_69_code
def yJ9_min_7cf53 : MethodName := ⟨RJ9, "min", "(II)I"⟩
abbrev cJ9_min_f86c9 : ByteArray := prog_8_method_70_code
def yJ9_min_f86c9 : MethodName := ⟨RJ9, "min", "(JJ)J"⟩
def RJ0 : String := "java/lang/String"
def TJ0 : u_T := fun k => match k with
  | _ => ("", "", "", false)
def tyJ0 : Nat → FieldType := fun k => match k with
  | _ => .int
abbrev wsJ00 : List Cond := u_ws RJ0 TJ0 0
theorem nmJ0 : ∀ a, a < 0 → ∀ b, b < 0 → a ≠ b → (TJ0 a).2.1 ≠ (TJ0 b).2.1 := by decide +kernel
theorem tyJ0_ok : ∀ k, k < 0 → parseFieldDescriptor (TJ0 k).2.2.1 = some (tyJ0 k) := by decide +kernel
def RL : String := "WellFieldLaw"
abbrev cL_well : ByteArray := method_3_code
def yL_well : MethodName := ⟨RL, "well", "(LWellField;III[J)I"⟩
abbrev cL_watch : ByteArray := method_4_code
def yL_watch : MethodName := ⟨RL, "watch", "(LWellField;II[J)I"⟩
abbrev cL_response : ByteArray := method_5_code
def yL_response : MethodName := ⟨RL, "response", "(LWellField;III[J)I"⟩
abbrev cL_pump : ByteArray := method_6_code
def yL_pump : MethodName := ⟨RL, "pump", "(LWellField;III[J)I"⟩
abbrev cL_rest : ByteArray := method_7_code
def yL_rest : MethodName := ⟨RL, "rest", "(LWellField;III[J)I"⟩
abbrev cL_pumped : ByteArray := method_8_code
def yL_pumped : MethodName := ⟨RL, "pumped", "(LWellField;II[J)I"⟩
abbrev cL_beyond : ByteArray := method_9_code
def yL_beyond : MethodName := ⟨RL, "beyond", "(LWellField;I[J)I"⟩
abbrev cL_drawdown : ByteArray := method_10_code
def yL_drawdown : MethodName := ⟨RL, "drawdown", "(LWellField;II[J)I"⟩
abbrev cL_drawdownByPulses : ByteArray := method_11_code
def yL_drawdownByPulses : MethodName := ⟨RL, "drawdownByPulses", "(LWellField;II[J)I"⟩
abbrev cL_worstMonth : ByteArray := method_12_code
def yL_worstMonth : MethodName := ⟨RL, "worstMonth", "(LWellField;I[J)I"⟩
abbrev cL_over : ByteArray := method_13_code
def yL_over : MethodName := ⟨RL, "over", "(LWellField;I[J)I"⟩
abbrev cL_headroom : ByteArray := method_14_code
def yL_headroom : MethodName := ⟨RL, "headroom", "(LWellField;II[J)I"⟩
abbrev cL_heaviest : ByteArray := method_15_code
def yL_heaviest : MethodName := ⟨RL, "heaviest", "(LWellField;II[J)I"⟩
abbrev cL_taken : ByteArray := method_16_code
def yL_taken : MethodName := ⟨RL, "taken", "(LWellField;I[J)I"⟩
abbrev cL_takenLate : ByteArray := method_17_code
def yL_takenLate : MethodName := ⟨RL, "takenLate", "(LWellField;II[J)I"⟩
abbrev cL_licence : ByteArray := method_18_code
def yL_licence : MethodName := ⟨RL, "licence", "(LWellField;I[J)I"⟩
abbrev cL_ratio : ByteArray := method_19_code
def yL_ratio : MethodName := ⟨RL, "ratio", "(LWellField;III[J)I"⟩
abbrev cL_burden : ByteArray := method_20_code
def yL_burden : MethodName := ⟨RL, "burden", "(LWellField;I[J)I"⟩
abbrev cL_trade : ByteArray := method_21_code
def yL_trade : MethodName := ⟨RL, "trade", "(LWellField;III[J)I"⟩
abbrev cL_mostTraded : ByteArray := method_22_code
def yL_mostTraded : MethodName := ⟨RL, "mostTraded", "(LWellField;II[J)I"⟩
abbrev cL_law : ByteArray := code
def yL_law : MethodName := ⟨RL, "law", "([I)Z"⟩
def wsX0_init : List Cond := .code yX0_init cX0_init 3 none :: ([.methodLink RX0 1 objectInit, .instanceMethod objectInit, .code objectInit ⟨#[0xb1]⟩ 1 none, .arrayClass .int, .fieldLink RX0 9 "WellField" "wellPlaces" "[I", .fieldLink RX0 13 "WellField" "wellZones" "[I", .fieldLink RX0 16 "WellField" "licences" "[I", .classLink RX0 19 "[[I", .fieldLink RX0 21 "WellField" "pumping" "[[I", .fieldLink RX0 24 "WellField" "watchPlaces" "[I", .fieldLink RX0 27 "WellField" "limits" "[I", .fieldLink RX0 30 "WellField" "table" "[[I", .fieldLink RX0 33 "WellField" "tableSums" "[I", .fieldLink RX0 36 "WellField" "ratios" "[[I", .arrayClass .long, .fieldLink RX0 39 "WellField" "pulses" "[J"] ++ wsX00)
def wsX0_needRange : List Cond := .code yX0_needRange cX0_needRange 3 none :: ([.classLink RX0 121 "java/lang/IllegalArgumentException", .initialized "java/lang/IllegalArgumentException"] ++ (vx_atS RX0 125 "java/lang/IllegalArgumentException" ["java/lang/RuntimeException", "java/lang/Exception"]).filter goodWord)
def wsX0_needAllowed : List Cond := .code yX0_needAllowed cX0_needAllowed 1 none :: ([.classLink RX0 126 "java/lang/IllegalStateException", .initialized "java/lang/IllegalStateException"] ++ (vx_atS RX0 130 "java/lang/IllegalStateException" ["java/lang/RuntimeException", "java/lang/Exception"]).filter goodWord)
def wsX0_well : List Cond := .code yX0_well cX0_well 5 (some .int) :: ([.fieldLink RX0 47 "WellField" "wellCount" "I", .fieldLink RX0 9 "WellField" "wellPlaces" "[I", .fieldLink RX0 13 "WellField" "wellZones" "[I", .fieldLink RX0 16 "WellField" "licences" "[I", .methodLink RX0 43 yX0_needRange, .static yX0_needRange, .initialized RX0, .code yX0_needRange cX0_needRange 3 none, .classLink RX0 121 "java/lang/IllegalArgumentException", .initialized "java/lang/IllegalArgumentException", .methodLink RX0 51 yX0_needAllowed, .static yX0_needAllowed, .code yX0_needAllowed cX0_needAllowed 1 none, .classLink RX0 126 "java/lang/IllegalStateException", .initialized "java/lang/IllegalStateException"] ++ wsX00 ++ (vx_atS RX0 125 "java/lang/IllegalArgumentException" ["java/lang/RuntimeException", "java/lang/Exception"]).filter goodWord ++ (vx_atS RX0 130 "java/lang/IllegalStateException" ["java/lang/RuntimeException", "java/lang/Exception"]).filter goodWord)
def wsX0_watch : List Cond := .code yX0_watch cX0_watch 4 (some .int) :: ([.fieldLink RX0 55 "WellField" "watchCount" "I", .fieldLink RX0 24 "WellField" "watchPlaces" "[I", .fieldLink RX0 27 "WellField" "limits" "[I", .methodLink RX0 43 yX0_needRange, .static yX0_needRange, .initialized RX0, .code yX0_needRange cX0_needRange 3 none, .classLink RX0 121 "java/lang/IllegalArgumentException", .initialized "java/lang/IllegalArgumentException", .methodLink RX0 51 yX0_needAllowed, .static yX0_needAllowed, .code yX0_needAllowed cX0_needAllowed 1 none, .classLink RX0 126 "java/lang/IllegalStateException", .initialized "java/lang/IllegalStateException"] ++ wsX00 ++ (vx_atS RX0 125 "java/lang/IllegalArgumentException" ["java/lang/RuntimeException", "java/lang/Exception"]).filter goodWord ++ (vx_atS RX0 130 "java/lang/IllegalStateException" ["java/lang/RuntimeException", "java/lang/Exception"]).filter goodWord)
def wsX0_needIndex : List Cond := .code yX0_needIndex cX0_needIndex 2 none :: ([.classLink RX0 114 "java/lang/IndexOutOfBoundsException", .initialized "java/lang/IndexOutOfBoundsException"] ++ (vx_atS RX0 118 "java/lang/IndexOutOfBoundsException" ["java/lang/RuntimeException", "java/lang/Exception"]).filter goodWord)
def wsX0_response : List Cond := .code yX0_response cX0_response 5 (some .int) :: ([.fieldLink RX0 30 "WellField" "table" "[[I", .fieldLink RX0 33 "WellField" "tableSums" "[I", .methodLink RX0 58 yX0_needIndex, .static yX0_needIndex, .initialized RX0, .code yX0_needIndex cX0_needIndex 2 none, .classLink RX0 114 "java/lang/IndexOutOfBoundsException", .initialized "java/lang/IndexOutOfBoundsException", .methodLink RX0 43 yX0_needRange, .static yX0_needRange, .code yX0_needRange cX0_needRange 3 none, .classLink RX0 121 "java/lang/IllegalArgumentException", .initialized "java/lang/IllegalArgumentException"] ++ wsX00 ++ (vx_atS RX0 118 "java/lang/IndexOutOfBoundsException" ["java/lang/RuntimeException", "java/lang/Exception"]).filter goodWord ++ (vx_atS RX0 125 "java/lang/IllegalArgumentException" ["java/lang/RuntimeException", "java/lang/Exception"]).filter goodWord)
def wsX0_wells : List Cond := .code yX0_wells cX0_wells 1 (some .int) :: ([.fieldLink RX0 47 "WellField" "wellCount" "I"] ++ wsX00)
def wsX0_watches : List Cond := .code yX0_watches cX0_watches 1 (some .int) :: ([.fieldLink RX0 55 "WellField" "watchCount" "I"] ++ wsX00)
def wsX0_pump : List Cond := .code yX0_pump cX0_pump 5 (some .int) :: ([.fieldLink RX0 47 "WellField" "wellCount" "I", .fieldLink RX0 21 "WellField" "pumping" "[[I", .methodLink RX0 58 yX0_needIndex, .static yX0_needIndex, .initialized RX0, .code yX0_needIndex cX0_needIndex 2 none, .classLink RX0 114 "java/lang/IndexOutOfBoundsException", .initialized "java/lang/IndexOutOfBoundsException", .methodLink RX0 43 yX0_needRange, .static yX0_needRange, .code yX0_needRange cX0_needRange 3 none, .classLink RX0 121 "java/lang/IllegalArgumentException", .initialized "java/lang/IllegalArgumentException"] ++ wsX00 ++ (vx_atS RX0 118 "java/lang/IndexOutOfBoundsException" ["java/lang/RuntimeException", "java/lang/Exception"]).filter goodWord ++ (vx_atS RX0 125 "java/lang/IllegalArgumentException" ["java/lang/RuntimeException", "java/lang/Exception"]).filter goodWord)
def wsX0_rest : List Cond := .code yX0_rest cX0_rest 7 (some .int) :: ([.fieldLink RX0 47 "WellField" "wellCount" "I", .methodLink RX0 62 Lib.Math.min.name, .static Lib.Math.min.name, .initialized "java/lang/Math", .code Lib.Math.min.name Lib.Math.min.code 2 (some .int), .fieldLink RX0 21 "WellField" "pumping" "[[I", .methodLink RX0 58 yX0_needIndex, .static yX0_needIndex, .initialized RX0, .code yX0_needIndex cX0_needIndex 2 none, .classLink RX0 114 "java/lang/IndexOutOfBoundsException", .initialized "java/lang/IndexOutOfBoundsException", .methodLink RX0 43 yX0_needRange, .static yX0_needRange, .code yX0_needRange cX0_needRange 3 none, .classLink RX0 121 "java/lang/IllegalArgumentException", .initialized "java/lang/IllegalArgumentException"] ++ wsX00 ++ (vx_atS RX0 118 "java/lang/IndexOutOfBoundsException" ["java/lang/RuntimeException", "java/lang/Exception"]).filter goodWord ++ (vx_atS RX0 125 "java/lang/IllegalArgumentException" ["java/lang/RuntimeException", "java/lang/Exception"]).filter goodWord)
def wsX0_unitsOfYear : List Cond := .code yX0_unitsOfYear cX0_unitsOfYear 6 (some .int) :: ([.fieldLink RX0 21 "WellField" "pumping" "[[I"] ++ wsX00)
def wsX0_pumped : List Cond := .code yX0_pumped cX0_pumped 3 (some .int) :: ([.fieldLink RX0 47 "WellField" "wellCount" "I", .methodLink RX0 58 yX0_needIndex, .static yX0_needIndex, .initialized RX0, .code yX0_needIndex cX0_needIndex 2 none, .classLink RX0 114 "java/lang/IndexOutOfBoundsException", .initialized "java/lang/IndexOutOfBoundsException", .methodLink RX0 68 yX0_unitsOfYear, .instanceMethod yX0_unitsOfYear, .selects RX0 yX0_unitsOfYear yX0_unitsOfYear, .code yX0_unitsOfYear cX0_unitsOfYear 6 (some .int), .fieldLink RX0 21 "WellField" "pumping" "[[I"] ++ wsX00 ++ (vx_atS RX0 118 "java/lang/IndexOutOfBoundsException" ["java/lang/RuntimeException", "java/lang/Exception"]).filter goodWord)
def wsX0_beyond : List Cond := .code yX0_beyond cX0_beyond 4 (some .int) :: ([.fieldLink RX0 47 "WellField" "wellCount" "I", .fieldLink RX0 16 "WellField" "licences" "[I", .methodLink RX0 71 Lib.Math.max.name, .static Lib.Math.max.name, .initialized "java/lang/Math", .code Lib.Math.max.name Lib.Math.max.code 2 (some .int), .methodLink RX0 58 yX0_needIndex, .static yX0_needIndex, .initialized RX0, .code yX0_needIndex cX0_needIndex 2 none, .classLink RX0 114 "java/lang/IndexOutOfBoundsException", .initialized "java/lang/IndexOutOfBoundsException", .methodLink RX0 68 yX0_unitsOfYear, .instanceMethod yX0_unitsOfYear, .selects RX0 yX0_unitsOfYear yX0_unitsOfYear, .code yX0_unitsOfYear cX0_unitsOfYear 6 (some .int), .fieldLink RX0 21 "WellField" "pumping" "[[I"] ++ wsX00 ++ (vx_atS RX0 118 "java/lang/IndexOutOfBoundsException" ["java/lang/RuntimeException", "java/lang/Exception"]).filter goodWord)
def wsX0_reachOf : List Cond := .code yX0_reachOf cX0_reachOf 3 (some .int) :: ([.fieldLink RX0 9 "WellField" "wellPlaces" "[I", .fieldLink RX0 24 "WellField" "watchPlaces" "[I", .methodLink RX0 133 Lib.Math.abs.name, .static Lib.Math.abs.name, .initialized "java/lang/Math", .code Lib.Math.abs.name Lib.Math.abs.code 1 (some .int)] ++ wsX00)
def wsX0_tableNumber : List Cond := .code yX0_tableNumber cX0_tableNumber 3 (some .int) :: ([.fieldLink RX0 30 "WellField" "table" "[[I"] ++ wsX00)
def wsX0_loweredIn : List Cond := .code yX0_loweredIn cX0_loweredIn 8 (some .long) :: ([.fieldLink RX0 47 "WellField" "wellCount" "I", .fieldLink RX0 21 "WellField" "pumping" "[[I", .methodLink RX0 78 yX0_reachOf, .instanceMethod yX0_reachOf, .selects RX0 yX0_reachOf yX0_reachOf, .initialized RX0, .code yX0_reachOf cX0_reachOf 3 (some .int), .fieldLink RX0 9 "WellField" "wellPlaces" "[I", .fieldLink RX0 24 "WellField" "watchPlaces" "[I", .methodLink RX0 133 Lib.Math.abs.name, .static Lib.Math.abs.name, .initialized "java/lang/Math", .code Lib.Math.abs.name Lib.Math.abs.code 1 (some .int), .methodLink RX0 137 yX0_tableNumber, .instanceMethod yX0_tableNumber, .selects RX0 yX0_tableNumber yX0_tableNumber, .code yX0_tableNumber cX0_tableNumber 3 (some .int), .fieldLink RX0 30 "WellField" "table" "[[I"] ++ wsX00)
def wsX0_drawdown_r1 : List Cond := [Cond.fieldLink RX0 55 "WellField" "watchCount" "I", Cond.methodLink RX0 58 yX0_needIndex, Cond.static yX0_needIndex, Cond.initialized RX0, Cond.code yX0_needIndex cX0_needIndex 2 none, Cond.classLink RX0 114 "java/lang/IndexOutOfBoundsException", Cond.initialized "java/lang/IndexOutOfBoundsException", Cond.methodLink RX0 74 yX0_loweredIn, Cond.instanceMethod yX0_loweredIn, Cond.selects RX0 yX0_loweredIn yX0_loweredIn, Cond.code yX0_loweredIn cX0_loweredIn 8 (some .long), Cond.fieldLink RX0 47 "WellField" "wellCount" "I", Cond.fieldLink RX0 21 "WellField" "pumping" "[[I", Cond.methodLink RX0 78 yX0_reachOf, Cond.instanceMethod yX0_reachOf, Cond.selects RX0 yX0_reachOf yX0_reachOf, Cond.code yX0_reachOf cX0_reachOf 3 (some .int), Cond.fieldLink RX0 9 "WellField" "wellPlaces" "[I", Cond.fieldLink RX0 24 "WellField" "watchPlaces" "[I", Cond.methodLink RX0 133 Lib.Math.abs.name, Cond.static Lib.Math.abs.name, Cond.initialized "java/lang/Math", Cond.code Lib.Math.abs.name Lib.Math.abs.code 1 (some .int), Cond.methodLink RX0 137 yX0_tableNumber]
def wsX0_drawdown_r2 : List Cond := [Cond.instanceMethod yX0_tableNumber, Cond.selects RX0 yX0_tableNumber yX0_tableNumber, Cond.code yX0_tableNumber cX0_tableNumber 3 (some .int), Cond.fieldLink RX0 30 "WellField" "table" "[[I"]
def wsX0_drawdown : List Cond := .code yX0_drawdown cX0_drawdown 3 (some .long) :: ((wsX0_drawdown_r1 ++ wsX0_drawdown_r2) ++ wsX00 ++ (vx_atS RX0 118 "java/lang/IndexOutOfBoundsException" ["java/lang/RuntimeException", "java/lang/Exception"]).filter goodWord)
def wsX0_layPulse : List Cond := .code yX0_layPulse cX0_layPulse 5 none :: ([.fieldLink RX0 39 "WellField" "pulses" "[J", .methodLink RX0 137 yX0_tableNumber, .instanceMethod yX0_tableNumber, .selects RX0 yX0_tableNumber yX0_tableNumber, .initialized RX0, .code yX0_tableNumber cX0_tableNumber 3 (some .int), .fieldLink RX0 30 "WellField" "table" "[[I"] ++ wsX00)
def wsX0_drawdownByPulses_r1 : List Cond := [Cond.fieldLink RX0 55 "WellField" "watchCount" "I", Cond.fieldLink RX0 39 "WellField" "pulses" "[J", Cond.fieldLink RX0 47 "WellField" "wellCount" "I", Cond.fieldLink RX0 21 "WellField" "pumping" "[[I", Cond.methodLink RX0 58 yX0_needIndex, Cond.static yX0_needIndex, Cond.initialized RX0, Cond.code yX0_needIndex cX0_needIndex 2 none, Cond.classLink RX0 114 "java/lang/IndexOutOfBoundsException", Cond.initialized "java/lang/IndexOutOfBoundsException", Cond.methodLink RX0 78 yX0_reachOf, Cond.instanceMethod yX0_reachOf, Cond.selects RX0 yX0_reachOf yX0_reachOf, Cond.code yX0_reachOf cX0_reachOf 3 (some .int), Cond.fieldLink RX0 9 "WellField" "wellPlaces" "[I", Cond.fieldLink RX0 24 "WellField" "watchPlaces" "[I", Cond.methodLink RX0 133 Lib.Math.abs.name, Cond.static Lib.Math.abs.name, Cond.initialized "java/lang/Math", Cond.code Lib.Math.abs.name Lib.Math.abs.code 1 (some .int), Cond.methodLink RX0 81 yX0_layPulse, Cond.instanceMethod yX0_layPulse, Cond.selects RX0 yX0_layPulse yX0_layPulse, Cond.code yX0_layPulse cX0_layPulse 5 none]
def wsX0_drawdownByPulses_r2 : List Cond := [Cond.methodLink RX0 137 yX0_tableNumber, Cond.instanceMethod yX0_tableNumber, Cond.selects RX0 yX0_tableNumber yX0_tableNumber, Cond.code yX0_tableNumber cX0_tableNumber 3 (some .int), Cond.fieldLink RX0 30 "WellField" "table" "[[I"]
def wsX0_drawdownByPulses : List Cond := .code yX0_drawdownByPulses cX0_drawdownByPulses 5 (some .long) :: ((wsX0_drawdownByPulses_r1 ++ wsX0_drawdownByPulses_r2) ++ wsX00 ++ (vx_atS RX0 118 "java/lang/IndexOutOfBoundsException" ["java/lang/RuntimeException", "java/lang/Exception"]).filter goodWord)
def wsX0_worstMonth_r1 : List Cond := [Cond.fieldLink RX0 55 "WellField" "watchCount" "I", Cond.methodLink RX0 58 yX0_needIndex, Cond.static yX0_needIndex, Cond.initialized RX0, Cond.code yX0_needIndex cX0_needIndex 2 none, Cond.classLink RX0 114 "java/lang/IndexOutOfBoundsException", Cond.initialized "java/lang/IndexOutOfBoundsException", Cond.methodLink RX0 74 yX0_loweredIn, Cond.instanceMethod yX0_loweredIn, Cond.selects RX0 yX0_loweredIn yX0_loweredIn, Cond.code yX0_loweredIn cX0_loweredIn 8 (some .long), Cond.fieldLink RX0 47 "WellField" "wellCount" "I", Cond.fieldLink RX0 21 "WellField" "pumping" "[[I", Cond.methodLink RX0 78 yX0_reachOf, Cond.instanceMethod yX0_reachOf, Cond.selects RX0 yX0_reachOf yX0_reachOf, Cond.code yX0_reachOf cX0_reachOf 3 (some .int), Cond.fieldLink RX0 9 "WellField" "wellPlaces" "[I", Cond.fieldLink RX0 24 "WellField" "watchPlaces" "[I", Cond.methodLink RX0 133 Lib.Math.abs.name, Cond.static Lib.Math.abs.name, Cond.initialized "java/lang/Math", Cond.code Lib.Math.abs.name Lib.Math.abs.code 1 (some .int), Cond.methodLink RX0 137 yX0_tableNumber]
def wsX0_worstMonth_r2 : List Cond := [Cond.instanceMethod yX0_tableNumber, Cond.selects RX0 yX0_tableNumber yX0_tableNumber, Cond.code yX0_tableNumber cX0_tableNumber 3 (some .int), Cond.fieldLink RX0 30 "WellField" "table" "[[I"]
def wsX0_worstMonth : List Cond := .code yX0_worstMonth cX0_worstMonth 8 (some .int) :: ((wsX0_worstMonth_r1 ++ wsX0_worstMonth_r2) ++ wsX00 ++ (vx_atS RX0 118 "java/lang/IndexOutOfBoundsException" ["java/lang/RuntimeException", "java/lang/Exception"]).filter goodWord)
def wsX0_thousandthsLeft : List Cond := .code yX0_thousandthsLeft cX0_thousandthsLeft 3 (some .long) :: ([.constantLong RX0 140 (1000), .fieldLink RX0 27 "WellField" "limits" "[I", .methodLink RX0 74 yX0_loweredIn, .instanceMethod yX0_loweredIn, .selects RX0 yX0_loweredIn yX0_loweredIn, .initialized RX0, .code yX0_loweredIn cX0_loweredIn 8 (some .long), .fieldLink RX0 47 "WellField" "wellCount" "I", .fieldLink RX0 21 "WellField" "pumping" "[[I", .methodLink RX0 78 yX0_reachOf, .instanceMethod yX0_reachOf, .selects RX0 yX0_reachOf yX0_reachOf, .code yX0_reachOf cX0_reachOf 3 (some .int), .fieldLink RX0 9 "WellField" "wellPlaces" "[I", .fieldLink RX0 24 "WellField" "watchPlaces" "[I", .methodLink RX0 133 Lib.Math.abs.name, .static Lib.Math.abs.name, .initialized "java/lang/Math", .code Lib.Math.abs.name Lib.Math.abs.code 1 (some .int), .methodLink RX0 137 yX0_tableNumber, .instanceMethod yX0_tableNumber, .selects RX0 yX0_tableNumber yX0_tableNumber, .code yX0_tableNumber cX0_tableNumber 3 (some .int), .fieldLink RX0 30 "WellField" "table" "[[I"] ++ wsX00)
def wsX0_over_r1 : List Cond := [Cond.fieldLink RX0 55 "WellField" "watchCount" "I", Cond.methodLink RX0 58 yX0_needIndex, Cond.static yX0_needIndex, Cond.initialized RX0, Cond.code yX0_needIndex cX0_needIndex 2 none, Cond.classLink RX0 114 "java/lang/IndexOutOfBoundsException", Cond.initialized "java/lang/IndexOutOfBoundsException", Cond.methodLink RX0 84 yX0_thousandthsLeft, Cond.instanceMethod yX0_thousandthsLeft, Cond.selects RX0 yX0_thousandthsLeft yX0_thousandthsLeft, Cond.code yX0_thousandthsLeft cX0_thousandthsLeft 3 (some .long), Cond.constantLong RX0 140 (1000), Cond.fieldLink RX0 27 "WellField" "limits" "[I", Cond.methodLink RX0 74 yX0_loweredIn, Cond.instanceMethod yX0_loweredIn, Cond.selects RX0 yX0_loweredIn yX0_loweredIn, Cond.code yX0_loweredIn cX0_loweredIn 8 (some .long), Cond.fieldLink RX0 47 "WellField" "wellCount" "I", Cond.fieldLink RX0 21 "WellField" "pumping" "[[I", Cond.methodLink RX0 78 yX0_reachOf, Cond.instanceMethod yX0_reachOf, Cond.selects RX0 yX0_reachOf yX0_reachOf, Cond.code yX0_reachOf cX0_reachOf 3 (some .int), Cond.fieldLink RX0 9 "WellField" "wellPlaces" "[I"]
def wsX0_over_r2 : List Cond := [Cond.fieldLink RX0 24 "WellField" "watchPlaces" "[I", Cond.methodLink RX0 133 Lib.Math.abs.name, Cond.static Lib.Math.abs.name, Cond.initialized "java/lang/Math", Cond.code Lib.Math.abs.name Lib.Math.abs.code 1 (some .int), Cond.methodLink RX0 137 yX0_tableNumber, Cond.instanceMethod yX0_tableNumber, Cond.selects RX0 yX0_tableNumber yX0_tableNumber, Cond.code yX0_tableNumber cX0_tableNumber 3 (some .int), Cond.fieldLink RX0 30 "WellField" "table" "[[I"]
def wsX0_over : List Cond := .code yX0_over cX0_over 4 (some .int) :: ((wsX0_over_r1 ++ wsX0_over_r2) ++ wsX00 ++ (vx_atS RX0 118 "java/lang/IndexOutOfBoundsException" ["java/lang/RuntimeException", "java/lang/Exception"]).filter goodWord)
def wsX0_unitsLeft_r1 : List Cond := [Cond.constantLong RX0 140 (1000), Cond.methodLink RX0 142 Lib.MathLoose.max_long.x, Cond.static Lib.MathLoose.max_long.x, Cond.initialized "java/lang/Math", Cond.code Lib.MathLoose.max_long.x Lib.MathLoose.max_long.code 4 (some .long), Cond.methodLink RX0 91 Lib.MathLoose.min_long.x, Cond.static Lib.MathLoose.min_long.x, Cond.code Lib.MathLoose.min_long.x Lib.MathLoose.min_long.code 4 (some .long), Cond.methodLink RX0 137 yX0_tableNumber, Cond.instanceMethod yX0_tableNumber, Cond.selects RX0 yX0_tableNumber yX0_tableNumber, Cond.initialized RX0, Cond.code yX0_tableNumber cX0_tableNumber 3 (some .int), Cond.fieldLink RX0 30 "WellField" "table" "[[I", Cond.methodLink RX0 84 yX0_thousandthsLeft, Cond.instanceMethod yX0_thousandthsLeft, Cond.selects RX0 yX0_thousandthsLeft yX0_thousandthsLeft, Cond.code yX0_thousandthsLeft cX0_thousandthsLeft 3 (some .long), Cond.fieldLink RX0 27 "WellField" "limits" "[I", Cond.methodLink RX0 74 yX0_loweredIn, Cond.instanceMethod yX0_loweredIn, Cond.selects RX0 yX0_loweredIn yX0_loweredIn, Cond.code yX0_loweredIn cX0_loweredIn 8 (some .long), Cond.fieldLink RX0 47 "WellField" "wellCount" "I"]
def wsX0_unitsLeft_r2 : List Cond := [Cond.fieldLink RX0 21 "WellField" "pumping" "[[I", Cond.methodLink RX0 78 yX0_reachOf, Cond.instanceMethod yX0_reachOf, Cond.selects RX0 yX0_reachOf yX0_reachOf, Cond.code yX0_reachOf cX0_reachOf 3 (some .int), Cond.fieldLink RX0 9 "WellField" "wellPlaces" "[I", Cond.fieldLink RX0 24 "WellField" "watchPlaces" "[I", Cond.methodLink RX0 133 Lib.Math.abs.name, Cond.static Lib.Math.abs.name, Cond.code Lib.Math.abs.name Lib.Math.abs.code 1 (some .int)]
def wsX0_unitsLeft : List Cond := .code yX0_unitsLeft cX0_unitsLeft 8 (some .long) :: ((wsX0_unitsLeft_r1 ++ wsX0_unitsLeft_r2) ++ wsX00)
def wsX0_headroom_r1 : List Cond := [Cond.fieldLink RX0 47 "WellField" "wellCount" "I", Cond.fieldLink RX0 21 "WellField" "pumping" "[[I", Cond.fieldLink RX0 55 "WellField" "watchCount" "I", Cond.methodLink RX0 91 Lib.MathLoose.min_long.x, Cond.static Lib.MathLoose.min_long.x, Cond.initialized "java/lang/Math", Cond.code Lib.MathLoose.min_long.x Lib.MathLoose.min_long.code 4 (some .long), Cond.methodLink RX0 58 yX0_needIndex, Cond.static yX0_needIndex, Cond.initialized RX0, Cond.code yX0_needIndex cX0_needIndex 2 none, Cond.classLink RX0 114 "java/lang/IndexOutOfBoundsException", Cond.initialized "java/lang/IndexOutOfBoundsException", Cond.methodLink RX0 78 yX0_reachOf, Cond.instanceMethod yX0_reachOf, Cond.selects RX0 yX0_reachOf yX0_reachOf, Cond.code yX0_reachOf cX0_reachOf 3 (some .int), Cond.fieldLink RX0 9 "WellField" "wellPlaces" "[I", Cond.fieldLink RX0 24 "WellField" "watchPlaces" "[I", Cond.methodLink RX0 133 Lib.Math.abs.name, Cond.static Lib.Math.abs.name, Cond.code Lib.Math.abs.name Lib.Math.abs.code 1 (some .int), Cond.methodLink RX0 87 yX0_unitsLeft, Cond.instanceMethod yX0_unitsLeft]
def wsX0_headroom_r2 : List Cond := [Cond.selects RX0 yX0_unitsLeft yX0_unitsLeft, Cond.code yX0_unitsLeft cX0_unitsLeft 8 (some .long), Cond.constantLong RX0 140 (1000), Cond.methodLink RX0 142 Lib.MathLoose.max_long.x, Cond.static Lib.MathLoose.max_long.x, Cond.code Lib.MathLoose.max_long.x Lib.MathLoose.max_long.code 4 (some .long), Cond.methodLink RX0 137 yX0_tableNumber, Cond.instanceMethod yX0_tableNumber, Cond.selects RX0 yX0_tableNumber yX0_tableNumber, Cond.code yX0_tableNumber cX0_tableNumber 3 (some .int), Cond.fieldLink RX0 30 "WellField" "table" "[[I", Cond.methodLink RX0 84 yX0_thousandthsLeft, Cond.instanceMethod yX0_thousandthsLeft, Cond.selects RX0 yX0_thousandthsLeft yX0_thousandthsLeft, Cond.code yX0_thousandthsLeft cX0_thousandthsLeft 3 (some .long), Cond.fieldLink RX0 27 "WellField" "limits" "[I", Cond.methodLink RX0 74 yX0_loweredIn, Cond.instanceMethod yX0_loweredIn, Cond.selects RX0 yX0_loweredIn yX0_loweredIn, Cond.code yX0_loweredIn cX0_loweredIn 8 (some .long)]
def wsX0_headroom : List Cond := .code yX0_headroom cX0_headroom 6 (some .int) :: ((wsX0_headroom_r1 ++ wsX0_headroom_r2) ++ wsX00 ++ (vx_atS RX0 118 "java/lang/IndexOutOfBoundsException" ["java/lang/RuntimeException", "java/lang/Exception"]).filter goodWord)
def wsX0_loweredInAll : List Cond := .code yX0_loweredInAll cX0_loweredInAll 8 (some .long) :: ([.fieldLink RX0 21 "WellField" "pumping" "[[I", .methodLink RX0 78 yX0_reachOf, .instanceMethod yX0_reachOf, .selects RX0 yX0_reachOf yX0_reachOf, .initialized RX0, .code yX0_reachOf cX0_reachOf 3 (some .int), .fieldLink RX0 9 "WellField" "wellPlaces" "[I", .fieldLink RX0 24 "WellField" "watchPlaces" "[I", .methodLink RX0 133 Lib.Math.abs.name, .static Lib.Math.abs.name, .initialized "java/lang/Math", .code Lib.Math.abs.name Lib.Math.abs.code 1 (some .int), .methodLink RX0 137 yX0_tableNumber, .instanceMethod yX0_tableNumber, .selects RX0 yX0_tableNumber yX0_tableNumber, .code yX0_tableNumber cX0_tableNumber 3 (some .int), .fieldLink RX0 30 "WellField" "table" "[[I"] ++ wsX00)
def wsX0_heaviest_r1 : List Cond := [Cond.fieldLink RX0 55 "WellField" "watchCount" "I", Cond.fieldLink RX0 47 "WellField" "wellCount" "I", Cond.methodLink RX0 58 yX0_needIndex, Cond.static yX0_needIndex, Cond.initialized RX0, Cond.code yX0_needIndex cX0_needIndex 2 none, Cond.classLink RX0 114 "java/lang/IndexOutOfBoundsException", Cond.initialized "java/lang/IndexOutOfBoundsException", Cond.methodLink RX0 94 yX0_loweredInAll, Cond.instanceMethod yX0_loweredInAll, Cond.selects RX0 yX0_loweredInAll yX0_loweredInAll, Cond.code yX0_loweredInAll cX0_loweredInAll 8 (some .long), Cond.fieldLink RX0 21 "WellField" "pumping" "[[I", Cond.methodLink RX0 78 yX0_reachOf, Cond.instanceMethod yX0_reachOf, Cond.selects RX0 yX0_reachOf yX0_reachOf, Cond.code yX0_reachOf cX0_reachOf 3 (some .int), Cond.fieldLink RX0 9 "WellField" "wellPlaces" "[I", Cond.fieldLink RX0 24 "WellField" "watchPlaces" "[I", Cond.methodLink RX0 133 Lib.Math.abs.name, Cond.static Lib.Math.abs.name, Cond.initialized "java/lang/Math", Cond.code Lib.Math.abs.name Lib.Math.abs.code 1 (some .int), Cond.methodLink RX0 137 yX0_tableNumber]
def wsX0_heaviest_r2 : List Cond := [Cond.instanceMethod yX0_tableNumber, Cond.selects RX0 yX0_tableNumber yX0_tableNumber, Cond.code yX0_tableNumber cX0_tableNumber 3 (some .int), Cond.fieldLink RX0 30 "WellField" "table" "[[I"]
def wsX0_heaviest : List Cond := .code yX0_heaviest cX0_heaviest 9 (some .int) :: ((wsX0_heaviest_r1 ++ wsX0_heaviest_r2) ++ wsX00 ++ (vx_atS RX0 118 "java/lang/IndexOutOfBoundsException" ["java/lang/RuntimeException", "java/lang/Exception"]).filter goodWord)
def wsX0_isInYear : List Cond := .code yX0_isInYear cX0_isInYear 2 (some .boolean) :: ([])
def wsX0_takenOfMonthsBefore : List Cond := .code yX0_takenOfMonthsBefore cX0_takenOfMonthsBefore 9 (some .int) :: ([.fieldLink RX0 9 "WellField" "wellPlaces" "[I", .fieldLink RX0 21 "WellField" "pumping" "[[I", .methodLink RX0 144 yX0_isInYear, .static yX0_isInYear, .initialized RX0, .code yX0_isInYear cX0_isInYear 2 (some .boolean)] ++ wsX00)
def wsX0_taken : List Cond := .code yX0_taken cX0_taken 4 (some .int) :: ([.fieldLink RX0 47 "WellField" "wellCount" "I", .methodLink RX0 58 yX0_needIndex, .static yX0_needIndex, .initialized RX0, .code yX0_needIndex cX0_needIndex 2 none, .classLink RX0 114 "java/lang/IndexOutOfBoundsException", .initialized "java/lang/IndexOutOfBoundsException", .methodLink RX0 97 yX0_takenOfMonthsBefore, .instanceMethod yX0_takenOfMonthsBefore, .selects RX0 yX0_takenOfMonthsBefore yX0_takenOfMonthsBefore, .code yX0_takenOfMonthsBefore cX0_takenOfMonthsBefore 9 (some .int), .fieldLink RX0 9 "WellField" "wellPlaces" "[I", .fieldLink RX0 21 "WellField" "pumping" "[[I", .methodLink RX0 144 yX0_isInYear, .static yX0_isInYear, .code yX0_isInYear cX0_isInYear 2 (some .boolean)] ++ wsX00 ++ (vx_atS RX0 118 "java/lang/IndexOutOfBoundsException" ["java/lang/RuntimeException", "java/lang/Exception"]).filter goodWord)
def wsX0_takenLate : List Cond := .code yX0_takenLate cX0_takenLate 3 (some .int) :: ([.fieldLink RX0 47 "WellField" "wellCount" "I", .methodLink RX0 58 yX0_needIndex, .static yX0_needIndex, .initialized RX0, .code yX0_needIndex cX0_needIndex 2 none, .classLink RX0 114 "java/lang/IndexOutOfBoundsException", .initialized "java/lang/IndexOutOfBoundsException", .methodLink RX0 97 yX0_takenOfMonthsBefore, .instanceMethod yX0_takenOfMonthsBefore, .selects RX0 yX0_takenOfMonthsBefore yX0_takenOfMonthsBefore, .code yX0_takenOfMonthsBefore cX0_takenOfMonthsBefore 9 (some .int), .fieldLink RX0 9 "WellField" "wellPlaces" "[I", .fieldLink RX0 21 "WellField" "pumping" "[[I", .methodLink RX0 144 yX0_isInYear, .static yX0_isInYear, .code yX0_isInYear cX0_isInYear 2 (some .boolean)] ++ wsX00 ++ (vx_atS RX0 118 "java/lang/IndexOutOfBoundsException" ["java/lang/RuntimeException", "java/lang/Exception"]).filter goodWord)
def wsX0_licence : List Cond := .code yX0_licence cX0_licence 2 (some .int) :: ([.fieldLink RX0 47 "WellField" "wellCount" "I", .fieldLink RX0 16 "WellField" "licences" "[I", .methodLink RX0 58 yX0_needIndex, .static yX0_needIndex, .initialized RX0, .code yX0_needIndex cX0_needIndex 2 none, .classLink RX0 114 "java/lang/IndexOutOfBoundsException", .initialized "java/lang/IndexOutOfBoundsException"] ++ wsX00 ++ (vx_atS RX0 118 "java/lang/IndexOutOfBoundsException" ["java/lang/RuntimeException", "java/lang/Exception"]).filter goodWord)
def wsX0_ratio : List Cond := .code yX0_ratio cX0_ratio 5 (some .int) :: ([.fieldLink RX0 36 "WellField" "ratios" "[[I", .methodLink RX0 58 yX0_needIndex, .static yX0_needIndex, .initialized RX0, .code yX0_needIndex cX0_needIndex 2 none, .classLink RX0 114 "java/lang/IndexOutOfBoundsException", .initialized "java/lang/IndexOutOfBoundsException", .methodLink RX0 43 yX0_needRange, .static yX0_needRange, .code yX0_needRange cX0_needRange 3 none, .classLink RX0 121 "java/lang/IllegalArgumentException", .initialized "java/lang/IllegalArgumentException"] ++ wsX00 ++ (vx_atS RX0 118 "java/lang/IndexOutOfBoundsException" ["java/lang/RuntimeException", "java/lang/Exception"]).filter goodWord ++ (vx_atS RX0 125 "java/lang/IllegalArgumentException" ["java/lang/RuntimeException", "java/lang/Exception"]).filter goodWord)
def wsX0_burdenOfUnits : List Cond := .code yX0_burdenOfUnits cX0_burdenOfUnits 5 (some .long) :: ([.fieldLink RX0 33 "WellField" "tableSums" "[I", .methodLink RX0 78 yX0_reachOf, .instanceMethod yX0_reachOf, .selects RX0 yX0_reachOf yX0_reachOf, .initialized RX0, .code yX0_reachOf cX0_reachOf 3 (some .int), .fieldLink RX0 9 "WellField" "wellPlaces" "[I", .fieldLink RX0 24 "WellField" "watchPlaces" "[I", .methodLink RX0 133 Lib.Math.abs.name, .static Lib.Math.abs.name, .initialized "java/lang/Math", .code Lib.Math.abs.name Lib.Math.abs.code 1 (some .int)] ++ wsX00)
def wsX0_burden : List Cond := .code yX0_burden cX0_burden 5 (some .long) :: ([.fieldLink RX0 55 "WellField" "watchCount" "I", .fieldLink RX0 47 "WellField" "wellCount" "I", .fieldLink RX0 16 "WellField" "licences" "[I", .methodLink RX0 58 yX0_needIndex, .static yX0_needIndex, .initialized RX0, .code yX0_needIndex cX0_needIndex 2 none, .classLink RX0 114 "java/lang/IndexOutOfBoundsException", .initialized "java/lang/IndexOutOfBoundsException", .methodLink RX0 101 yX0_burdenOfUnits, .instanceMethod yX0_burdenOfUnits, .selects RX0 yX0_burdenOfUnits yX0_burdenOfUnits, .code yX0_burdenOfUnits cX0_burdenOfUnits 5 (some .long), .fieldLink RX0 33 "WellField" "tableSums" "[I", .methodLink RX0 78 yX0_reachOf, .instanceMethod yX0_reachOf, .selects RX0 yX0_reachOf yX0_reachOf, .code yX0_reachOf cX0_reachOf 3 (some .int), .fieldLink RX0 9 "WellField" "wellPlaces" "[I", .fieldLink RX0 24 "WellField" "watchPlaces" "[I", .methodLink RX0 133 Lib.Math.abs.name, .static Lib.Math.abs.name, .initialized "java/lang/Math", .code Lib.Math.abs.name Lib.Math.abs.code 1 (some .int)] ++ wsX00 ++ (vx_atS RX0 118 "java/lang/IndexOutOfBoundsException" ["java/lang/RuntimeException", "java/lang/Exception"]).filter goodWord)
def wsX0_needTwoWells : List Cond := .code yX0_needTwoWells cX0_needTwoWells 3 none :: ([.classLink RX0 121 "java/lang/IllegalArgumentException", .initialized "java/lang/IllegalArgumentException", .fieldLink RX0 47 "WellField" "wellCount" "I", .methodLink RX0 58 yX0_needIndex, .static yX0_needIndex, .initialized RX0, .code yX0_needIndex cX0_needIndex 2 none, .classLink RX0 114 "java/lang/IndexOutOfBoundsException", .initialized "java/lang/IndexOutOfBoundsException"] ++ wsX00 ++ (vx_atS RX0 125 "java/lang/IllegalArgumentException" ["java/lang/RuntimeException", "java/lang/Exception"]).filter goodWord ++ (vx_atS RX0 118 "java/lang/IndexOutOfBoundsException" ["java/lang/RuntimeException", "java/lang/Exception"]).filter goodWord)
def wsX0_unitsGot : List Cond := .code yX0_unitsGot cX0_unitsGot 4 (some .int) :: ([.fieldLink RX0 36 "WellField" "ratios" "[[I", .fieldLink RX0 13 "WellField" "wellZones" "[I"] ++ wsX00)
def wsX0_canTrade : List Cond := .code yX0_canTrade cX0_canTrade 6 (some .boolean) :: ([.fieldLink RX0 16 "WellField" "licences" "[I", .fieldLink RX0 55 "WellField" "watchCount" "I", .methodLink RX0 111 yX0_unitsGot, .instanceMethod yX0_unitsGot, .selects RX0 yX0_unitsGot yX0_unitsGot, .initialized RX0, .code yX0_unitsGot cX0_unitsGot 4 (some .int), .fieldLink RX0 36 "WellField" "ratios" "[[I", .fieldLink RX0 13 "WellField" "wellZones" "[I", .methodLink RX0 101 yX0_burdenOfUnits, .instanceMethod yX0_burdenOfUnits, .selects RX0 yX0_burdenOfUnits yX0_burdenOfUnits, .code yX0_burdenOfUnits cX0_burdenOfUnits 5 (some .long), .fieldLink RX0 33 "WellField" "tableSums" "[I", .methodLink RX0 78 yX0_reachOf, .instanceMethod yX0_reachOf, .selects RX0 yX0_reachOf yX0_reachOf, .code yX0_reachOf cX0_reachOf 3 (some .int), .fieldLink RX0 9 "WellField" "wellPlaces" "[I", .fieldLink RX0 24 "WellField" "watchPlaces" "[I", .methodLink RX0 133 Lib.Math.abs.name, .static Lib.Math.abs.name, .initialized "java/lang/Math", .code Lib.Math.abs.name Lib.Math.abs.code 1 (some .int)] ++ wsX00)
def wsX0_trade_r1 : List Cond := [Cond.fieldLink RX0 16 "WellField" "licences" "[I", Cond.methodLink RX0 104 yX0_needTwoWells, Cond.instanceMethod yX0_needTwoWells, Cond.selects RX0 yX0_needTwoWells yX0_needTwoWells, Cond.initialized RX0, Cond.code yX0_needTwoWells cX0_needTwoWells 3 none, Cond.classLink RX0 121 "java/lang/IllegalArgumentException", Cond.initialized "java/lang/IllegalArgumentException", Cond.fieldLink RX0 47 "WellField" "wellCount" "I", Cond.methodLink RX0 58 yX0_needIndex, Cond.static yX0_needIndex, Cond.code yX0_needIndex cX0_needIndex 2 none, Cond.classLink RX0 114 "java/lang/IndexOutOfBoundsException", Cond.initialized "java/lang/IndexOutOfBoundsException", Cond.methodLink RX0 43 yX0_needRange, Cond.static yX0_needRange, Cond.code yX0_needRange cX0_needRange 3 none, Cond.methodLink RX0 107 yX0_canTrade, Cond.instanceMethod yX0_canTrade, Cond.selects RX0 yX0_canTrade yX0_canTrade, Cond.code yX0_canTrade cX0_canTrade 6 (some .boolean), Cond.fieldLink RX0 55 "WellField" "watchCount" "I", Cond.methodLink RX0 111 yX0_unitsGot, Cond.instanceMethod yX0_unitsGot]
def wsX0_trade_r2 : List Cond := [Cond.selects RX0 yX0_unitsGot yX0_unitsGot, Cond.code yX0_unitsGot cX0_unitsGot 4 (some .int), Cond.fieldLink RX0 36 "WellField" "ratios" "[[I", Cond.fieldLink RX0 13 "WellField" "wellZones" "[I", Cond.methodLink RX0 101 yX0_burdenOfUnits, Cond.instanceMethod yX0_burdenOfUnits, Cond.selects RX0 yX0_burdenOfUnits yX0_burdenOfUnits, Cond.code yX0_burdenOfUnits cX0_burdenOfUnits 5 (some .long), Cond.fieldLink RX0 33 "WellField" "tableSums" "[I", Cond.methodLink RX0 78 yX0_reachOf, Cond.instanceMethod yX0_reachOf, Cond.selects RX0 yX0_reachOf yX0_reachOf, Cond.code yX0_reachOf cX0_reachOf 3 (some .int), Cond.fieldLink RX0 9 "WellField" "wellPlaces" "[I", Cond.fieldLink RX0 24 "WellField" "watchPlaces" "[I", Cond.methodLink RX0 133 Lib.Math.abs.name, Cond.static Lib.Math.abs.name, Cond.initialized "java/lang/Math", Cond.code Lib.Math.abs.name Lib.Math.abs.code 1 (some .int), Cond.methodLink RX0 51 yX0_needAllowed, Cond.static yX0_needAllowed, Cond.code yX0_needAllowed cX0_needAllowed 1 none, Cond.classLink RX0 126 "java/lang/IllegalStateException", Cond.initialized "java/lang/IllegalStateException"]
def wsX0_trade : List Cond := .code yX0_trade cX0_trade 5 (some .int) :: ((wsX0_trade_r1 ++ wsX0_trade_r2) ++ wsX00 ++ (vx_atS RX0 125 "java/lang/IllegalArgumentException" ["java/lang/RuntimeException", "java/lang/Exception"]).filter goodWord ++ (vx_atS RX0 118 "java/lang/IndexOutOfBoundsException" ["java/lang/RuntimeException", "java/lang/Exception"]).filter goodWord ++ (vx_atS RX0 130 "java/lang/IllegalStateException" ["java/lang/RuntimeException", "java/lang/Exception"]).filter goodWord)
def wsX0_mostTraded_r1 : List Cond := [Cond.fieldLink RX0 16 "WellField" "licences" "[I", Cond.methodLink RX0 62 Lib.Math.min.name, Cond.static Lib.Math.min.name, Cond.initialized "java/lang/Math", Cond.code Lib.Math.min.name Lib.Math.min.code 2 (some .int), Cond.methodLink RX0 104 yX0_needTwoWells, Cond.instanceMethod yX0_needTwoWells, Cond.selects RX0 yX0_needTwoWells yX0_needTwoWells, Cond.initialized RX0, Cond.code yX0_needTwoWells cX0_needTwoWells 3 none, Cond.classLink RX0 121 "java/lang/IllegalArgumentException", Cond.initialized "java/lang/IllegalArgumentException", Cond.fieldLink RX0 47 "WellField" "wellCount" "I", Cond.methodLink RX0 58 yX0_needIndex, Cond.static yX0_needIndex, Cond.code yX0_needIndex cX0_needIndex 2 none, Cond.classLink RX0 114 "java/lang/IndexOutOfBoundsException", Cond.initialized "java/lang/IndexOutOfBoundsException", Cond.methodLink RX0 107 yX0_canTrade, Cond.instanceMethod yX0_canTrade, Cond.selects RX0 yX0_canTrade yX0_canTrade, Cond.code yX0_canTrade cX0_canTrade 6 (some .boolean), Cond.fieldLink RX0 55 "WellField" "watchCount" "I", Cond.methodLink RX0 111 yX0_unitsGot]
def wsX0_mostTraded_r2 : List Cond := [Cond.instanceMethod yX0_unitsGot, Cond.selects RX0 yX0_unitsGot yX0_unitsGot, Cond.code yX0_unitsGot cX0_unitsGot 4 (some .int), Cond.fieldLink RX0 36 "WellField" "ratios" "[[I", Cond.fieldLink RX0 13 "WellField" "wellZones" "[I", Cond.methodLink RX0 101 yX0_burdenOfUnits, Cond.instanceMethod yX0_burdenOfUnits, Cond.selects RX0 yX0_burdenOfUnits yX0_burdenOfUnits, Cond.code yX0_burdenOfUnits cX0_burdenOfUnits 5 (some .long), Cond.fieldLink RX0 33 "WellField" "tableSums" "[I", Cond.methodLink RX0 78 yX0_reachOf, Cond.instanceMethod yX0_reachOf, Cond.selects RX0 yX0_reachOf yX0_reachOf, Cond.code yX0_reachOf cX0_reachOf 3 (some .int), Cond.fieldLink RX0 9 "WellField" "wellPlaces" "[I", Cond.fieldLink RX0 24 "WellField" "watchPlaces" "[I", Cond.methodLink RX0 133 Lib.Math.abs.name, Cond.static Lib.Math.abs.name, Cond.code Lib.Math.abs.name Lib.Math.abs.code 1 (some .int)]
def wsX0_mostTraded : List Cond := .code yX0_mostTraded cX0_mostTraded 4 (some .int) :: ((wsX0_mostTraded_r1 ++ wsX0_mostTraded_r2) ++ wsX00 ++ (vx_atS RX0 125 "java/lang/IllegalArgumentException" ["java/lang/RuntimeException", "java/lang/Exception"]).filter goodWord ++ (vx_atS RX0 118 "java/lang/IndexOutOfBoundsException" ["java/lang/RuntimeException", "java/lang/Exception"]).filter goodWord)
def wsX1_init : List Cond := .code yX1_init cX1_init 2 none :: ([.methodLink RX1 1 objectInit, .instanceMethod objectInit, .code objectInit ⟨#[0xb1]⟩ 1 none, .arrayClass .int, .fieldLink RX1 7 "WellFieldModel" "place" "[I", .fieldLink RX1 13 "WellFieldModel" "zone" "[I", .fieldLink RX1 16 "WellFieldModel" "licence" "[I", .fieldLink RX1 19 "WellFieldModel" "units" "[I", .fieldLink RX1 22 "WellFieldModel" "spot" "[I", .fieldLink RX1 25 "WellFieldModel" "limit" "[I", .fieldLink RX1 28 "WellFieldModel" "table" "[I", .fieldLink RX1 31 "WellFieldModel" "ratio" "[I"] ++ wsX10)
def wsX1_thrown : List Cond := .code yX1_thrown cX1_thrown 1 (some .int) :: ([.fieldLink RX1 34 "WellFieldModel" "thrown" "I"] ++ wsX10)
def wsX1_may : List Cond := .code yX1_may cX1_may 2 (some .boolean) :: ([.fieldLink RX1 34 "WellFieldModel" "thrown" "I"] ++ wsX10)
def wsX1_mayBoth : List Cond := .code yX1_mayBoth cX1_mayBoth 3 (some .boolean) :: ([.fieldLink RX1 34 "WellFieldModel" "thrown" "I"] ++ wsX10)
def wsX1_mayAll : List Cond := .code yX1_mayAll cX1_mayAll 4 (some .boolean) :: ([.fieldLink RX1 34 "WellFieldModel" "thrown" "I"] ++ wsX10)
def wsX1_isIn : List Cond := .code yX1_isIn cX1_isIn 3 (some .boolean) :: ([])
def wsX1_isWell : List Cond := .code yX1_isWell cX1_isWell 2 (some .boolean) :: ([.fieldLink RX1 38 "WellFieldModel" "wells" "I", .methodLink RX1 41 yX1_isIn, .static yX1_isIn, .initialized RX1, .code yX1_isIn cX1_isIn 3 (some .boolean)] ++ wsX10)
def wsX1_isWatch : List Cond := .code yX1_isWatch cX1_isWatch 2 (some .boolean) :: ([.fieldLink RX1 45 "WellFieldModel" "watches" "I", .methodLink RX1 41 yX1_isIn, .static yX1_isIn, .initialized RX1, .code yX1_isIn cX1_isIn 3 (some .boolean)] ++ wsX10)
def wsX1_isMonth : List Cond := .code yX1_isMonth cX1_isMonth 1 (some .boolean) :: ([.methodLink RX1 41 yX1_isIn, .static yX1_isIn, .initialized RX1, .code yX1_isIn cX1_isIn 3 (some .boolean)])
def wsX1_isYear : List Cond := .code yX1_isYear cX1_isYear 1 (some .boolean) :: ([.methodLink RX1 41 yX1_isIn, .static yX1_isIn, .initialized RX1, .code yX1_isIn cX1_isIn 3 (some .boolean)])
def wsX1_well : List Cond := .code yX1_well cX1_well 4 (some .int) :: ([.fieldLink RX1 38 "WellFieldModel" "wells" "I", .fieldLink RX1 7 "WellFieldModel" "place" "[I", .fieldLink RX1 13 "WellFieldModel" "zone" "[I", .fieldLink RX1 16 "WellFieldModel" "licence" "[I", .methodLink RX1 41 yX1_isIn, .static yX1_isIn, .initialized RX1, .code yX1_isIn cX1_isIn 3 (some .boolean), .methodLink RX1 48 yX1_mayBoth, .instanceMethod yX1_mayBoth, .selects RX1 yX1_mayBoth yX1_mayBoth, .code yX1_mayBoth cX1_mayBoth 3 (some .boolean), .fieldLink RX1 34 "WellFieldModel" "thrown" "I"] ++ wsX10)
def wsX1_watch : List Cond := .code yX1_watch cX1_watch 3 (some .int) :: ([.fieldLink RX1 45 "WellFieldModel" "watches" "I", .fieldLink RX1 22 "WellFieldModel" "spot" "[I", .fieldLink RX1 25 "WellFieldModel" "limit" "[I", .methodLink RX1 41 yX1_isIn, .static yX1_isIn, .initialized RX1, .code yX1_isIn cX1_isIn 3 (some .boolean), .methodLink RX1 48 yX1_mayBoth, .instanceMethod yX1_mayBoth, .selects RX1 yX1_mayBoth yX1_mayBoth, .code yX1_mayBoth cX1_mayBoth 3 (some .boolean), .fieldLink RX1 34 "WellFieldModel" "thrown" "I"] ++ wsX10)
def wsX1_response : List Cond := .code yX1_response cX1_response 5 (some .int) :: ([.fieldLink RX1 28 "WellFieldModel" "table" "[I", .methodLink RX1 41 yX1_isIn, .static yX1_isIn, .initialized RX1, .code yX1_isIn cX1_isIn 3 (some .boolean), .methodLink RX1 48 yX1_mayBoth, .instanceMethod yX1_mayBoth, .selects RX1 yX1_mayBoth yX1_mayBoth, .code yX1_mayBoth cX1_mayBoth 3 (some .boolean), .fieldLink RX1 34 "WellFieldModel" "thrown" "I"] ++ wsX10)
def wsX1_wells : List Cond := .code yX1_wells cX1_wells 1 (some .int) :: ([.fieldLink RX1 34 "WellFieldModel" "thrown" "I", .fieldLink RX1 38 "WellFieldModel" "wells" "I"] ++ wsX10)
def wsX1_watches : List Cond := .code yX1_watches cX1_watches 1 (some .int) :: ([.fieldLink RX1 34 "WellFieldModel" "thrown" "I", .fieldLink RX1 45 "WellFieldModel" "watches" "I"] ++ wsX10)
def wsX1_pump : List Cond := .code yX1_pump cX1_pump 5 (some .int) :: ([.fieldLink RX1 19 "WellFieldModel" "units" "[I", .methodLink RX1 52 yX1_isWell, .instanceMethod yX1_isWell, .selects RX1 yX1_isWell yX1_isWell, .initialized RX1, .code yX1_isWell cX1_isWell 2 (some .boolean), .fieldLink RX1 38 "WellFieldModel" "wells" "I", .methodLink RX1 41 yX1_isIn, .static yX1_isIn, .code yX1_isIn cX1_isIn 3 (some .boolean), .methodLink RX1 56 yX1_isMonth, .static yX1_isMonth, .code yX1_isMonth cX1_isMonth 1 (some .boolean), .methodLink RX1 48 yX1_mayBoth, .instanceMethod yX1_mayBoth, .selects RX1 yX1_mayBoth yX1_mayBoth, .code yX1_mayBoth cX1_mayBoth 3 (some .boolean), .fieldLink RX1 34 "WellFieldModel" "thrown" "I"] ++ wsX10)
def wsX1_rest : List Cond := .code yX1_rest cX1_rest 6 (some .int) :: ([.fieldLink RX1 19 "WellFieldModel" "units" "[I", .methodLink RX1 52 yX1_isWell, .instanceMethod yX1_isWell, .selects RX1 yX1_isWell yX1_isWell, .initialized RX1, .code yX1_isWell cX1_isWell 2 (some .boolean), .fieldLink RX1 38 "WellFieldModel" "wells" "I", .methodLink RX1 41 yX1_isIn, .static yX1_isIn, .code yX1_isIn cX1_isIn 3 (some .boolean), .methodLink RX1 56 yX1_isMonth, .static yX1_isMonth, .code yX1_isMonth cX1_isMonth 1 (some .boolean), .methodLink RX1 48 yX1_mayBoth, .instanceMethod yX1_mayBoth, .selects RX1 yX1_mayBoth yX1_mayBoth, .code yX1_mayBoth cX1_mayBoth 3 (some .boolean), .fieldLink RX1 34 "WellFieldModel" "thrown" "I"] ++ wsX10)
def wsX1_pumpedIn : List Cond := .code yX1_pumpedIn cX1_pumpedIn 5 (some .int) :: ([.fieldLink RX1 19 "WellFieldModel" "units" "[I"] ++ wsX10)
def wsX1_pumped : List Cond := .code yX1_pumped cX1_pumped 3 (some .int) :: ([.methodLink RX1 52 yX1_isWell, .instanceMethod yX1_isWell, .selects RX1 yX1_isWell yX1_isWell, .initialized RX1, .code yX1_isWell cX1_isWell 2 (some .boolean), .fieldLink RX1 38 "WellFieldModel" "wells" "I", .methodLink RX1 41 yX1_isIn, .static yX1_isIn, .code yX1_isIn cX1_isIn 3 (some .boolean), .methodLink RX1 59 yX1_isYear, .static yX1_isYear, .code yX1_isYear cX1_isYear 1 (some .boolean), .methodLink RX1 62 yX1_may, .instanceMethod yX1_may, .selects RX1 yX1_may yX1_may, .code yX1_may cX1_may 2 (some .boolean), .fieldLink RX1 34 "WellFieldModel" "thrown" "I", .methodLink RX1 66 yX1_pumpedIn, .instanceMethod yX1_pumpedIn, .selects RX1 yX1_pumpedIn yX1_pumpedIn, .code yX1_pumpedIn cX1_pumpedIn 5 (some .int), .fieldLink RX1 19 "WellFieldModel" "units" "[I"] ++ wsX10)
def wsX1_beyond : List Cond := .code yX1_beyond cX1_beyond 5 (some .int) :: ([.fieldLink RX1 38 "WellFieldModel" "wells" "I", .fieldLink RX1 16 "WellFieldModel" "licence" "[I", .methodLink RX1 59 yX1_isYear, .static yX1_isYear, .initialized RX1, .code yX1_isYear cX1_isYear 1 (some .boolean), .methodLink RX1 41 yX1_isIn, .static yX1_isIn, .code yX1_isIn cX1_isIn 3 (some .boolean), .methodLink RX1 62 yX1_may, .instanceMethod yX1_may, .selects RX1 yX1_may yX1_may, .code yX1_may cX1_may 2 (some .boolean), .fieldLink RX1 34 "WellFieldModel" "thrown" "I", .methodLink RX1 66 yX1_pumpedIn, .instanceMethod yX1_pumpedIn, .selects RX1 yX1_pumpedIn yX1_pumpedIn, .code yX1_pumpedIn cX1_pumpedIn 5 (some .int), .fieldLink RX1 19 "WellFieldModel" "units" "[I"] ++ wsX10)
def wsX1_answer : List Cond := .code yX1_answer cX1_answer 6 (some .int) :: ([.fieldLink RX1 7 "WellFieldModel" "place" "[I", .fieldLink RX1 22 "WellFieldModel" "spot" "[I", .fieldLink RX1 28 "WellFieldModel" "table" "[I"] ++ wsX10)
def wsX1_drawdownOf : List Cond := .code yX1_drawdownOf cX1_drawdownOf 7 (some .long) :: ([.fieldLink RX1 38 "WellFieldModel" "wells" "I", .fieldLink RX1 19 "WellFieldModel" "units" "[I", .methodLink RX1 70 yX1_answer, .instanceMethod yX1_answer, .selects RX1 yX1_answer yX1_answer, .initialized RX1, .code yX1_answer cX1_answer 6 (some .int), .fieldLink RX1 7 "WellFieldModel" "place" "[I", .fieldLink RX1 22 "WellFieldModel" "spot" "[I", .fieldLink RX1 28 "WellFieldModel" "table" "[I"] ++ wsX10)
def wsX1_drawdown_r1 : List Cond := [Cond.methodLink RX1 74 yX1_isWatch, Cond.instanceMethod yX1_isWatch, Cond.selects RX1 yX1_isWatch yX1_isWatch, Cond.initialized RX1, Cond.code yX1_isWatch cX1_isWatch 2 (some .boolean), Cond.fieldLink RX1 45 "WellFieldModel" "watches" "I", Cond.methodLink RX1 41 yX1_isIn, Cond.static yX1_isIn, Cond.code yX1_isIn cX1_isIn 3 (some .boolean), Cond.methodLink RX1 56 yX1_isMonth, Cond.static yX1_isMonth, Cond.code yX1_isMonth cX1_isMonth 1 (some .boolean), Cond.methodLink RX1 62 yX1_may, Cond.instanceMethod yX1_may, Cond.selects RX1 yX1_may yX1_may, Cond.code yX1_may cX1_may 2 (some .boolean), Cond.fieldLink RX1 34 "WellFieldModel" "thrown" "I", Cond.methodLink RX1 77 yX1_drawdownOf, Cond.instanceMethod yX1_drawdownOf, Cond.selects RX1 yX1_drawdownOf yX1_drawdownOf, Cond.code yX1_drawdownOf cX1_drawdownOf 7 (some .long), Cond.fieldLink RX1 38 "WellFieldModel" "wells" "I", Cond.fieldLink RX1 19 "WellFieldModel" "units" "[I", Cond.methodLink RX1 70 yX1_answer]
def wsX1_drawdown_r2 : List Cond := [Cond.instanceMethod yX1_answer, Cond.selects RX1 yX1_answer yX1_answer, Cond.code yX1_answer cX1_answer 6 (some .int), Cond.fieldLink RX1 7 "WellFieldModel" "place" "[I", Cond.fieldLink RX1 22 "WellFieldModel" "spot" "[I", Cond.fieldLink RX1 28 "WellFieldModel" "table" "[I"]
def wsX1_drawdown : List Cond := .code yX1_drawdown cX1_drawdown 3 (some .long) :: ((wsX1_drawdown_r1 ++ wsX1_drawdown_r2) ++ wsX10)
def wsX1_drawdownByPulses_r1 : List Cond := [Cond.methodLink RX1 81 yX1_drawdown, Cond.instanceMethod yX1_drawdown, Cond.selects RX1 yX1_drawdown yX1_drawdown, Cond.initialized RX1, Cond.code yX1_drawdown cX1_drawdown 3 (some .long), Cond.methodLink RX1 74 yX1_isWatch, Cond.instanceMethod yX1_isWatch, Cond.selects RX1 yX1_isWatch yX1_isWatch, Cond.code yX1_isWatch cX1_isWatch 2 (some .boolean), Cond.fieldLink RX1 45 "WellFieldModel" "watches" "I", Cond.methodLink RX1 41 yX1_isIn, Cond.static yX1_isIn, Cond.code yX1_isIn cX1_isIn 3 (some .boolean), Cond.methodLink RX1 56 yX1_isMonth, Cond.static yX1_isMonth, Cond.code yX1_isMonth cX1_isMonth 1 (some .boolean), Cond.methodLink RX1 62 yX1_may, Cond.instanceMethod yX1_may, Cond.selects RX1 yX1_may yX1_may, Cond.code yX1_may cX1_may 2 (some .boolean), Cond.fieldLink RX1 34 "WellFieldModel" "thrown" "I", Cond.methodLink RX1 77 yX1_drawdownOf, Cond.instanceMethod yX1_drawdownOf, Cond.selects RX1 yX1_drawdownOf yX1_drawdownOf]
def wsX1_drawdownByPulses_r2 : List Cond := [Cond.code yX1_drawdownOf cX1_drawdownOf 7 (some .long), Cond.fieldLink RX1 38 "WellFieldModel" "wells" "I", Cond.fieldLink RX1 19 "WellFieldModel" "units" "[I", Cond.methodLink RX1 70 yX1_answer, Cond.instanceMethod yX1_answer, Cond.selects RX1 yX1_answer yX1_answer, Cond.code yX1_answer cX1_answer 6 (some .int), Cond.fieldLink RX1 7 "WellFieldModel" "place" "[I", Cond.fieldLink RX1 22 "WellFieldModel" "spot" "[I", Cond.fieldLink RX1 28 "WellFieldModel" "table" "[I"]
def wsX1_drawdownByPulses : List Cond := .code yX1_drawdownByPulses cX1_drawdownByPulses 3 (some .long) :: ((wsX1_drawdownByPulses_r1 ++ wsX1_drawdownByPulses_r2) ++ wsX10)
def wsX1_worstMonth_r1 : List Cond := [Cond.methodLink RX1 74 yX1_isWatch, Cond.instanceMethod yX1_isWatch, Cond.selects RX1 yX1_isWatch yX1_isWatch, Cond.initialized RX1, Cond.code yX1_isWatch cX1_isWatch 2 (some .boolean), Cond.fieldLink RX1 45 "WellFieldModel" "watches" "I", Cond.methodLink RX1 41 yX1_isIn, Cond.static yX1_isIn, Cond.code yX1_isIn cX1_isIn 3 (some .boolean), Cond.methodLink RX1 62 yX1_may, Cond.instanceMethod yX1_may, Cond.selects RX1 yX1_may yX1_may, Cond.code yX1_may cX1_may 2 (some .boolean), Cond.fieldLink RX1 34 "WellFieldModel" "thrown" "I", Cond.methodLink RX1 77 yX1_drawdownOf, Cond.instanceMethod yX1_drawdownOf, Cond.selects RX1 yX1_drawdownOf yX1_drawdownOf, Cond.code yX1_drawdownOf cX1_drawdownOf 7 (some .long), Cond.fieldLink RX1 38 "WellFieldModel" "wells" "I", Cond.fieldLink RX1 19 "WellFieldModel" "units" "[I", Cond.methodLink RX1 70 yX1_answer, Cond.instanceMethod yX1_answer, Cond.selects RX1 yX1_answer yX1_answer, Cond.code yX1_answer cX1_answer 6 (some .int)]
def wsX1_worstMonth_r2 : List Cond := [Cond.fieldLink RX1 7 "WellFieldModel" "place" "[I", Cond.fieldLink RX1 22 "WellFieldModel" "spot" "[I", Cond.fieldLink RX1 28 "WellFieldModel" "table" "[I"]
def wsX1_worstMonth : List Cond := .code yX1_worstMonth cX1_worstMonth 4 (some .int) :: ((wsX1_worstMonth_r1 ++ wsX1_worstMonth_r2) ++ wsX10)
def wsX1_over_r1 : List Cond := [Cond.constantLong RX1 84 (1000), Cond.fieldLink RX1 25 "WellFieldModel" "limit" "[I", Cond.methodLink RX1 74 yX1_isWatch, Cond.instanceMethod yX1_isWatch, Cond.selects RX1 yX1_isWatch yX1_isWatch, Cond.initialized RX1, Cond.code yX1_isWatch cX1_isWatch 2 (some .boolean), Cond.fieldLink RX1 45 "WellFieldModel" "watches" "I", Cond.methodLink RX1 41 yX1_isIn, Cond.static yX1_isIn, Cond.code yX1_isIn cX1_isIn 3 (some .boolean), Cond.methodLink RX1 62 yX1_may, Cond.instanceMethod yX1_may, Cond.selects RX1 yX1_may yX1_may, Cond.code yX1_may cX1_may 2 (some .boolean), Cond.fieldLink RX1 34 "WellFieldModel" "thrown" "I", Cond.methodLink RX1 77 yX1_drawdownOf, Cond.instanceMethod yX1_drawdownOf, Cond.selects RX1 yX1_drawdownOf yX1_drawdownOf, Cond.code yX1_drawdownOf cX1_drawdownOf 7 (some .long), Cond.fieldLink RX1 38 "WellFieldModel" "wells" "I", Cond.fieldLink RX1 19 "WellFieldModel" "units" "[I", Cond.methodLink RX1 70 yX1_answer, Cond.instanceMethod yX1_answer]
def wsX1_over_r2 : List Cond := [Cond.selects RX1 yX1_answer yX1_answer, Cond.code yX1_answer cX1_answer 6 (some .int), Cond.fieldLink RX1 7 "WellFieldModel" "place" "[I", Cond.fieldLink RX1 22 "WellFieldModel" "spot" "[I", Cond.fieldLink RX1 28 "WellFieldModel" "table" "[I"]
def wsX1_over : List Cond := .code yX1_over cX1_over 4 (some .int) :: ((wsX1_over_r1 ++ wsX1_over_r2) ++ wsX10)
def wsX1_headroom_r1 : List Cond := [Cond.fieldLink RX1 19 "WellFieldModel" "units" "[I", Cond.fieldLink RX1 45 "WellFieldModel" "watches" "I", Cond.constantLong RX1 84 (1000), Cond.fieldLink RX1 25 "WellFieldModel" "limit" "[I", Cond.methodLink RX1 52 yX1_isWell, Cond.instanceMethod yX1_isWell, Cond.selects RX1 yX1_isWell yX1_isWell, Cond.initialized RX1, Cond.code yX1_isWell cX1_isWell 2 (some .boolean), Cond.fieldLink RX1 38 "WellFieldModel" "wells" "I", Cond.methodLink RX1 41 yX1_isIn, Cond.static yX1_isIn, Cond.code yX1_isIn cX1_isIn 3 (some .boolean), Cond.methodLink RX1 56 yX1_isMonth, Cond.static yX1_isMonth, Cond.code yX1_isMonth cX1_isMonth 1 (some .boolean), Cond.methodLink RX1 62 yX1_may, Cond.instanceMethod yX1_may, Cond.selects RX1 yX1_may yX1_may, Cond.code yX1_may cX1_may 2 (some .boolean), Cond.fieldLink RX1 34 "WellFieldModel" "thrown" "I", Cond.methodLink RX1 70 yX1_answer, Cond.instanceMethod yX1_answer, Cond.selects RX1 yX1_answer yX1_answer]
def wsX1_headroom_r2 : List Cond := [Cond.code yX1_answer cX1_answer 6 (some .int), Cond.fieldLink RX1 7 "WellFieldModel" "place" "[I", Cond.fieldLink RX1 22 "WellFieldModel" "spot" "[I", Cond.fieldLink RX1 28 "WellFieldModel" "table" "[I", Cond.methodLink RX1 77 yX1_drawdownOf, Cond.instanceMethod yX1_drawdownOf, Cond.selects RX1 yX1_drawdownOf yX1_drawdownOf, Cond.code yX1_drawdownOf cX1_drawdownOf 7 (some .long)]
def wsX1_headroom : List Cond := .code yX1_headroom cX1_headroom 12 (some .int) :: ((wsX1_headroom_r1 ++ wsX1_headroom_r2) ++ wsX10)
def wsX1_heaviest_r1 : List Cond := [Cond.fieldLink RX1 38 "WellFieldModel" "wells" "I", Cond.fieldLink RX1 19 "WellFieldModel" "units" "[I", Cond.methodLink RX1 74 yX1_isWatch, Cond.instanceMethod yX1_isWatch, Cond.selects RX1 yX1_isWatch yX1_isWatch, Cond.initialized RX1, Cond.code yX1_isWatch cX1_isWatch 2 (some .boolean), Cond.fieldLink RX1 45 "WellFieldModel" "watches" "I", Cond.methodLink RX1 41 yX1_isIn, Cond.static yX1_isIn, Cond.code yX1_isIn cX1_isIn 3 (some .boolean), Cond.methodLink RX1 56 yX1_isMonth, Cond.static yX1_isMonth, Cond.code yX1_isMonth cX1_isMonth 1 (some .boolean), Cond.methodLink RX1 62 yX1_may, Cond.instanceMethod yX1_may, Cond.selects RX1 yX1_may yX1_may, Cond.code yX1_may cX1_may 2 (some .boolean), Cond.fieldLink RX1 34 "WellFieldModel" "thrown" "I", Cond.methodLink RX1 70 yX1_answer, Cond.instanceMethod yX1_answer, Cond.selects RX1 yX1_answer yX1_answer, Cond.code yX1_answer cX1_answer 6 (some .int), Cond.fieldLink RX1 7 "WellFieldModel" "place" "[I"]
def wsX1_heaviest_r2 : List Cond := [Cond.fieldLink RX1 22 "WellFieldModel" "spot" "[I", Cond.fieldLink RX1 28 "WellFieldModel" "table" "[I"]
def wsX1_heaviest : List Cond := .code yX1_heaviest cX1_heaviest 8 (some .int) :: ((wsX1_heaviest_r1 ++ wsX1_heaviest_r2) ++ wsX10)
def wsX1_takenBy : List Cond := .code yX1_takenBy cX1_takenBy 9 (some .int) :: ([.fieldLink RX1 7 "WellFieldModel" "place" "[I", .fieldLink RX1 19 "WellFieldModel" "units" "[I"] ++ wsX10)
def wsX1_taken : List Cond := .code yX1_taken cX1_taken 4 (some .int) :: ([.fieldLink RX1 38 "WellFieldModel" "wells" "I", .methodLink RX1 59 yX1_isYear, .static yX1_isYear, .initialized RX1, .code yX1_isYear cX1_isYear 1 (some .boolean), .methodLink RX1 41 yX1_isIn, .static yX1_isIn, .code yX1_isIn cX1_isIn 3 (some .boolean), .methodLink RX1 62 yX1_may, .instanceMethod yX1_may, .selects RX1 yX1_may yX1_may, .code yX1_may cX1_may 2 (some .boolean), .fieldLink RX1 34 "WellFieldModel" "thrown" "I", .methodLink RX1 86 yX1_takenBy, .instanceMethod yX1_takenBy, .selects RX1 yX1_takenBy yX1_takenBy, .code yX1_takenBy cX1_takenBy 9 (some .int), .fieldLink RX1 7 "WellFieldModel" "place" "[I", .fieldLink RX1 19 "WellFieldModel" "units" "[I"] ++ wsX10)
def wsX1_takenLate : List Cond := .code yX1_takenLate cX1_takenLate 3 (some .int) :: ([.methodLink RX1 52 yX1_isWell, .instanceMethod yX1_isWell, .selects RX1 yX1_isWell yX1_isWell, .initialized RX1, .code yX1_isWell cX1_isWell 2 (some .boolean), .fieldLink RX1 38 "WellFieldModel" "wells" "I", .methodLink RX1 41 yX1_isIn, .static yX1_isIn, .code yX1_isIn cX1_isIn 3 (some .boolean), .methodLink RX1 59 yX1_isYear, .static yX1_isYear, .code yX1_isYear cX1_isYear 1 (some .boolean), .methodLink RX1 62 yX1_may, .instanceMethod yX1_may, .selects RX1 yX1_may yX1_may, .code yX1_may cX1_may 2 (some .boolean), .fieldLink RX1 34 "WellFieldModel" "thrown" "I", .methodLink RX1 86 yX1_takenBy, .instanceMethod yX1_takenBy, .selects RX1 yX1_takenBy yX1_takenBy, .code yX1_takenBy cX1_takenBy 9 (some .int), .fieldLink RX1 7 "WellFieldModel" "place" "[I", .fieldLink RX1 19 "WellFieldModel" "units" "[I"] ++ wsX10)
def wsX1_licence : List Cond := .code yX1_licence cX1_licence 2 (some .int) :: ([.fieldLink RX1 16 "WellFieldModel" "licence" "[I", .methodLink RX1 52 yX1_isWell, .instanceMethod yX1_isWell, .selects RX1 yX1_isWell yX1_isWell, .initialized RX1, .code yX1_isWell cX1_isWell 2 (some .boolean), .fieldLink RX1 38 "WellFieldModel" "wells" "I", .methodLink RX1 41 yX1_isIn, .static yX1_isIn, .code yX1_isIn cX1_isIn 3 (some .boolean), .methodLink RX1 62 yX1_may, .instanceMethod yX1_may, .selects RX1 yX1_may yX1_may, .code yX1_may cX1_may 2 (some .boolean), .fieldLink RX1 34 "WellFieldModel" "thrown" "I"] ++ wsX10)
def wsX1_ratio : List Cond := .code yX1_ratio cX1_ratio 5 (some .int) :: ([.fieldLink RX1 31 "WellFieldModel" "ratio" "[I", .methodLink RX1 41 yX1_isIn, .static yX1_isIn, .initialized RX1, .code yX1_isIn cX1_isIn 3 (some .boolean), .methodLink RX1 48 yX1_mayBoth, .instanceMethod yX1_mayBoth, .selects RX1 yX1_mayBoth yX1_mayBoth, .code yX1_mayBoth cX1_mayBoth 3 (some .boolean), .fieldLink RX1 34 "WellFieldModel" "thrown" "I"] ++ wsX10)
def wsX1_allOf : List Cond := .code yX1_allOf cX1_allOf 5 (some .int) :: ([.methodLink RX1 70 yX1_answer, .instanceMethod yX1_answer, .selects RX1 yX1_answer yX1_answer, .initialized RX1, .code yX1_answer cX1_answer 6 (some .int), .fieldLink RX1 7 "WellFieldModel" "place" "[I", .fieldLink RX1 22 "WellFieldModel" "spot" "[I", .fieldLink RX1 28 "WellFieldModel" "table" "[I"] ++ wsX10)
def wsX1_burden_r1 : List Cond := [Cond.fieldLink RX1 38 "WellFieldModel" "wells" "I", Cond.fieldLink RX1 16 "WellFieldModel" "licence" "[I", Cond.methodLink RX1 74 yX1_isWatch, Cond.instanceMethod yX1_isWatch, Cond.selects RX1 yX1_isWatch yX1_isWatch, Cond.initialized RX1, Cond.code yX1_isWatch cX1_isWatch 2 (some .boolean), Cond.fieldLink RX1 45 "WellFieldModel" "watches" "I", Cond.methodLink RX1 41 yX1_isIn, Cond.static yX1_isIn, Cond.code yX1_isIn cX1_isIn 3 (some .boolean), Cond.methodLink RX1 62 yX1_may, Cond.instanceMethod yX1_may, Cond.selects RX1 yX1_may yX1_may, Cond.code yX1_may cX1_may 2 (some .boolean), Cond.fieldLink RX1 34 "WellFieldModel" "thrown" "I", Cond.methodLink RX1 89 yX1_allOf, Cond.instanceMethod yX1_allOf, Cond.selects RX1 yX1_allOf yX1_allOf, Cond.code yX1_allOf cX1_allOf 5 (some .int), Cond.methodLink RX1 70 yX1_answer, Cond.instanceMethod yX1_answer, Cond.selects RX1 yX1_answer yX1_answer, Cond.code yX1_answer cX1_answer 6 (some .int)]
def wsX1_burden_r2 : List Cond := [Cond.fieldLink RX1 7 "WellFieldModel" "place" "[I", Cond.fieldLink RX1 22 "WellFieldModel" "spot" "[I", Cond.fieldLink RX1 28 "WellFieldModel" "table" "[I"]
def wsX1_burden : List Cond := .code yX1_burden cX1_burden 5 (some .long) :: ((wsX1_burden_r1 ++ wsX1_burden_r2) ++ wsX10)
def wsX1_got : List Cond := .code yX1_got cX1_got 4 (some .int) :: ([.fieldLink RX1 31 "WellFieldModel" "ratio" "[I", .fieldLink RX1 13 "WellFieldModel" "zone" "[I"] ++ wsX10)
def wsX1_can : List Cond := .code yX1_can cX1_can 7 (some .boolean) :: ([.fieldLink RX1 16 "WellFieldModel" "licence" "[I", .fieldLink RX1 45 "WellFieldModel" "watches" "I", .methodLink RX1 92 yX1_got, .instanceMethod yX1_got, .selects RX1 yX1_got yX1_got, .initialized RX1, .code yX1_got cX1_got 4 (some .int), .fieldLink RX1 31 "WellFieldModel" "ratio" "[I", .fieldLink RX1 13 "WellFieldModel" "zone" "[I", .methodLink RX1 89 yX1_allOf, .instanceMethod yX1_allOf, .selects RX1 yX1_allOf yX1_allOf, .code yX1_allOf cX1_allOf 5 (some .int), .methodLink RX1 70 yX1_answer, .instanceMethod yX1_answer, .selects RX1 yX1_answer yX1_answer, .code yX1_answer cX1_answer 6 (some .int), .fieldLink RX1 7 "WellFieldModel" "place" "[I", .fieldLink RX1 22 "WellFieldModel" "spot" "[I", .fieldLink RX1 28 "WellFieldModel" "table" "[I"] ++ wsX10)
def wsX1_trade_r1 : List Cond := [Cond.fieldLink RX1 16 "WellFieldModel" "licence" "[I", Cond.methodLink RX1 52 yX1_isWell, Cond.instanceMethod yX1_isWell, Cond.selects RX1 yX1_isWell yX1_isWell, Cond.initialized RX1, Cond.code yX1_isWell cX1_isWell 2 (some .boolean), Cond.fieldLink RX1 38 "WellFieldModel" "wells" "I", Cond.methodLink RX1 41 yX1_isIn, Cond.static yX1_isIn, Cond.code yX1_isIn cX1_isIn 3 (some .boolean), Cond.methodLink RX1 95 yX1_can, Cond.instanceMethod yX1_can, Cond.selects RX1 yX1_can yX1_can, Cond.code yX1_can cX1_can 7 (some .boolean), Cond.fieldLink RX1 45 "WellFieldModel" "watches" "I", Cond.methodLink RX1 92 yX1_got, Cond.instanceMethod yX1_got, Cond.selects RX1 yX1_got yX1_got, Cond.code yX1_got cX1_got 4 (some .int), Cond.fieldLink RX1 31 "WellFieldModel" "ratio" "[I", Cond.fieldLink RX1 13 "WellFieldModel" "zone" "[I", Cond.methodLink RX1 89 yX1_allOf, Cond.instanceMethod yX1_allOf, Cond.selects RX1 yX1_allOf yX1_allOf]
def wsX1_trade_r2 : List Cond := [Cond.code yX1_allOf cX1_allOf 5 (some .int), Cond.methodLink RX1 70 yX1_answer, Cond.instanceMethod yX1_answer, Cond.selects RX1 yX1_answer yX1_answer, Cond.code yX1_answer cX1_answer 6 (some .int), Cond.fieldLink RX1 7 "WellFieldModel" "place" "[I", Cond.fieldLink RX1 22 "WellFieldModel" "spot" "[I", Cond.fieldLink RX1 28 "WellFieldModel" "table" "[I", Cond.methodLink RX1 98 yX1_mayAll, Cond.instanceMethod yX1_mayAll, Cond.selects RX1 yX1_mayAll yX1_mayAll, Cond.code yX1_mayAll cX1_mayAll 4 (some .boolean), Cond.fieldLink RX1 34 "WellFieldModel" "thrown" "I"]
def wsX1_trade : List Cond := .code yX1_trade cX1_trade 7 (some .int) :: ((wsX1_trade_r1 ++ wsX1_trade_r2) ++ wsX10)
def wsX1_mostTraded_r1 : List Cond := [Cond.methodLink RX1 52 yX1_isWell, Cond.instanceMethod yX1_isWell, Cond.selects RX1 yX1_isWell yX1_isWell, Cond.initialized RX1, Cond.code yX1_isWell cX1_isWell 2 (some .boolean), Cond.fieldLink RX1 38 "WellFieldModel" "wells" "I", Cond.methodLink RX1 41 yX1_isIn, Cond.static yX1_isIn, Cond.code yX1_isIn cX1_isIn 3 (some .boolean), Cond.methodLink RX1 48 yX1_mayBoth, Cond.instanceMethod yX1_mayBoth, Cond.selects RX1 yX1_mayBoth yX1_mayBoth, Cond.code yX1_mayBoth cX1_mayBoth 3 (some .boolean), Cond.fieldLink RX1 34 "WellFieldModel" "thrown" "I", Cond.methodLink RX1 95 yX1_can, Cond.instanceMethod yX1_can, Cond.selects RX1 yX1_can yX1_can, Cond.code yX1_can cX1_can 7 (some .boolean), Cond.fieldLink RX1 16 "WellFieldModel" "licence" "[I", Cond.fieldLink RX1 45 "WellFieldModel" "watches" "I", Cond.methodLink RX1 92 yX1_got, Cond.instanceMethod yX1_got, Cond.selects RX1 yX1_got yX1_got, Cond.code yX1_got cX1_got 4 (some .int)]
def wsX1_mostTraded_r2 : List Cond := [Cond.fieldLink RX1 31 "WellFieldModel" "ratio" "[I", Cond.fieldLink RX1 13 "WellFieldModel" "zone" "[I", Cond.methodLink RX1 89 yX1_allOf, Cond.instanceMethod yX1_allOf, Cond.selects RX1 yX1_allOf yX1_allOf, Cond.code yX1_allOf cX1_allOf 5 (some .int), Cond.methodLink RX1 70 yX1_answer, Cond.instanceMethod yX1_answer, Cond.selects RX1 yX1_answer yX1_answer, Cond.code yX1_answer cX1_answer 6 (some .int), Cond.fieldLink RX1 7 "WellFieldModel" "place" "[I", Cond.fieldLink RX1 22 "WellFieldModel" "spot" "[I", Cond.fieldLink RX1 28 "WellFieldModel" "table" "[I"]
def wsX1_mostTraded : List Cond := .code yX1_mostTraded cX1_mostTraded 4 (some .int) :: ((wsX1_mostTraded_r1 ++ wsX1_mostTraded_r2) ++ wsX10)
def wsJ9_abs_0f7a4 : List Cond := .code yJ9_abs_0f7a4 cJ9_abs_0f7a4 1 (some .int) :: ([])
def wsJ9_max_7cf53 : List Cond := .code yJ9_max_7cf53 cJ9_max_7cf53 2 (some .int) :: ([])
def wsJ9_max_f86c9 : List Cond := .code yJ9_max_f86c9 cJ9_max_f86c9 4 (some .long) :: ([])
def wsJ9_min_7cf53 : List Cond := .code yJ9_min_7cf53 cJ9_min_7cf53 2 (some .int) :: ([])
def wsJ9_min_f86c9 : List Cond := .code yJ9_min_f86c9 cJ9_min_f86c9 4 (some .long) :: ([])
def wsL_well : List Cond := .codeWith yL_well cL_well 6 (some .int) [(0, 12, 15, 13), (0, 12, 19, 15)] :: ([.classLink RL 13 "java/lang/IllegalArgumentException", .classLink RL 15 "java/lang/IllegalStateException", .methodLink RL 7 yX0_well, .instanceMethod yX0_well, .selects RX0 yX0_well yX0_well, .initialized RX0, .code yX0_well cX0_well 5 (some .int), .fieldLink RX0 47 "WellField" "wellCount" "I", .fieldLink RX0 9 "WellField" "wellPlaces" "[I", .fieldLink RX0 13 "WellField" "wellZones" "[I", .fieldLink RX0 16 "WellField" "licences" "[I", .methodLink RX0 43 yX0_needRange, .static yX0_needRange, .code yX0_needRange cX0_needRange 3 none, .classLink RX0 121 "java/lang/IllegalArgumentException", .initialized "java/lang/IllegalArgumentException", .methodLink RX0 51 yX0_needAllowed, .static yX0_needAllowed, .code yX0_needAllowed cX0_needAllowed 1 none, .classLink RX0 126 "java/lang/IllegalStateException", .initialized "java/lang/IllegalStateException"] ++ wsX00 ++ (vx_atS RX0 125 "java/lang/IllegalArgumentException" ["java/lang/RuntimeException", "java/lang/Exception"]).filter goodWord ++ (vx_atS RX0 130 "java/lang/IllegalStateException" ["java/lang/RuntimeException", "java/lang/Exception"]).filter goodWord)
def wsL_watch : List Cond := .codeWith yL_watch cL_watch 5 (some .int) [(0, 10, 13, 13), (0, 10, 17, 15)] :: ([.classLink RL 13 "java/lang/IllegalArgumentException", .classLink RL 15 "java/lang/IllegalStateException", .methodLink RL 17 yX0_watch, .instanceMethod yX0_watch, .selects RX0 yX0_watch yX0_watch, .initialized RX0, .code yX0_watch cX0_watch 4 (some .int), .fieldLink RX0 55 "WellField" "watchCount" "I", .fieldLink RX0 24 "WellField" "watchPlaces" "[I", .fieldLink RX0 27 "WellField" "limits" "[I", .methodLink RX0 43 yX0_needRange, .static yX0_needRange, .code yX0_needRange cX0_needRange 3 none, .classLink RX0 121 "java/lang/IllegalArgumentException", .initialized "java/lang/IllegalArgumentException", .methodLink RX0 51 yX0_needAllowed, .static yX0_needAllowed, .code yX0_needAllowed cX0_needAllowed 1 none, .classLink RX0 126 "java/lang/IllegalStateException", .initialized "java/lang/IllegalStateException"] ++ wsX00 ++ (vx_atS RX0 125 "java/lang/IllegalArgumentException" ["java/lang/RuntimeException", "java/lang/Exception"]).filter goodWord ++ (vx_atS RX0 130 "java/lang/IllegalStateException" ["java/lang/RuntimeException", "java/lang/Exception"]).filter goodWord)
def wsL_response : List Cond := .codeWith yL_response cL_response 6 (some .int) [(0, 12, 15, 24), (0, 12, 19, 13)] :: ([.classLink RL 24 "java/lang/IndexOutOfBoundsException", .classLink RL 13 "java/lang/IllegalArgumentException", .methodLink RL 21 yX0_response, .instanceMethod yX0_response, .selects RX0 yX0_response yX0_response, .initialized RX0, .code yX0_response cX0_response 5 (some .int), .fieldLink RX0 30 "WellField" "table" "[[I", .fieldLink RX0 33 "WellField" "tableSums" "[I", .methodLink RX0 58 yX0_needIndex, .static yX0_needIndex, .code yX0_needIndex cX0_needIndex 2 none, .classLink RX0 114 "java/lang/IndexOutOfBoundsException", .initialized "java/lang/IndexOutOfBoundsException", .methodLink RX0 43 yX0_needRange, .static yX0_needRange, .code yX0_needRange cX0_needRange 3 none, .classLink RX0 121 "java/lang/IllegalArgumentException", .initialized "java/lang/IllegalArgumentException"] ++ wsX00 ++ (vx_atS RX0 118 "java/lang/IndexOutOfBoundsException" ["java/lang/RuntimeException", "java/lang/Exception"]).filter goodWord ++ (vx_atS RX0 125 "java/lang/IllegalArgumentException" ["java/lang/RuntimeException", "java/lang/Exception"]).filter goodWord)
def wsL_pump : List Cond := .codeWith yL_pump cL_pump 6 (some .int) [(0, 12, 15, 24), (0, 12, 19, 13)] :: ([.classLink RL 24 "java/lang/IndexOutOfBoundsException", .classLink RL 13 "java/lang/IllegalArgumentException", .methodLink RL 26 yX0_pump, .instanceMethod yX0_pump, .selects RX0 yX0_pump yX0_pump, .initialized RX0, .code yX0_pump cX0_pump 5 (some .int), .fieldLink RX0 47 "WellField" "wellCount" "I", .fieldLink RX0 21 "WellField" "pumping" "[[I", .methodLink RX0 58 yX0_needIndex, .static yX0_needIndex, .code yX0_needIndex cX0_needIndex 2 none, .classLink RX0 114 "java/lang/IndexOutOfBoundsException", .initialized "java/lang/IndexOutOfBoundsException", .methodLink RX0 43 yX0_needRange, .static yX0_needRange, .code yX0_needRange cX0_needRange 3 none, .classLink RX0 121 "java/lang/IllegalArgumentException", .initialized "java/lang/IllegalArgumentException"] ++ wsX00 ++ (vx_atS RX0 118 "java/lang/IndexOutOfBoundsException" ["java/lang/RuntimeException", "java/lang/Exception"]).filter goodWord ++ (vx_atS RX0 125 "java/lang/IllegalArgumentException" ["java/lang/RuntimeException", "java/lang/Exception"]).filter goodWord)
def wsL_rest : List Cond := .codeWith yL_rest cL_rest 6 (some .int) [(0, 12, 15, 24), (0, 12, 19, 13)] :: ([.classLink RL 24 "java/lang/IndexOutOfBoundsException", .classLink RL 13 "java/lang/IllegalArgumentException", .methodLink RL 29 yX0_rest, .instanceMethod yX0_rest, .selects RX0 yX0_rest yX0_rest, .initialized RX0, .code yX0_rest cX0_rest 7 (some .int), .fieldLink RX0 47 "WellField" "wellCount" "I", .methodLink RX0 62 Lib.Math.min.name, .static Lib.Math.min.name, .initialized "java/lang/Math", .code Lib.Math.min.name Lib.Math.min.code 2 (some .int), .fieldLink RX0 21 "WellField" "pumping" "[[I", .methodLink RX0 58 yX0_needIndex, .static yX0_needIndex, .code yX0_needIndex cX0_needIndex 2 none, .classLink RX0 114 "java/lang/IndexOutOfBoundsException", .initialized "java/lang/IndexOutOfBoundsException", .methodLink RX0 43 yX0_needRange, .static yX0_needRange, .code yX0_needRange cX0_needRange 3 none, .classLink RX0 121 "java/lang/IllegalArgumentException", .initialized "java/lang/IllegalArgumentException"] ++ wsX00 ++ (vx_atS RX0 118 "java/lang/IndexOutOfBoundsException" ["java/lang/RuntimeException", "java/lang/Exception"]).filter goodWord ++ (vx_atS RX0 125 "java/lang/IllegalArgumentException" ["java/lang/RuntimeException", "java/lang/Exception"]).filter goodWord)
def wsL_pumped : List Cond := .codeWith yL_pumped cL_pumped 5 (some .int) [(0, 10, 13, 24)] :: ([.classLink RL 24 "java/lang/IndexOutOfBoundsException", .methodLink RL 32 yX0_pumped, .instanceMethod yX0_pumped, .selects RX0 yX0_pumped yX0_pumped, .initialized RX0, .code yX0_pumped cX0_pumped 3 (some .int), .fieldLink RX0 47 "WellField" "wellCount" "I", .methodLink RX0 58 yX0_needIndex, .static yX0_needIndex, .code yX0_needIndex cX0_needIndex 2 none, .classLink RX0 114 "java/lang/IndexOutOfBoundsException", .initialized "java/lang/IndexOutOfBoundsException", .methodLink RX0 68 yX0_unitsOfYear, .instanceMethod yX0_unitsOfYear, .selects RX0 yX0_unitsOfYear yX0_unitsOfYear, .code yX0_unitsOfYear cX0_unitsOfYear 6 (some .int), .fieldLink RX0 21 "WellField" "pumping" "[[I"] ++ wsX00 ++ (vx_atS RX0 118 "java/lang/IndexOutOfBoundsException" ["java/lang/RuntimeException", "java/lang/Exception"]).filter goodWord)
def wsL_beyond : List Cond := .codeWith yL_beyond cL_beyond 4 (some .int) [(0, 9, 12, 24)] :: ([.classLink RL 24 "java/lang/IndexOutOfBoundsException", .methodLink RL 35 yX0_beyond, .instanceMethod yX0_beyond, .selects RX0 yX0_beyond yX0_beyond, .initialized RX0, .code yX0_beyond cX0_beyond 4 (some .int), .fieldLink RX0 47 "WellField" "wellCount" "I", .fieldLink RX0 16 "WellField" "licences" "[I", .methodLink RX0 71 Lib.Math.max.name, .static Lib.Math.max.name, .initialized "java/lang/Math", .code Lib.Math.max.name Lib.Math.max.code 2 (some .int), .methodLink RX0 58 yX0_needIndex, .static yX0_needIndex, .code yX0_needIndex cX0_needIndex 2 none, .classLink RX0 114 "java/lang/IndexOutOfBoundsException", .initialized "java/lang/IndexOutOfBoundsException", .methodLink RX0 68 yX0_unitsOfYear, .instanceMethod yX0_unitsOfYear, .selects RX0 yX0_unitsOfYear yX0_unitsOfYear, .code yX0_unitsOfYear cX0_unitsOfYear 6 (some .int), .fieldLink RX0 21 "WellField" "pumping" "[[I"] ++ wsX00 ++ (vx_atS RX0 118 "java/lang/IndexOutOfBoundsException" ["java/lang/RuntimeException", "java/lang/Exception"]).filter goodWord)
def wsL_drawdown_r1 : List Cond := [Cond.classLink RL 24 "java/lang/IndexOutOfBoundsException", Cond.methodLink RL 39 yX0_drawdown, Cond.instanceMethod yX0_drawdown, Cond.selects RX0 yX0_drawdown yX0_drawdown, Cond.initialized RX0, Cond.code yX0_drawdown cX0_drawdown 3 (some .long), Cond.fieldLink RX0 55 "WellField" "watchCount" "I", Cond.methodLink RX0 58 yX0_needIndex, Cond.static yX0_needIndex, Cond.code yX0_needIndex cX0_needIndex 2 none, Cond.classLink RX0 114 "java/lang/IndexOutOfBoundsException", Cond.initialized "java/lang/IndexOutOfBoundsException", Cond.methodLink RX0 74 yX0_loweredIn, Cond.instanceMethod yX0_loweredIn, Cond.selects RX0 yX0_loweredIn yX0_loweredIn, Cond.code yX0_loweredIn cX0_loweredIn 8 (some .long), Cond.fieldLink RX0 47 "WellField" "wellCount" "I", Cond.fieldLink RX0 21 "WellField" "pumping" "[[I", Cond.methodLink RX0 78 yX0_reachOf, Cond.instanceMethod yX0_reachOf, Cond.selects RX0 yX0_reachOf yX0_reachOf, Cond.code yX0_reachOf cX0_reachOf 3 (some .int), Cond.fieldLink RX0 9 "WellField" "wellPlaces" "[I", Cond.fieldLink RX0 24 "WellField" "watchPlaces" "[I"]
def wsL_drawdown_r2 : List Cond := [Cond.methodLink RX0 133 Lib.Math.abs.name, Cond.static Lib.Math.abs.name, Cond.initialized "java/lang/Math", Cond.code Lib.Math.abs.name Lib.Math.abs.code 1 (some .int), Cond.methodLink RX0 137 yX0_tableNumber, Cond.instanceMethod yX0_tableNumber, Cond.selects RX0 yX0_tableNumber yX0_tableNumber, Cond.code yX0_tableNumber cX0_tableNumber 3 (some .int), Cond.fieldLink RX0 30 "WellField" "table" "[[I"]
def wsL_drawdown : List Cond := .codeWith yL_drawdown cL_drawdown 5 (some .int) [(0, 9, 12, 24)] :: ((wsL_drawdown_r1 ++ wsL_drawdown_r2) ++ wsX00 ++ (vx_atS RX0 118 "java/lang/IndexOutOfBoundsException" ["java/lang/RuntimeException", "java/lang/Exception"]).filter goodWord)
def wsL_drawdownByPulses_r1 : List Cond := [Cond.classLink RL 24 "java/lang/IndexOutOfBoundsException", Cond.methodLink RL 43 yX0_drawdownByPulses, Cond.instanceMethod yX0_drawdownByPulses, Cond.selects RX0 yX0_drawdownByPulses yX0_drawdownByPulses, Cond.initialized RX0, Cond.code yX0_drawdownByPulses cX0_drawdownByPulses 5 (some .long), Cond.fieldLink RX0 55 "WellField" "watchCount" "I", Cond.fieldLink RX0 39 "WellField" "pulses" "[J", Cond.fieldLink RX0 47 "WellField" "wellCount" "I", Cond.fieldLink RX0 21 "WellField" "pumping" "[[I", Cond.methodLink RX0 58 yX0_needIndex, Cond.static yX0_needIndex, Cond.code yX0_needIndex cX0_needIndex 2 none, Cond.classLink RX0 114 "java/lang/IndexOutOfBoundsException", Cond.initialized "java/lang/IndexOutOfBoundsException", Cond.methodLink RX0 78 yX0_reachOf, Cond.instanceMethod yX0_reachOf, Cond.selects RX0 yX0_reachOf yX0_reachOf, Cond.code yX0_reachOf cX0_reachOf 3 (some .int), Cond.fieldLink RX0 9 "WellField" "wellPlaces" "[I", Cond.fieldLink RX0 24 "WellField" "watchPlaces" "[I", Cond.methodLink RX0 133 Lib.Math.abs.name, Cond.static Lib.Math.abs.name, Cond.initialized "java/lang/Math"]
def wsL_drawdownByPulses_r2 : List Cond := [Cond.code Lib.Math.abs.name Lib.Math.abs.code 1 (some .int), Cond.methodLink RX0 81 yX0_layPulse, Cond.instanceMethod yX0_layPulse, Cond.selects RX0 yX0_layPulse yX0_layPulse, Cond.code yX0_layPulse cX0_layPulse 5 none, Cond.methodLink RX0 137 yX0_tableNumber, Cond.instanceMethod yX0_tableNumber, Cond.selects RX0 yX0_tableNumber yX0_tableNumber, Cond.code yX0_tableNumber cX0_tableNumber 3 (some .int), Cond.fieldLink RX0 30 "WellField" "table" "[[I"]
def wsL_drawdownByPulses : List Cond := .codeWith yL_drawdownByPulses cL_drawdownByPulses 5 (some .int) [(0, 9, 12, 24)] :: ((wsL_drawdownByPulses_r1 ++ wsL_drawdownByPulses_r2) ++ wsX00 ++ (vx_atS RX0 118 "java/lang/IndexOutOfBoundsException" ["java/lang/RuntimeException", "java/lang/Exception"]).filter goodWord)
def wsL_worstMonth_r1 : List Cond := [Cond.classLink RL 24 "java/lang/IndexOutOfBoundsException", Cond.methodLink RL 46 yX0_worstMonth, Cond.instanceMethod yX0_worstMonth, Cond.selects RX0 yX0_worstMonth yX0_worstMonth, Cond.initialized RX0, Cond.code yX0_worstMonth cX0_worstMonth 8 (some .int), Cond.fieldLink RX0 55 "WellField" "watchCount" "I", Cond.methodLink RX0 58 yX0_needIndex, Cond.static yX0_needIndex, Cond.code yX0_needIndex cX0_needIndex 2 none, Cond.classLink RX0 114 "java/lang/IndexOutOfBoundsException", Cond.initialized "java/lang/IndexOutOfBoundsException", Cond.methodLink RX0 74 yX0_loweredIn, Cond.instanceMethod yX0_loweredIn, Cond.selects RX0 yX0_loweredIn yX0_loweredIn, Cond.code yX0_loweredIn cX0_loweredIn 8 (some .long), Cond.fieldLink RX0 47 "WellField" "wellCount" "I", Cond.fieldLink RX0 21 "WellField" "pumping" "[[I", Cond.methodLink RX0 78 yX0_reachOf, Cond.instanceMethod yX0_reachOf, Cond.selects RX0 yX0_reachOf yX0_reachOf, Cond.code yX0_reachOf cX0_reachOf 3 (some .int), Cond.fieldLink RX0 9 "WellField" "wellPlaces" "[I", Cond.fieldLink RX0 24 "WellField" "watchPlaces" "[I"]
def wsL_worstMonth_r2 : List Cond := [Cond.methodLink RX0 133 Lib.Math.abs.name, Cond.static Lib.Math.abs.name, Cond.initialized "java/lang/Math", Cond.code Lib.Math.abs.name Lib.Math.abs.code 1 (some .int), Cond.methodLink RX0 137 yX0_tableNumber, Cond.instanceMethod yX0_tableNumber, Cond.selects RX0 yX0_tableNumber yX0_tableNumber, Cond.code yX0_tableNumber cX0_tableNumber 3 (some .int), Cond.fieldLink RX0 30 "WellField" "table" "[[I"]
def wsL_worstMonth : List Cond := .codeWith yL_worstMonth cL_worstMonth 4 (some .int) [(0, 9, 12, 24)] :: ((wsL_worstMonth_r1 ++ wsL_worstMonth_r2) ++ wsX00 ++ (vx_atS RX0 118 "java/lang/IndexOutOfBoundsException" ["java/lang/RuntimeException", "java/lang/Exception"]).filter goodWord)
def wsL_over_r1 : List Cond := [Cond.classLink RL 24 "java/lang/IndexOutOfBoundsException", Cond.methodLink RL 49 yX0_over, Cond.instanceMethod yX0_over, Cond.selects RX0 yX0_over yX0_over, Cond.initialized RX0, Cond.code yX0_over cX0_over 4 (some .int), Cond.fieldLink RX0 55 "WellField" "watchCount" "I", Cond.methodLink RX0 58 yX0_needIndex, Cond.static yX0_needIndex, Cond.code yX0_needIndex cX0_needIndex 2 none, Cond.classLink RX0 114 "java/lang/IndexOutOfBoundsException", Cond.initialized "java/lang/IndexOutOfBoundsException", Cond.methodLink RX0 84 yX0_thousandthsLeft, Cond.instanceMethod yX0_thousandthsLeft, Cond.selects RX0 yX0_thousandthsLeft yX0_thousandthsLeft, Cond.code yX0_thousandthsLeft cX0_thousandthsLeft 3 (some .long), Cond.constantLong RX0 140 (1000), Cond.fieldLink RX0 27 "WellField" "limits" "[I", Cond.methodLink RX0 74 yX0_loweredIn, Cond.instanceMethod yX0_loweredIn, Cond.selects RX0 yX0_loweredIn yX0_loweredIn, Cond.code yX0_loweredIn cX0_loweredIn 8 (some .long), Cond.fieldLink RX0 47 "WellField" "wellCount" "I", Cond.fieldLink RX0 21 "WellField" "pumping" "[[I"]
def wsL_over_r2 : List Cond := [Cond.methodLink RX0 78 yX0_reachOf, Cond.instanceMethod yX0_reachOf, Cond.selects RX0 yX0_reachOf yX0_reachOf, Cond.code yX0_reachOf cX0_reachOf 3 (some .int), Cond.fieldLink RX0 9 "WellField" "wellPlaces" "[I", Cond.fieldLink RX0 24 "WellField" "watchPlaces" "[I", Cond.methodLink RX0 133 Lib.Math.abs.name, Cond.static Lib.Math.abs.name, Cond.initialized "java/lang/Math", Cond.code Lib.Math.abs.name Lib.Math.abs.code 1 (some .int), Cond.methodLink RX0 137 yX0_tableNumber, Cond.instanceMethod yX0_tableNumber, Cond.selects RX0 yX0_tableNumber yX0_tableNumber, Cond.code yX0_tableNumber cX0_tableNumber 3 (some .int), Cond.fieldLink RX0 30 "WellField" "table" "[[I"]
def wsL_over : List Cond := .codeWith yL_over cL_over 4 (some .int) [(0, 9, 12, 24)] :: ((wsL_over_r1 ++ wsL_over_r2) ++ wsX00 ++ (vx_atS RX0 118 "java/lang/IndexOutOfBoundsException" ["java/lang/RuntimeException", "java/lang/Exception"]).filter goodWord)
def wsL_headroom_r1 : List Cond := [Cond.classLink RL 24 "java/lang/IndexOutOfBoundsException", Cond.methodLink RL 52 yX0_headroom, Cond.instanceMethod yX0_headroom, Cond.selects RX0 yX0_headroom yX0_headroom, Cond.initialized RX0, Cond.code yX0_headroom cX0_headroom 6 (some .int), Cond.fieldLink RX0 47 "WellField" "wellCount" "I", Cond.fieldLink RX0 21 "WellField" "pumping" "[[I", Cond.fieldLink RX0 55 "WellField" "watchCount" "I", Cond.methodLink RX0 91 Lib.MathLoose.min_long.x, Cond.static Lib.MathLoose.min_long.x, Cond.initialized "java/lang/Math", Cond.code Lib.MathLoose.min_long.x Lib.MathLoose.min_long.code 4 (some .long), Cond.methodLink RX0 58 yX0_needIndex, Cond.static yX0_needIndex, Cond.code yX0_needIndex cX0_needIndex 2 none, Cond.classLink RX0 114 "java/lang/IndexOutOfBoundsException", Cond.initialized "java/lang/IndexOutOfBoundsException", Cond.methodLink RX0 78 yX0_reachOf, Cond.instanceMethod yX0_reachOf, Cond.selects RX0 yX0_reachOf yX0_reachOf, Cond.code yX0_reachOf cX0_reachOf 3 (some .int), Cond.fieldLink RX0 9 "WellField" "wellPlaces" "[I", Cond.fieldLink RX0 24 "WellField" "watchPlaces" "[I"]
def wsL_headroom_r2 : List Cond := [Cond.methodLink RX0 133 Lib.Math.abs.name, Cond.static Lib.Math.abs.name, Cond.code Lib.Math.abs.name Lib.Math.abs.code 1 (some .int), Cond.methodLink RX0 87 yX0_unitsLeft, Cond.instanceMethod yX0_unitsLeft, Cond.selects RX0 yX0_unitsLeft yX0_unitsLeft, Cond.code yX0_unitsLeft cX0_unitsLeft 8 (some .long), Cond.constantLong RX0 140 (1000), Cond.methodLink RX0 142 Lib.MathLoose.max_long.x, Cond.static Lib.MathLoose.max_long.x, Cond.code Lib.MathLoose.max_long.x Lib.MathLoose.max_long.code 4 (some .long), Cond.methodLink RX0 137 yX0_tableNumber, Cond.instanceMethod yX0_tableNumber, Cond.selects RX0 yX0_tableNumber yX0_tableNumber, Cond.code yX0_tableNumber cX0_tableNumber 3 (some .int), Cond.fieldLink RX0 30 "WellField" "table" "[[I", Cond.methodLink RX0 84 yX0_thousandthsLeft, Cond.instanceMethod yX0_thousandthsLeft, Cond.selects RX0 yX0_thousandthsLeft yX0_thousandthsLeft, Cond.code yX0_thousandthsLeft cX0_thousandthsLeft 3 (some .long), Cond.fieldLink RX0 27 "WellField" "limits" "[I", Cond.methodLink RX0 74 yX0_loweredIn, Cond.instanceMethod yX0_loweredIn, Cond.selects RX0 yX0_loweredIn yX0_loweredIn]
def wsL_headroom_r3 : List Cond := [Cond.code yX0_loweredIn cX0_loweredIn 8 (some .long)]
def wsL_headroom : List Cond := .codeWith yL_headroom cL_headroom 5 (some .int) [(0, 10, 13, 24)] :: ((wsL_headroom_r1 ++ (wsL_headroom_r2 ++ wsL_headroom_r3)) ++ wsX00 ++ (vx_atS RX0 118 "java/lang/IndexOutOfBoundsException" ["java/lang/RuntimeException", "java/lang/Exception"]).filter goodWord)
def wsL_heaviest_r1 : List Cond := [Cond.classLink RL 24 "java/lang/IndexOutOfBoundsException", Cond.methodLink RL 55 yX0_heaviest, Cond.instanceMethod yX0_heaviest, Cond.selects RX0 yX0_heaviest yX0_heaviest, Cond.initialized RX0, Cond.code yX0_heaviest cX0_heaviest 9 (some .int), Cond.fieldLink RX0 55 "WellField" "watchCount" "I", Cond.fieldLink RX0 47 "WellField" "wellCount" "I", Cond.methodLink RX0 58 yX0_needIndex, Cond.static yX0_needIndex, Cond.code yX0_needIndex cX0_needIndex 2 none, Cond.classLink RX0 114 "java/lang/IndexOutOfBoundsException", Cond.initialized "java/lang/IndexOutOfBoundsException", Cond.methodLink RX0 94 yX0_loweredInAll, Cond.instanceMethod yX0_loweredInAll, Cond.selects RX0 yX0_loweredInAll yX0_loweredInAll, Cond.code yX0_loweredInAll cX0_loweredInAll 8 (some .long), Cond.fieldLink RX0 21 "WellField" "pumping" "[[I", Cond.methodLink RX0 78 yX0_reachOf, Cond.instanceMethod yX0_reachOf, Cond.selects RX0 yX0_reachOf yX0_reachOf, Cond.code yX0_reachOf cX0_reachOf 3 (some .int), Cond.fieldLink RX0 9 "WellField" "wellPlaces" "[I", Cond.fieldLink RX0 24 "WellField" "watchPlaces" "[I"]
def wsL_heaviest_r2 : List Cond := [Cond.methodLink RX0 133 Lib.Math.abs.name, Cond.static Lib.Math.abs.name, Cond.initialized "java/lang/Math", Cond.code Lib.Math.abs.name Lib.Math.abs.code 1 (some .int), Cond.methodLink RX0 137 yX0_tableNumber, Cond.instanceMethod yX0_tableNumber, Cond.selects RX0 yX0_tableNumber yX0_tableNumber, Cond.code yX0_tableNumber cX0_tableNumber 3 (some .int), Cond.fieldLink RX0 30 "WellField" "table" "[[I"]
def wsL_heaviest : List Cond := .codeWith yL_heaviest cL_heaviest 5 (some .int) [(0, 10, 13, 24)] :: ((wsL_heaviest_r1 ++ wsL_heaviest_r2) ++ wsX00 ++ (vx_atS RX0 118 "java/lang/IndexOutOfBoundsException" ["java/lang/RuntimeException", "java/lang/Exception"]).filter goodWord)
def wsL_taken : List Cond := .codeWith yL_taken cL_taken 4 (some .int) [(0, 9, 12, 24)] :: ([.classLink RL 24 "java/lang/IndexOutOfBoundsException", .methodLink RL 58 yX0_taken, .instanceMethod yX0_taken, .selects RX0 yX0_taken yX0_taken, .initialized RX0, .code yX0_taken cX0_taken 4 (some .int), .fieldLink RX0 47 "WellField" "wellCount" "I", .methodLink RX0 58 yX0_needIndex, .static yX0_needIndex, .code yX0_needIndex cX0_needIndex 2 none, .classLink RX0 114 "java/lang/IndexOutOfBoundsException", .initialized "java/lang/IndexOutOfBoundsException", .methodLink RX0 97 yX0_takenOfMonthsBefore, .instanceMethod yX0_takenOfMonthsBefore, .selects RX0 yX0_takenOfMonthsBefore yX0_takenOfMonthsBefore, .code yX0_takenOfMonthsBefore cX0_takenOfMonthsBefore 9 (some .int), .fieldLink RX0 9 "WellField" "wellPlaces" "[I", .fieldLink RX0 21 "WellField" "pumping" "[[I", .methodLink RX0 144 yX0_isInYear, .static yX0_isInYear, .code yX0_isInYear cX0_isInYear 2 (some .boolean)] ++ wsX00 ++ (vx_atS RX0 118 "java/lang/IndexOutOfBoundsException" ["java/lang/RuntimeException", "java/lang/Exception"]).filter goodWord)
def wsL_takenLate : List Cond := .codeWith yL_takenLate cL_takenLate 5 (some .int) [(0, 10, 13, 24)] :: ([.classLink RL 24 "java/lang/IndexOutOfBoundsException", .methodLink RL 61 yX0_takenLate, .instanceMethod yX0_takenLate, .selects RX0 yX0_takenLate yX0_takenLate, .initialized RX0, .code yX0_takenLate cX0_takenLate 3 (some .int), .fieldLink RX0 47 "WellField" "wellCount" "I", .methodLink RX0 58 yX0_needIndex, .static yX0_needIndex, .code yX0_needIndex cX0_needIndex 2 none, .classLink RX0 114 "java/lang/IndexOutOfBoundsException", .initialized "java/lang/IndexOutOfBoundsException", .methodLink RX0 97 yX0_takenOfMonthsBefore, .instanceMethod yX0_takenOfMonthsBefore, .selects RX0 yX0_takenOfMonthsBefore yX0_takenOfMonthsBefore, .code yX0_takenOfMonthsBefore cX0_takenOfMonthsBefore 9 (some .int), .fieldLink RX0 9 "WellField" "wellPlaces" "[I", .fieldLink RX0 21 "WellField" "pumping" "[[I", .methodLink RX0 144 yX0_isInYear, .static yX0_isInYear, .code yX0_isInYear cX0_isInYear 2 (some .boolean)] ++ wsX00 ++ (vx_atS RX0 118 "java/lang/IndexOutOfBoundsException" ["java/lang/RuntimeException", "java/lang/Exception"]).filter goodWord)
def wsL_licence : List Cond := .codeWith yL_licence cL_licence 4 (some .int) [(0, 9, 12, 24)] :: ([.classLink RL 24 "java/lang/IndexOutOfBoundsException", .methodLink RL 64 yX0_licence, .instanceMethod yX0_licence, .selects RX0 yX0_licence yX0_licence, .initialized RX0, .code yX0_licence cX0_licence 2 (some .int), .fieldLink RX0 47 "WellField" "wellCount" "I", .fieldLink RX0 16 "WellField" "licences" "[I", .methodLink RX0 58 yX0_needIndex, .static yX0_needIndex, .code yX0_needIndex cX0_needIndex 2 none, .classLink RX0 114 "java/lang/IndexOutOfBoundsException", .initialized "java/lang/IndexOutOfBoundsException"] ++ wsX00 ++ (vx_atS RX0 118 "java/lang/IndexOutOfBoundsException" ["java/lang/RuntimeException", "java/lang/Exception"]).filter goodWord)
def wsL_ratio : List Cond := .codeWith yL_ratio cL_ratio 6 (some .int) [(0, 12, 15, 24), (0, 12, 19, 13)] :: ([.classLink RL 24 "java/lang/IndexOutOfBoundsException", .classLink RL 13 "java/lang/IllegalArgumentException", .methodLink RL 67 yX0_ratio, .instanceMethod yX0_ratio, .selects RX0 yX0_ratio yX0_ratio, .initialized RX0, .code yX0_ratio cX0_ratio 5 (some .int), .fieldLink RX0 36 "WellField" "ratios" "[[I", .methodLink RX0 58 yX0_needIndex, .static yX0_needIndex, .code yX0_needIndex cX0_needIndex 2 none, .classLink RX0 114 "java/lang/IndexOutOfBoundsException", .initialized "java/lang/IndexOutOfBoundsException", .methodLink RX0 43 yX0_needRange, .static yX0_needRange, .code yX0_needRange cX0_needRange 3 none, .classLink RX0 121 "java/lang/IllegalArgumentException", .initialized "java/lang/IllegalArgumentException"] ++ wsX00 ++ (vx_atS RX0 118 "java/lang/IndexOutOfBoundsException" ["java/lang/RuntimeException", "java/lang/Exception"]).filter goodWord ++ (vx_atS RX0 125 "java/lang/IllegalArgumentException" ["java/lang/RuntimeException", "java/lang/Exception"]).filter goodWord)
def wsL_burden_r1 : List Cond := [Cond.classLink RL 24 "java/lang/IndexOutOfBoundsException", Cond.methodLink RL 70 yX0_burden, Cond.instanceMethod yX0_burden, Cond.selects RX0 yX0_burden yX0_burden, Cond.initialized RX0, Cond.code yX0_burden cX0_burden 5 (some .long), Cond.fieldLink RX0 55 "WellField" "watchCount" "I", Cond.fieldLink RX0 47 "WellField" "wellCount" "I", Cond.fieldLink RX0 16 "WellField" "licences" "[I", Cond.methodLink RX0 58 yX0_needIndex, Cond.static yX0_needIndex, Cond.code yX0_needIndex cX0_needIndex 2 none, Cond.classLink RX0 114 "java/lang/IndexOutOfBoundsException", Cond.initialized "java/lang/IndexOutOfBoundsException", Cond.methodLink RX0 101 yX0_burdenOfUnits, Cond.instanceMethod yX0_burdenOfUnits, Cond.selects RX0 yX0_burdenOfUnits yX0_burdenOfUnits, Cond.code yX0_burdenOfUnits cX0_burdenOfUnits 5 (some .long), Cond.fieldLink RX0 33 "WellField" "tableSums" "[I", Cond.methodLink RX0 78 yX0_reachOf, Cond.instanceMethod yX0_reachOf, Cond.selects RX0 yX0_reachOf yX0_reachOf, Cond.code yX0_reachOf cX0_reachOf 3 (some .int), Cond.fieldLink RX0 9 "WellField" "wellPlaces" "[I"]
def wsL_burden_r2 : List Cond := [Cond.fieldLink RX0 24 "WellField" "watchPlaces" "[I", Cond.methodLink RX0 133 Lib.Math.abs.name, Cond.static Lib.Math.abs.name, Cond.initialized "java/lang/Math", Cond.code Lib.Math.abs.name Lib.Math.abs.code 1 (some .int)]
def wsL_burden : List Cond := .codeWith yL_burden cL_burden 4 (some .int) [(0, 8, 11, 24)] :: ((wsL_burden_r1 ++ wsL_burden_r2) ++ wsX00 ++ (vx_atS RX0 118 "java/lang/IndexOutOfBoundsException" ["java/lang/RuntimeException", "java/lang/Exception"]).filter goodWord)
def wsL_trade_r1 : List Cond := [Cond.classLink RL 24 "java/lang/IndexOutOfBoundsException", Cond.classLink RL 13 "java/lang/IllegalArgumentException", Cond.classLink RL 15 "java/lang/IllegalStateException", Cond.methodLink RL 74 yX0_trade, Cond.instanceMethod yX0_trade, Cond.selects RX0 yX0_trade yX0_trade, Cond.initialized RX0, Cond.code yX0_trade cX0_trade 5 (some .int), Cond.fieldLink RX0 16 "WellField" "licences" "[I", Cond.methodLink RX0 104 yX0_needTwoWells, Cond.instanceMethod yX0_needTwoWells, Cond.selects RX0 yX0_needTwoWells yX0_needTwoWells, Cond.code yX0_needTwoWells cX0_needTwoWells 3 none, Cond.classLink RX0 121 "java/lang/IllegalArgumentException", Cond.initialized "java/lang/IllegalArgumentException", Cond.fieldLink RX0 47 "WellField" "wellCount" "I", Cond.methodLink RX0 58 yX0_needIndex, Cond.static yX0_needIndex, Cond.code yX0_needIndex cX0_needIndex 2 none, Cond.classLink RX0 114 "java/lang/IndexOutOfBoundsException", Cond.initialized "java/lang/IndexOutOfBoundsException", Cond.methodLink RX0 43 yX0_needRange, Cond.static yX0_needRange, Cond.code yX0_needRange cX0_needRange 3 none]
def wsL_trade_r2 : List Cond := [Cond.methodLink RX0 107 yX0_canTrade, Cond.instanceMethod yX0_canTrade, Cond.selects RX0 yX0_canTrade yX0_canTrade, Cond.code yX0_canTrade cX0_canTrade 6 (some .boolean), Cond.fieldLink RX0 55 "WellField" "watchCount" "I", Cond.methodLink RX0 111 yX0_unitsGot, Cond.instanceMethod yX0_unitsGot, Cond.selects RX0 yX0_unitsGot yX0_unitsGot, Cond.code yX0_unitsGot cX0_unitsGot 4 (some .int), Cond.fieldLink RX0 36 "WellField" "ratios" "[[I", Cond.fieldLink RX0 13 "WellField" "wellZones" "[I", Cond.methodLink RX0 101 yX0_burdenOfUnits, Cond.instanceMethod yX0_burdenOfUnits, Cond.selects RX0 yX0_burdenOfUnits yX0_burdenOfUnits, Cond.code yX0_burdenOfUnits cX0_burdenOfUnits 5 (some .long), Cond.fieldLink RX0 33 "WellField" "tableSums" "[I", Cond.methodLink RX0 78 yX0_reachOf, Cond.instanceMethod yX0_reachOf, Cond.selects RX0 yX0_reachOf yX0_reachOf, Cond.code yX0_reachOf cX0_reachOf 3 (some .int), Cond.fieldLink RX0 9 "WellField" "wellPlaces" "[I", Cond.fieldLink RX0 24 "WellField" "watchPlaces" "[I", Cond.methodLink RX0 133 Lib.Math.abs.name, Cond.static Lib.Math.abs.name]
def wsL_trade_r3 : List Cond := [Cond.initialized "java/lang/Math", Cond.code Lib.Math.abs.name Lib.Math.abs.code 1 (some .int), Cond.methodLink RX0 51 yX0_needAllowed, Cond.static yX0_needAllowed, Cond.code yX0_needAllowed cX0_needAllowed 1 none, Cond.classLink RX0 126 "java/lang/IllegalStateException", Cond.initialized "java/lang/IllegalStateException"]
def wsL_trade : List Cond := .codeWith yL_trade cL_trade 6 (some .int) [(0, 12, 15, 24), (0, 12, 19, 13), (0, 12, 23, 15)] :: ((wsL_trade_r1 ++ (wsL_trade_r2 ++ wsL_trade_r3)) ++ wsX00 ++ (vx_atS RX0 125 "java/lang/IllegalArgumentException" ["java/lang/RuntimeException", "java/lang/Exception"]).filter goodWord ++ (vx_atS RX0 118 "java/lang/IndexOutOfBoundsException" ["java/lang/RuntimeException", "java/lang/Exception"]).filter goodWord ++ (vx_atS RX0 130 "java/lang/IllegalStateException" ["java/lang/RuntimeException", "java/lang/Exception"]).filter goodWord)
def wsL_mostTraded_r1 : List Cond := [Cond.classLink RL 24 "java/lang/IndexOutOfBoundsException", Cond.classLink RL 13 "java/lang/IllegalArgumentException", Cond.methodLink RL 77 yX0_mostTraded, Cond.instanceMethod yX0_mostTraded, Cond.selects RX0 yX0_mostTraded yX0_mostTraded, Cond.initialized RX0, Cond.code yX0_mostTraded cX0_mostTraded 4 (some .int), Cond.fieldLink RX0 16 "WellField" "licences" "[I", Cond.methodLink RX0 62 Lib.Math.min.name, Cond.static Lib.Math.min.name, Cond.initialized "java/lang/Math", Cond.code Lib.Math.min.name Lib.Math.min.code 2 (some .int), Cond.methodLink RX0 104 yX0_needTwoWells, Cond.instanceMethod yX0_needTwoWells, Cond.selects RX0 yX0_needTwoWells yX0_needTwoWells, Cond.code yX0_needTwoWells cX0_needTwoWells 3 none, Cond.classLink RX0 121 "java/lang/IllegalArgumentException", Cond.initialized "java/lang/IllegalArgumentException", Cond.fieldLink RX0 47 "WellField" "wellCount" "I", Cond.methodLink RX0 58 yX0_needIndex, Cond.static yX0_needIndex, Cond.code yX0_needIndex cX0_needIndex 2 none, Cond.classLink RX0 114 "java/lang/IndexOutOfBoundsException", Cond.initialized "java/lang/IndexOutOfBoundsException"]
def wsL_mostTraded_r2 : List Cond := [Cond.methodLink RX0 107 yX0_canTrade, Cond.instanceMethod yX0_canTrade, Cond.selects RX0 yX0_canTrade yX0_canTrade, Cond.code yX0_canTrade cX0_canTrade 6 (some .boolean), Cond.fieldLink RX0 55 "WellField" "watchCount" "I", Cond.methodLink RX0 111 yX0_unitsGot, Cond.instanceMethod yX0_unitsGot, Cond.selects RX0 yX0_unitsGot yX0_unitsGot, Cond.code yX0_unitsGot cX0_unitsGot 4 (some .int), Cond.fieldLink RX0 36 "WellField" "ratios" "[[I", Cond.fieldLink RX0 13 "WellField" "wellZones" "[I", Cond.methodLink RX0 101 yX0_burdenOfUnits, Cond.instanceMethod yX0_burdenOfUnits, Cond.selects RX0 yX0_burdenOfUnits yX0_burdenOfUnits, Cond.code yX0_burdenOfUnits cX0_burdenOfUnits 5 (some .long), Cond.fieldLink RX0 33 "WellField" "tableSums" "[I", Cond.methodLink RX0 78 yX0_reachOf, Cond.instanceMethod yX0_reachOf, Cond.selects RX0 yX0_reachOf yX0_reachOf, Cond.code yX0_reachOf cX0_reachOf 3 (some .int), Cond.fieldLink RX0 9 "WellField" "wellPlaces" "[I", Cond.fieldLink RX0 24 "WellField" "watchPlaces" "[I", Cond.methodLink RX0 133 Lib.Math.abs.name, Cond.static Lib.Math.abs.name]
def wsL_mostTraded_r3 : List Cond := [Cond.code Lib.Math.abs.name Lib.Math.abs.code 1 (some .int)]
def wsL_mostTraded : List Cond := .codeWith yL_mostTraded cL_mostTraded 5 (some .int) [(0, 10, 13, 24), (0, 10, 17, 13)] :: ((wsL_mostTraded_r1 ++ (wsL_mostTraded_r2 ++ wsL_mostTraded_r3)) ++ wsX00 ++ (vx_atS RX0 125 "java/lang/IllegalArgumentException" ["java/lang/RuntimeException", "java/lang/Exception"]).filter goodWord ++ (vx_atS RX0 118 "java/lang/IndexOutOfBoundsException" ["java/lang/RuntimeException", "java/lang/Exception"]).filter goodWord)
def wsL_law0_r1 : List Cond := [Cond.classLink RL 8 RX0, Cond.instantiable RX0 12, Cond.initialized RX0, Cond.classLink RL 81 RX1, Cond.instantiable RX1 11, Cond.initialized RX1, Cond.arrayClass .long, Cond.methodLink RL 80 yX0_init, Cond.instanceMethod yX0_init, Cond.code yX0_init cX0_init 3 none, Cond.methodLink RX0 1 objectInit, Cond.instanceMethod objectInit, Cond.code objectInit ⟨#[0xb1]⟩ 1 none, Cond.arrayClass .int, Cond.fieldLink RX0 9 "WellField" "wellPlaces" "[I", Cond.fieldLink RX0 13 "WellField" "wellZones" "[I", Cond.fieldLink RX0 16 "WellField" "licences" "[I", Cond.classLink RX0 19 "[[I", Cond.fieldLink RX0 21 "WellField" "pumping" "[[I", Cond.fieldLink RX0 24 "WellField" "watchPlaces" "[I", Cond.fieldLink RX0 27 "WellField" "limits" "[I", Cond.fieldLink RX0 30 "WellField" "table" "[[I", Cond.fieldLink RX0 33 "WellField" "tableSums" "[I", Cond.fieldLink RX0 36 "WellField" "ratios" "[[I"]
def wsL_law0_r2 : List Cond := [Cond.fieldLink RX0 39 "WellField" "pulses" "[J", Cond.methodLink RL 83 yX1_init, Cond.instanceMethod yX1_init, Cond.code yX1_init cX1_init 2 none, Cond.methodLink RX1 1 objectInit, Cond.fieldLink RX1 7 "WellFieldModel" "place" "[I", Cond.fieldLink RX1 13 "WellFieldModel" "zone" "[I", Cond.fieldLink RX1 16 "WellFieldModel" "licence" "[I", Cond.fieldLink RX1 19 "WellFieldModel" "units" "[I", Cond.fieldLink RX1 22 "WellFieldModel" "spot" "[I", Cond.fieldLink RX1 25 "WellFieldModel" "limit" "[I", Cond.fieldLink RX1 28 "WellFieldModel" "table" "[I", Cond.fieldLink RX1 31 "WellFieldModel" "ratio" "[I", Cond.methodLink RL 84 yL_well, Cond.static yL_well, Cond.initialized RL, Cond.codeWith yL_well cL_well 6 (some .int) [(0, 12, 15, 13), (0, 12, 19, 15)], Cond.classLink RL 13 "java/lang/IllegalArgumentException", Cond.classLink RL 15 "java/lang/IllegalStateException", Cond.methodLink RL 7 yX0_well, Cond.instanceMethod yX0_well, Cond.selects RX0 yX0_well yX0_well, Cond.code yX0_well cX0_well 5 (some .int), Cond.fieldLink RX0 47 "WellField" "wellCount" "I"]
def wsL_law0_r3 : List Cond := [Cond.methodLink RX0 43 yX0_needRange, Cond.static yX0_needRange, Cond.code yX0_needRange cX0_needRange 3 none, Cond.classLink RX0 121 "java/lang/IllegalArgumentException", Cond.initialized "java/lang/IllegalArgumentException", Cond.methodLink RX0 51 yX0_needAllowed, Cond.static yX0_needAllowed, Cond.code yX0_needAllowed cX0_needAllowed 1 none, Cond.classLink RX0 126 "java/lang/IllegalStateException", Cond.initialized "java/lang/IllegalStateException", Cond.methodLink RL 89 yX1_well, Cond.instanceMethod yX1_well, Cond.selects RX1 yX1_well yX1_well, Cond.code yX1_well cX1_well 4 (some .int), Cond.fieldLink RX1 38 "WellFieldModel" "wells" "I", Cond.methodLink RX1 41 yX1_isIn, Cond.static yX1_isIn, Cond.code yX1_isIn cX1_isIn 3 (some .boolean), Cond.methodLink RX1 48 yX1_mayBoth, Cond.instanceMethod yX1_mayBoth, Cond.selects RX1 yX1_mayBoth yX1_mayBoth, Cond.code yX1_mayBoth cX1_mayBoth 3 (some .boolean), Cond.fieldLink RX1 34 "WellFieldModel" "thrown" "I", Cond.methodLink RL 90 yX1_thrown]
def wsL_law0_r4 : List Cond := [Cond.instanceMethod yX1_thrown, Cond.selects RX1 yX1_thrown yX1_thrown, Cond.code yX1_thrown cX1_thrown 1 (some .int), Cond.methodLink RL 94 yL_watch, Cond.static yL_watch, Cond.codeWith yL_watch cL_watch 5 (some .int) [(0, 10, 13, 13), (0, 10, 17, 15)], Cond.methodLink RL 17 yX0_watch, Cond.instanceMethod yX0_watch, Cond.selects RX0 yX0_watch yX0_watch, Cond.code yX0_watch cX0_watch 4 (some .int), Cond.fieldLink RX0 55 "WellField" "watchCount" "I", Cond.methodLink RL 97 yX1_watch, Cond.instanceMethod yX1_watch, Cond.selects RX1 yX1_watch yX1_watch, Cond.code yX1_watch cX1_watch 3 (some .int), Cond.fieldLink RX1 45 "WellFieldModel" "watches" "I", Cond.methodLink RL 98 yL_response, Cond.static yL_response, Cond.codeWith yL_response cL_response 6 (some .int) [(0, 12, 15, 24), (0, 12, 19, 13)], Cond.classLink RL 24 "java/lang/IndexOutOfBoundsException", Cond.methodLink RL 21 yX0_response, Cond.instanceMethod yX0_response, Cond.selects RX0 yX0_response yX0_response, Cond.code yX0_response cX0_response 5 (some .int)]
def wsL_law0_r5 : List Cond := [Cond.methodLink RX0 58 yX0_needIndex, Cond.static yX0_needIndex, Cond.code yX0_needIndex cX0_needIndex 2 none, Cond.classLink RX0 114 "java/lang/IndexOutOfBoundsException", Cond.initialized "java/lang/IndexOutOfBoundsException", Cond.methodLink RL 100 yX1_response, Cond.instanceMethod yX1_response, Cond.selects RX1 yX1_response yX1_response, Cond.code yX1_response cX1_response 5 (some .int), Cond.methodLink RL 101 yX0_wells, Cond.instanceMethod yX0_wells, Cond.selects RX0 yX0_wells yX0_wells, Cond.code yX0_wells cX0_wells 1 (some .int), Cond.methodLink RL 104 yX1_wells, Cond.instanceMethod yX1_wells, Cond.selects RX1 yX1_wells yX1_wells, Cond.code yX1_wells cX1_wells 1 (some .int), Cond.methodLink RL 105 yX0_watches, Cond.instanceMethod yX0_watches, Cond.selects RX0 yX0_watches yX0_watches, Cond.code yX0_watches cX0_watches 1 (some .int), Cond.methodLink RL 108 yX1_watches, Cond.instanceMethod yX1_watches, Cond.selects RX1 yX1_watches yX1_watches]
def wsL_law0_r6 : List Cond := [Cond.code yX1_watches cX1_watches 1 (some .int), Cond.methodLink RL 109 yL_pump, Cond.static yL_pump, Cond.codeWith yL_pump cL_pump 6 (some .int) [(0, 12, 15, 24), (0, 12, 19, 13)], Cond.methodLink RL 26 yX0_pump, Cond.instanceMethod yX0_pump, Cond.selects RX0 yX0_pump yX0_pump, Cond.code yX0_pump cX0_pump 5 (some .int), Cond.methodLink RL 111 yX1_pump, Cond.instanceMethod yX1_pump, Cond.selects RX1 yX1_pump yX1_pump, Cond.code yX1_pump cX1_pump 5 (some .int), Cond.methodLink RX1 52 yX1_isWell, Cond.instanceMethod yX1_isWell, Cond.selects RX1 yX1_isWell yX1_isWell, Cond.code yX1_isWell cX1_isWell 2 (some .boolean), Cond.methodLink RX1 56 yX1_isMonth, Cond.static yX1_isMonth, Cond.code yX1_isMonth cX1_isMonth 1 (some .boolean), Cond.methodLink RL 112 yL_rest, Cond.static yL_rest, Cond.codeWith yL_rest cL_rest 6 (some .int) [(0, 12, 15, 24), (0, 12, 19, 13)], Cond.methodLink RL 29 yX0_rest, Cond.instanceMethod yX0_rest]
def wsL_law0_r7 : List Cond := [Cond.selects RX0 yX0_rest yX0_rest, Cond.code yX0_rest cX0_rest 7 (some .int), Cond.methodLink RX0 62 Lib.Math.min.name, Cond.static Lib.Math.min.name, Cond.initialized "java/lang/Math", Cond.code Lib.Math.min.name Lib.Math.min.code 2 (some .int), Cond.methodLink RL 114 yX1_rest, Cond.instanceMethod yX1_rest, Cond.selects RX1 yX1_rest yX1_rest, Cond.code yX1_rest cX1_rest 6 (some .int), Cond.methodLink RL 115 yL_pumped, Cond.static yL_pumped, Cond.codeWith yL_pumped cL_pumped 5 (some .int) [(0, 10, 13, 24)], Cond.methodLink RL 32 yX0_pumped, Cond.instanceMethod yX0_pumped, Cond.selects RX0 yX0_pumped yX0_pumped, Cond.code yX0_pumped cX0_pumped 3 (some .int), Cond.methodLink RX0 68 yX0_unitsOfYear, Cond.instanceMethod yX0_unitsOfYear, Cond.selects RX0 yX0_unitsOfYear yX0_unitsOfYear, Cond.code yX0_unitsOfYear cX0_unitsOfYear 6 (some .int), Cond.methodLink RL 117 yX1_pumped, Cond.instanceMethod yX1_pumped, Cond.selects RX1 yX1_pumped yX1_pumped]
def wsL_law0_r8 : List Cond := [Cond.code yX1_pumped cX1_pumped 3 (some .int), Cond.methodLink RX1 59 yX1_isYear, Cond.static yX1_isYear, Cond.code yX1_isYear cX1_isYear 1 (some .boolean), Cond.methodLink RX1 62 yX1_may, Cond.instanceMethod yX1_may, Cond.selects RX1 yX1_may yX1_may, Cond.code yX1_may cX1_may 2 (some .boolean), Cond.methodLink RX1 66 yX1_pumpedIn, Cond.instanceMethod yX1_pumpedIn, Cond.selects RX1 yX1_pumpedIn yX1_pumpedIn, Cond.code yX1_pumpedIn cX1_pumpedIn 5 (some .int), Cond.methodLink RL 118 yL_beyond, Cond.static yL_beyond, Cond.codeWith yL_beyond cL_beyond 4 (some .int) [(0, 9, 12, 24)], Cond.methodLink RL 35 yX0_beyond, Cond.instanceMethod yX0_beyond, Cond.selects RX0 yX0_beyond yX0_beyond, Cond.code yX0_beyond cX0_beyond 4 (some .int), Cond.methodLink RX0 71 Lib.Math.max.name, Cond.static Lib.Math.max.name, Cond.code Lib.Math.max.name Lib.Math.max.code 2 (some .int), Cond.methodLink RL 121 yX1_beyond, Cond.instanceMethod yX1_beyond]
def wsL_law0_r9 : List Cond := [Cond.selects RX1 yX1_beyond yX1_beyond, Cond.code yX1_beyond cX1_beyond 5 (some .int), Cond.methodLink RL 122 yL_drawdown, Cond.static yL_drawdown, Cond.codeWith yL_drawdown cL_drawdown 5 (some .int) [(0, 9, 12, 24)], Cond.methodLink RL 39 yX0_drawdown, Cond.instanceMethod yX0_drawdown, Cond.selects RX0 yX0_drawdown yX0_drawdown, Cond.code yX0_drawdown cX0_drawdown 3 (some .long), Cond.methodLink RX0 74 yX0_loweredIn, Cond.instanceMethod yX0_loweredIn, Cond.selects RX0 yX0_loweredIn yX0_loweredIn, Cond.code yX0_loweredIn cX0_loweredIn 8 (some .long), Cond.methodLink RX0 78 yX0_reachOf, Cond.instanceMethod yX0_reachOf, Cond.selects RX0 yX0_reachOf yX0_reachOf, Cond.code yX0_reachOf cX0_reachOf 3 (some .int), Cond.methodLink RX0 133 Lib.Math.abs.name, Cond.static Lib.Math.abs.name, Cond.code Lib.Math.abs.name Lib.Math.abs.code 1 (some .int), Cond.methodLink RX0 137 yX0_tableNumber, Cond.instanceMethod yX0_tableNumber, Cond.selects RX0 yX0_tableNumber yX0_tableNumber, Cond.code yX0_tableNumber cX0_tableNumber 3 (some .int)]
def wsL_law0_r10 : List Cond := [Cond.methodLink RL 124 yX1_drawdown, Cond.instanceMethod yX1_drawdown, Cond.selects RX1 yX1_drawdown yX1_drawdown, Cond.code yX1_drawdown cX1_drawdown 3 (some .long), Cond.methodLink RX1 74 yX1_isWatch, Cond.instanceMethod yX1_isWatch, Cond.selects RX1 yX1_isWatch yX1_isWatch, Cond.code yX1_isWatch cX1_isWatch 2 (some .boolean), Cond.methodLink RX1 77 yX1_drawdownOf, Cond.instanceMethod yX1_drawdownOf, Cond.selects RX1 yX1_drawdownOf yX1_drawdownOf, Cond.code yX1_drawdownOf cX1_drawdownOf 7 (some .long), Cond.methodLink RX1 70 yX1_answer, Cond.instanceMethod yX1_answer, Cond.selects RX1 yX1_answer yX1_answer, Cond.code yX1_answer cX1_answer 6 (some .int), Cond.methodLink RL 125 yL_drawdownByPulses, Cond.static yL_drawdownByPulses, Cond.codeWith yL_drawdownByPulses cL_drawdownByPulses 5 (some .int) [(0, 9, 12, 24)], Cond.methodLink RL 43 yX0_drawdownByPulses, Cond.instanceMethod yX0_drawdownByPulses, Cond.selects RX0 yX0_drawdownByPulses yX0_drawdownByPulses, Cond.code yX0_drawdownByPulses cX0_drawdownByPulses 5 (some .long), Cond.methodLink RX0 81 yX0_layPulse]
def wsL_law0_r11 : List Cond := [Cond.instanceMethod yX0_layPulse, Cond.selects RX0 yX0_layPulse yX0_layPulse, Cond.code yX0_layPulse cX0_layPulse 5 none, Cond.methodLink RL 127 yX1_drawdownByPulses, Cond.instanceMethod yX1_drawdownByPulses, Cond.selects RX1 yX1_drawdownByPulses yX1_drawdownByPulses, Cond.code yX1_drawdownByPulses cX1_drawdownByPulses 3 (some .long), Cond.methodLink RX1 81 yX1_drawdown, Cond.methodLink RL 128 yL_worstMonth, Cond.static yL_worstMonth, Cond.codeWith yL_worstMonth cL_worstMonth 4 (some .int) [(0, 9, 12, 24)], Cond.methodLink RL 46 yX0_worstMonth, Cond.instanceMethod yX0_worstMonth, Cond.selects RX0 yX0_worstMonth yX0_worstMonth, Cond.code yX0_worstMonth cX0_worstMonth 8 (some .int), Cond.methodLink RL 130 yX1_worstMonth, Cond.instanceMethod yX1_worstMonth, Cond.selects RX1 yX1_worstMonth yX1_worstMonth, Cond.code yX1_worstMonth cX1_worstMonth 4 (some .int), Cond.methodLink RL 131 yL_over, Cond.static yL_over, Cond.codeWith yL_over cL_over 4 (some .int) [(0, 9, 12, 24)], Cond.methodLink RL 49 yX0_over, Cond.instanceMethod yX0_over]
def wsL_law0_r12 : List Cond := [Cond.selects RX0 yX0_over yX0_over, Cond.code yX0_over cX0_over 4 (some .int), Cond.methodLink RX0 84 yX0_thousandthsLeft, Cond.instanceMethod yX0_thousandthsLeft, Cond.selects RX0 yX0_thousandthsLeft yX0_thousandthsLeft, Cond.code yX0_thousandthsLeft cX0_thousandthsLeft 3 (some .long), Cond.constantLong RX0 140 (1000), Cond.methodLink RL 133 yX1_over, Cond.instanceMethod yX1_over, Cond.selects RX1 yX1_over yX1_over, Cond.code yX1_over cX1_over 4 (some .int), Cond.constantLong RX1 84 (1000), Cond.methodLink RL 134 yL_headroom, Cond.static yL_headroom, Cond.codeWith yL_headroom cL_headroom 5 (some .int) [(0, 10, 13, 24)], Cond.methodLink RL 52 yX0_headroom, Cond.instanceMethod yX0_headroom, Cond.selects RX0 yX0_headroom yX0_headroom, Cond.code yX0_headroom cX0_headroom 6 (some .int), Cond.methodLink RX0 91 Lib.MathLoose.min_long.x, Cond.static Lib.MathLoose.min_long.x, Cond.code Lib.MathLoose.min_long.x Lib.MathLoose.min_long.code 4 (some .long), Cond.methodLink RX0 87 yX0_unitsLeft, Cond.instanceMethod yX0_unitsLeft]
def wsL_law0_r13 : List Cond := [Cond.selects RX0 yX0_unitsLeft yX0_unitsLeft, Cond.code yX0_unitsLeft cX0_unitsLeft 8 (some .long), Cond.methodLink RX0 142 Lib.MathLoose.max_long.x, Cond.static Lib.MathLoose.max_long.x, Cond.code Lib.MathLoose.max_long.x Lib.MathLoose.max_long.code 4 (some .long), Cond.methodLink RL 136 yX1_headroom, Cond.instanceMethod yX1_headroom, Cond.selects RX1 yX1_headroom yX1_headroom, Cond.code yX1_headroom cX1_headroom 12 (some .int), Cond.methodLink RL 137 yL_heaviest, Cond.static yL_heaviest, Cond.codeWith yL_heaviest cL_heaviest 5 (some .int) [(0, 10, 13, 24)], Cond.methodLink RL 55 yX0_heaviest, Cond.instanceMethod yX0_heaviest, Cond.selects RX0 yX0_heaviest yX0_heaviest, Cond.code yX0_heaviest cX0_heaviest 9 (some .int), Cond.methodLink RX0 94 yX0_loweredInAll, Cond.instanceMethod yX0_loweredInAll, Cond.selects RX0 yX0_loweredInAll yX0_loweredInAll, Cond.code yX0_loweredInAll cX0_loweredInAll 8 (some .long), Cond.methodLink RL 139 yX1_heaviest, Cond.instanceMethod yX1_heaviest, Cond.selects RX1 yX1_heaviest yX1_heaviest, Cond.code yX1_heaviest cX1_heaviest 8 (some .int)]
def wsL_law0_r14 : List Cond := [Cond.methodLink RL 140 yL_taken, Cond.static yL_taken, Cond.codeWith yL_taken cL_taken 4 (some .int) [(0, 9, 12, 24)], Cond.methodLink RL 58 yX0_taken, Cond.instanceMethod yX0_taken, Cond.selects RX0 yX0_taken yX0_taken, Cond.code yX0_taken cX0_taken 4 (some .int), Cond.methodLink RX0 97 yX0_takenOfMonthsBefore, Cond.instanceMethod yX0_takenOfMonthsBefore, Cond.selects RX0 yX0_takenOfMonthsBefore yX0_takenOfMonthsBefore, Cond.code yX0_takenOfMonthsBefore cX0_takenOfMonthsBefore 9 (some .int), Cond.methodLink RX0 144 yX0_isInYear, Cond.static yX0_isInYear, Cond.code yX0_isInYear cX0_isInYear 2 (some .boolean), Cond.methodLink RL 142 yX1_taken, Cond.instanceMethod yX1_taken, Cond.selects RX1 yX1_taken yX1_taken, Cond.code yX1_taken cX1_taken 4 (some .int), Cond.methodLink RX1 86 yX1_takenBy, Cond.instanceMethod yX1_takenBy, Cond.selects RX1 yX1_takenBy yX1_takenBy, Cond.code yX1_takenBy cX1_takenBy 9 (some .int), Cond.methodLink RL 143 yL_takenLate, Cond.static yL_takenLate]
def wsL_law0_r15 : List Cond := [Cond.codeWith yL_takenLate cL_takenLate 5 (some .int) [(0, 10, 13, 24)], Cond.methodLink RL 61 yX0_takenLate, Cond.instanceMethod yX0_takenLate, Cond.selects RX0 yX0_takenLate yX0_takenLate, Cond.code yX0_takenLate cX0_takenLate 3 (some .int), Cond.methodLink RL 145 yX1_takenLate, Cond.instanceMethod yX1_takenLate, Cond.selects RX1 yX1_takenLate yX1_takenLate, Cond.code yX1_takenLate cX1_takenLate 3 (some .int), Cond.methodLink RL 146 yL_licence, Cond.static yL_licence, Cond.codeWith yL_licence cL_licence 4 (some .int) [(0, 9, 12, 24)], Cond.methodLink RL 64 yX0_licence, Cond.instanceMethod yX0_licence, Cond.selects RX0 yX0_licence yX0_licence, Cond.code yX0_licence cX0_licence 2 (some .int), Cond.methodLink RL 148 yX1_licence, Cond.instanceMethod yX1_licence, Cond.selects RX1 yX1_licence yX1_licence, Cond.code yX1_licence cX1_licence 2 (some .int), Cond.methodLink RL 149 yL_ratio, Cond.static yL_ratio, Cond.codeWith yL_ratio cL_ratio 6 (some .int) [(0, 12, 15, 24), (0, 12, 19, 13)], Cond.methodLink RL 67 yX0_ratio]
def wsL_law0_r16 : List Cond := [Cond.instanceMethod yX0_ratio, Cond.selects RX0 yX0_ratio yX0_ratio, Cond.code yX0_ratio cX0_ratio 5 (some .int), Cond.methodLink RL 151 yX1_ratio, Cond.instanceMethod yX1_ratio, Cond.selects RX1 yX1_ratio yX1_ratio, Cond.code yX1_ratio cX1_ratio 5 (some .int), Cond.methodLink RL 152 yL_burden, Cond.static yL_burden, Cond.codeWith yL_burden cL_burden 4 (some .int) [(0, 8, 11, 24)], Cond.methodLink RL 70 yX0_burden, Cond.instanceMethod yX0_burden, Cond.selects RX0 yX0_burden yX0_burden, Cond.code yX0_burden cX0_burden 5 (some .long), Cond.methodLink RX0 101 yX0_burdenOfUnits, Cond.instanceMethod yX0_burdenOfUnits, Cond.selects RX0 yX0_burdenOfUnits yX0_burdenOfUnits, Cond.code yX0_burdenOfUnits cX0_burdenOfUnits 5 (some .long), Cond.methodLink RL 154 yX1_burden, Cond.instanceMethod yX1_burden, Cond.selects RX1 yX1_burden yX1_burden, Cond.code yX1_burden cX1_burden 5 (some .long), Cond.methodLink RX1 89 yX1_allOf, Cond.instanceMethod yX1_allOf]
def wsL_law0_r17 : List Cond := [Cond.selects RX1 yX1_allOf yX1_allOf, Cond.code yX1_allOf cX1_allOf 5 (some .int), Cond.methodLink RL 155 yL_trade, Cond.static yL_trade, Cond.codeWith yL_trade cL_trade 6 (some .int) [(0, 12, 15, 24), (0, 12, 19, 13), (0, 12, 23, 15)], Cond.methodLink RL 74 yX0_trade, Cond.instanceMethod yX0_trade, Cond.selects RX0 yX0_trade yX0_trade, Cond.code yX0_trade cX0_trade 5 (some .int), Cond.methodLink RX0 104 yX0_needTwoWells, Cond.instanceMethod yX0_needTwoWells, Cond.selects RX0 yX0_needTwoWells yX0_needTwoWells, Cond.code yX0_needTwoWells cX0_needTwoWells 3 none, Cond.methodLink RX0 107 yX0_canTrade, Cond.instanceMethod yX0_canTrade, Cond.selects RX0 yX0_canTrade yX0_canTrade, Cond.code yX0_canTrade cX0_canTrade 6 (some .boolean), Cond.methodLink RX0 111 yX0_unitsGot, Cond.instanceMethod yX0_unitsGot, Cond.selects RX0 yX0_unitsGot yX0_unitsGot, Cond.code yX0_unitsGot cX0_unitsGot 4 (some .int), Cond.methodLink RL 157 yX1_trade, Cond.instanceMethod yX1_trade, Cond.selects RX1 yX1_trade yX1_trade]
def wsL_law0_r18 : List Cond := [Cond.code yX1_trade cX1_trade 7 (some .int), Cond.methodLink RX1 95 yX1_can, Cond.instanceMethod yX1_can, Cond.selects RX1 yX1_can yX1_can, Cond.code yX1_can cX1_can 7 (some .boolean), Cond.methodLink RX1 92 yX1_got, Cond.instanceMethod yX1_got, Cond.selects RX1 yX1_got yX1_got, Cond.code yX1_got cX1_got 4 (some .int), Cond.methodLink RX1 98 yX1_mayAll, Cond.instanceMethod yX1_mayAll, Cond.selects RX1 yX1_mayAll yX1_mayAll, Cond.code yX1_mayAll cX1_mayAll 4 (some .boolean), Cond.methodLink RL 158 yL_mostTraded, Cond.static yL_mostTraded, Cond.codeWith yL_mostTraded cL_mostTraded 5 (some .int) [(0, 10, 13, 24), (0, 10, 17, 13)], Cond.methodLink RL 77 yX0_mostTraded, Cond.instanceMethod yX0_mostTraded, Cond.selects RX0 yX0_mostTraded yX0_mostTraded, Cond.code yX0_mostTraded cX0_mostTraded 4 (some .int), Cond.methodLink RL 160 yX1_mostTraded, Cond.instanceMethod yX1_mostTraded, Cond.selects RX1 yX1_mostTraded yX1_mostTraded, Cond.code yX1_mostTraded cX1_mostTraded 4 (some .int)]
def wsL_law0 : List Cond := (wsL_law0_r1 ++ (wsL_law0_r2 ++ (wsL_law0_r3 ++ (wsL_law0_r4 ++ (wsL_law0_r5 ++ (wsL_law0_r6 ++ (wsL_law0_r7 ++ (wsL_law0_r8 ++ (wsL_law0_r9 ++ (wsL_law0_r10 ++ (wsL_law0_r11 ++ (wsL_law0_r12 ++ (wsL_law0_r13 ++ (wsL_law0_r14 ++ (wsL_law0_r15 ++ (wsL_law0_r16 ++ (wsL_law0_r17 ++ wsL_law0_r18))))))))))))))))) ++ wsX00 ++ wsX10 ++ ([] : List Cond)
def wsL_law : List Cond := wsL_law0 ++ (vx_atS RX0 125 "java/lang/IllegalArgumentException" ["java/lang/RuntimeException", "java/lang/Exception"]).filter goodWord ++ (vx_atS RX0 130 "java/lang/IllegalStateException" ["java/lang/RuntimeException", "java/lang/Exception"]).filter goodWord ++ (vx_atS RX0 118 "java/lang/IndexOutOfBoundsException" ["java/lang/RuntimeException", "java/lang/Exception"]).filter goodWord
abbrev vwCl : List vw_C := [(RX0, TX0, 12), (RX1, TX1, 11)]
end
section
theorem dX0_init_0 : decode cX0_init 0 = .ok (.aload_n 0, 1) := by decide +kernel
theorem dX0_init_1 : decode cX0_init 1 = .ok (.invokespecial 1, 3) := by decide +kernel
theorem dX0_init_4 : decode cX0_init 4 = .ok (.aload_n 0, 1) := by decide +kernel
theorem dX0_init_5 : decode cX0_init 5 = .ok (.bipush 8, 2) := by decide +kernel
theorem dX0_init_7 : decode cX0_init 7 = .ok (.newarray .int, 2) := by decide +kernel
theorem dX0_init_9 : decode cX0_init 9 = .ok (.putfield 9, 3) := by decide +kernel
theorem dX0_init_12 : decode cX0_init 12 = .ok (.aload_n 0, 1) := by decide +kernel
theorem dX0_init_13 : decode cX0_init 13 = .ok (.bipush 8, 2) := by decide +kernel
theorem dX0_init_15 : decode cX0_init 15 = .ok (.newarray .int, 2) := by decide +kernel
theorem dX0_init_17 : decode cX0_init 17 = .ok (.putfield 13, 3) := by decide +kernel
theorem dX0_init_20 : decode cX0_init 20 = .ok (.aload_n 0, 1) := by decide +kernel
theorem dX0_init_21 : decode cX0_init 21 = .ok (.bipush 8, 2) := by decide +kernel
theorem dX0_init_23 : decode cX0_init 23 = .ok (.newarray .int, 2) := by decide +kernel
theorem dX0_init_25 : decode cX0_init 25 = .ok (.putfield 16, 3) := by decide +kernel
theorem dX0_init_28 : decode cX0_init 28 = .ok (.aload_n 0, 1) := by decide +kernel
theorem dX0_init_29 : decode cX0_init 29 = .ok (.bipush 8, 2) := by decide +kernel
theorem dX0_init_31 : decode cX0_init 31 = .ok (.bipush 36, 2) := by decide +kernel
theorem dX0_init_33 : decode cX0_init 33 = .ok (.multianewarray 19 2, 4) := by decide +kernel
theorem dX0_init_37 : decode cX0_init 37 = .ok (.putfield 21, 3) := by decide +kernel
theorem dX0_init_40 : decode cX0_init 40 = .ok (.aload_n 0, 1) := by decide +kernel
theorem dX0_init_41 : decode cX0_init 41 = .ok (.iconst 4, 1) := by decide +kernel
theorem dX0_init_42 : decode cX0_init 42 = .ok (.newarray .int, 2) := by decide +kernel
theorem dX0_init_44 : decode cX0_init 44 = .ok (.putfield 24, 3) := by decide +kernel
theorem dX0_init_47 : decode cX0_init 47 = .ok (.aload_n 0, 1) := by decide +kernel
theorem dX0_init_48 : decode cX0_init 48 = .ok (.iconst 4, 1) := by decide +kernel
theorem dX0_init_49 : decode cX0_init 49 = .ok (.newarray .int, 2) := by decide +kernel
theorem dX0_init_51 : decode cX0_init 51 = .ok (.putfield 27, 3) := by decide +kernel
theorem dX0_init_54 : decode cX0_init 54 = .ok (.aload_n 0, 1) := by decide +kernel
theorem dX0_init_55 : decode cX0_init 55 = .ok (.iconst 5, 1) := by decide +kernel
theorem dX0_init_56 : decode cX0_init 56 = .ok (.bipush 12, 2) := by decide +kernel
theorem dX0_init_58 : decode cX0_init 58 = .ok (.multianewarray 19 2, 4) := by decide +kernel
theorem dX0_init_62 : decode cX0_init 62 = .ok (.putfield 30, 3) := by decide +kernel
theorem dX0_init_65 : decode cX0_init 65 = .ok (.aload_n 0, 1) := by decide +kernel
theorem dX0_init_66 : decode cX0_init 66 = .ok (.iconst 5, 1) := by decide +kernel
theorem dX0_init_67 : decode cX0_init 67 = .ok (.newarray .int, 2) := by decide +kernel
theorem dX0_init_69 : decode cX0_init 69 = .ok (.putfield 33, 3) := by decide +kernel
theorem dX0_init_72 : decode cX0_init 72 = .ok (.aload_n 0, 1) := by decide +kernel
theorem dX0_init_73 : decode cX0_init 73 = .ok (.iconst 3, 1) := by decide +kernel
theorem dX0_init_74 : decode cX0_init 74 = .ok (.iconst 3, 1) := by decide +kernel
theorem dX0_init_75 : decode cX0_init 75 = .ok (.multianewarray 19 2, 4) := by decide +kernel
theorem dX0_init_79 : decode cX0_init 79 = .ok (.putfield 36, 3) := by decide +kernel
theorem dX0_init_82 : decode cX0_init 82 = .ok (.aload_n 0, 1) := by decide +kernel
theorem dX0_init_83 : decode cX0_init 83 = .ok (.bipush 36, 2) := by decide +kernel
theorem dX0_init_85 : decode cX0_init 85 = .ok (.newarray .long, 2) := by decide +kernel
theorem dX0_init_87 : decode cX0_init 87 = .ok (.putfield 39, 3) := by decide +kernel
theorem dX0_init_90 : decode cX0_init 90 = .ok (.iconst 0, 1) := by decide +kernel
theorem dX0_init_91 : decode cX0_init 91 = .ok (.istore_n 1, 1) := by decide +kernel
theorem dX0_init_92 : decode cX0_init 92 = .ok (.iload_n 1, 1) := by decide +kernel
theorem dX0_init_93 : decode cX0_init 93 = .ok (.iconst 3, 1) := by decide +kernel
theorem dX0_init_94 : decode cX0_init 94 = .ok (.if_icmp .ge 32, 3) := by decide +kernel
theorem dX0_init_97 : decode cX0_init 97 = .ok (.iconst 0, 1) := by decide +kernel
theorem dX0_init_98 : decode cX0_init 98 = .ok (.istore_n 2, 1) := by decide +kernel
theorem dX0_init_99 : decode cX0_init 99 = .ok (.iload_n 2, 1) := by decide +kernel
theorem dX0_init_100 : decode cX0_init 100 = .ok (.iconst 3, 1) := by decide +kernel
theorem dX0_init_101 : decode cX0_init 101 = .ok (.if_icmp .ge 19, 3) := by decide +kernel
theorem dX0_init_104 : decode cX0_init 104 = .ok (.aload_n 0, 1) := by decide +kernel
theorem dX0_init_105 : decode cX0_init 105 = .ok (.getfield 36, 3) := by decide +kernel
theorem dX0_init_108 : decode cX0_init 108 = .ok (.iload_n 1, 1) := by decide +kernel
theorem dX0_init_109 : decode cX0_init 109 = .ok (.aaload, 1) := by decide +kernel
theorem dX0_init_110 : decode cX0_init 110 = .ok (.iload_n 2, 1) := by decide +kernel
theorem dX0_init_111 : decode cX0_init 111 = .ok (.bipush 100, 2) := by decide +kernel
theorem dX0_init_113 : decode cX0_init 113 = .ok (.iastore, 1) := by decide +kernel
theorem dX0_init_114 : decode cX0_init 114 = .ok (.iinc 2 1, 3) := by decide +kernel
theorem dX0_init_117 : decode cX0_init 117 = .ok (.goto (-18), 3) := by decide +kernel
theorem dX0_init_120 : decode cX0_init 120 = .ok (.iinc 1 1, 3) := by decide +kernel
theorem dX0_init_123 : decode cX0_init 123 = .ok (.goto (-31), 3) := by decide +kernel
theorem dX0_init_126 : decode cX0_init 126 = .ok (.return_, 1) := by decide +kernel
set_option maxRecDepth 20000 in
theorem ggX0_well_X0_needRange : GoodIn wsX0_well wsX0_needRange := goodIn_ca (goodIn_r _ [8, 9, 10] (by decide +kernel) (by decide +kernel)) (goodIn_sub (fun _ h => List.mem_cons_of_mem _ (List.mem_append_left _ (List.mem_append_right _ h))) (by decide +kernel))
set_option maxRecDepth 20000 in
theorem gX0_well_X0_needRange : GoodIn wsX0_well (va_wsS RX0 43 yX0_needRange wsX0_needRange) := goodIn_app (goodIn_of _ (by decide +kernel)) ggX0_well_X0_needRange
set_option maxRecDepth 20000 in
theorem ggX0_well_X0_needAllowed : GoodIn wsX0_well wsX0_needAllowed := goodIn_ca (goodIn_r _ [13, 14, 15] (by decide +kernel) (by decide +kernel)) (goodIn_sub (fun _ h => List.mem_cons_of_mem _ (List.mem_append_right _ h)) (by decide +kernel))
set_option maxRecDepth 20000 in
theorem gX0_well_X0_needAllowed : GoodIn wsX0_well (va_wsS RX0 51 yX0_needAllowed wsX0_needAllowed) := goodIn_app (goodIn_of _ (by decide +kernel)) ggX0_well_X0_needAllowed
theorem dX0_well_0 : decode cX0_well 0 = .ok (.iload_n 1, 1) := by decide +kernel
theorem dX0_well_1 : decode cX0_well 1 = .ok (.iconst 0, 1) := by decide +kernel
theorem dX0_well_2 : decode cX0_well 2 = .ok (.bipush 99, 2) := by decide +kernel
theorem dX0_well_4 : decode cX0_well 4 = .ok (.invokestatic 43, 3) := by decide +kernel
theorem dX0_well_7 : decode cX0_well 7 = .ok (.iload_n 2, 1) := by decide +kernel
theorem dX0_well_8 : decode cX0_well 8 = .ok (.iconst 0, 1) := by decide +kernel
theorem dX0_well_9 : decode cX0_well 9 = .ok (.iconst 2, 1) := by decide +kernel
theorem dX0_well_10 : decode cX0_well 10 = .ok (.invokestatic 43, 3) := by decide +kernel
theorem dX0_well_13 : decode cX0_well 13 = .ok (.iload_n 3, 1) := by decide +kernel
theorem dX0_well_14 : decode cX0_well 14 = .ok (.iconst 0, 1) := by decide +kernel
theorem dX0_well_15 : decode cX0_well 15 = .ok (.sipush 5000, 3) := by decide +kernel
theorem dX0_well_18 : decode cX0_well 18 = .ok (.invokestatic 43, 3) := by decide +kernel
theorem dX0_well_21 : decode cX0_well 21 = .ok (.aload_n 0, 1) := by decide +kernel
theorem dX0_well_22 : decode cX0_well 22 = .ok (.getfield 47, 3) := by decide +kernel
theorem dX0_well_25 : decode cX0_well 25 = .ok (.bipush 8, 2) := by decide +kernel
theorem dX0_well_27 : decode cX0_well 27 = .ok (.if_icmp .ge 7, 3) := by decide +kernel
theorem dX0_well_30 : decode cX0_well 30 = .ok (.iconst 1, 1) := by decide +kernel
theorem dX0_well_31 : decode cX0_well 31 = .ok (.goto 4, 3) := by decide +kernel
theorem dX0_well_34 : decode cX0_well 34 = .ok (.iconst 0, 1) := by decide +kernel
theorem dX0_well_35 : decode cX0_well 35 = .ok (.invokestatic 51, 3) := by decide +kernel
theorem dX0_well_38 : decode cX0_well 38 = .ok (.aload_n 0, 1) := by decide +kernel
theorem dX0_well_39 : decode cX0_well 39 = .ok (.getfield 47, 3) := by decide +kernel
theorem dX0_well_42 : decode cX0_well 42 = .ok (.istore 4, 2) := by decide +kernel
theorem dX0_well_44 : decode cX0_well 44 = .ok (.aload_n 0, 1) := by decide +kernel
theorem dX0_well_45 : decode cX0_well 45 = .ok (.getfield 9, 3) := by decide +kernel
theorem dX0_well_48 : decode cX0_well 48 = .ok (.iload 4, 2) := by decide +kernel
theorem dX0_well_50 : decode cX0_well 50 = .ok (.iload_n 1, 1) := by decide +kernel
theorem dX0_well_51 : decode cX0_well 51 = .ok (.iastore, 1) := by decide +kernel
theorem dX0_well_52 : decode cX0_well 52 = .ok (.aload_n 0, 1) := by decide +kernel
theorem dX0_well_53 : decode cX0_well 53 = .ok (.getfield 13, 3) := by decide +kernel
theorem dX0_well_56 : decode cX0_well 56 = .ok (.iload 4, 2) := by decide +kernel
theorem dX0_well_58 : decode cX0_well 58 = .ok (.iload_n 2, 1) := by decide +kernel
theorem dX0_well_59 : decode cX0_well 59 = .ok (.iastore, 1) := by decide +kernel
theorem dX0_well_60 : decode cX0_well 60 = .ok (.aload_n 0, 1) := by decide +kernel
theorem dX0_well_61 : decode cX0_well 61 = .ok (.getfield 16, 3) := by decide +kernel
theorem dX0_well_64 : decode cX0_well 64 = .ok (.iload 4, 2) := by decide +kernel
theorem dX0_well_66 : decode cX0_well 66 = .ok (.iload_n 3, 1) := by decide +kernel
theorem dX0_well_67 : decode cX0_well 67 = .ok (.iastore, 1) := by decide +kernel
theorem dX0_well_68 : decode cX0_well 68 = .ok (.aload_n 0, 1) := by decide +kernel
theorem dX0_well_69 : decode cX0_well 69 = .ok (.iload 4, 2) := by decide +kernel
theorem dX0_well_71 : decode cX0_well 71 = .ok (.iconst 1, 1) := by decide +kernel
theorem dX0_well_72 : decode cX0_well 72 = .ok (.iadd, 1) := by decide +kernel
theorem dX0_well_73 : decode cX0_well 73 = .ok (.putfield 47, 3) := by decide +kernel
theorem dX0_well_76 : decode cX0_well 76 = .ok (.iload 4, 2) := by decide +kernel
theorem dX0_well_78 : decode cX0_well 78 = .ok (.ireturn, 1) := by decide +kernel
set_option maxRecDepth 20000 in
theorem ggX0_watch_X0_needRange : GoodIn wsX0_watch wsX0_needRange := goodIn_ca (goodIn_r _ [7, 8, 9] (by decide +kernel) (by decide +kernel)) (goodIn_sub (fun _ h => List.mem_cons_of_mem _ (List.mem_append_left _ (List.mem_append_right _ h))) (by decide +kernel))
set_option maxRecDepth 20000 in
theorem gX0_watch_X0_needRange : GoodIn wsX0_watch (va_wsS RX0 43 yX0_needRange wsX0_needRange) := goodIn_app (goodIn_of _ (by decide +kernel)) ggX0_watch_X0_needRange
set_option maxRecDepth 20000 in
theorem ggX0_watch_X0_needAllowed : GoodIn wsX0_watch wsX0_needAllowed := goodIn_ca (goodIn_r _ [12, 13, 14] (by decide +kernel) (by decide +kernel)) (goodIn_sub (fun _ h => List.mem_cons_of_mem _ (List.mem_append_right _ h)) (by decide +kernel))
set_option maxRecDepth 20000 in
theorem gX0_watch_X0_needAllowed : GoodIn wsX0_watch (va_wsS RX0 51 yX0_needAllowed wsX0_needAllowed) := goodIn_app (goodIn_of _ (by decide +kernel)) ggX0_watch_X0_needAllowed
theorem dX0_watch_0 : decode cX0_watch 0 = .ok (.iload_n 1, 1) := by decide +kernel
theorem dX0_watch_1 : decode cX0_watch 1 = .ok (.iconst 0, 1) := by decide +kernel
theorem dX0_watch_2 : decode cX0_watch 2 = .ok (.bipush 99, 2) := by decide +kernel
theorem dX0_watch_4 : decode cX0_watch 4 = .ok (.invokestatic 43, 3) := by decide +kernel
theorem dX0_watch_7 : decode cX0_watch 7 = .ok (.iload_n 2, 1) := by decide +kernel
theorem dX0_watch_8 : decode cX0_watch 8 = .ok (.iconst 0, 1) := by decide +kernel
theorem dX0_watch_9 : decode cX0_watch 9 = .ok (.sipush 10000, 3) := by decide +kernel
theorem dX0_watch_12 : decode cX0_watch 12 = .ok (.invokestatic 43, 3) := by decide +kernel
theorem dX0_watch_15 : decode cX0_watch 15 = .ok (.aload_n 0, 1) := by decide +kernel
theorem dX0_watch_16 : decode cX0_watch 16 = .ok (.getfield 55, 3) := by decide +kernel
theorem dX0_watch_19 : decode cX0_watch 19 = .ok (.iconst 4, 1) := by decide +kernel
theorem dX0_watch_20 : decode cX0_watch 20 = .ok (.if_icmp .ge 7, 3) := by decide +kernel
theorem dX0_watch_23 : decode cX0_watch 23 = .ok (.iconst 1, 1) := by decide +kernel
theorem dX0_watch_24 : decode cX0_watch 24 = .ok (.goto 4, 3) := by decide +kernel
theorem dX0_watch_27 : decode cX0_watch 27 = .ok (.iconst 0, 1) := by decide +kernel
theorem dX0_watch_28 : decode cX0_watch 28 = .ok (.invokestatic 51, 3) := by decide +kernel
theorem dX0_watch_31 : decode cX0_watch 31 = .ok (.aload_n 0, 1) := by decide +kernel
theorem dX0_watch_32 : decode cX0_watch 32 = .ok (.getfield 55, 3) := by decide +kernel
theorem dX0_watch_35 : decode cX0_watch 35 = .ok (.istore_n 3, 1) := by decide +kernel
theorem dX0_watch_36 : decode cX0_watch 36 = .ok (.aload_n 0, 1) := by decide +kernel
theorem dX0_watch_37 : decode cX0_watch 37 = .ok (.getfield 24, 3) := by decide +kernel
theorem dX0_watch_40 : decode cX0_watch 40 = .ok (.iload_n 3, 1) := by decide +kernel
theorem dX0_watch_41 : decode cX0_watch 41 = .ok (.iload_n 1, 1) := by decide +kernel
theorem dX0_watch_42 : decode cX0_watch 42 = .ok (.iastore, 1) := by decide +kernel
theorem dX0_watch_43 : decode cX0_watch 43 = .ok (.aload_n 0, 1) := by decide +kernel
theorem dX0_watch_44 : decode cX0_watch 44 = .ok (.getfield 27, 3) := by decide +kernel
theorem dX0_watch_47 : decode cX0_watch 47 = .ok (.iload_n 3, 1) := by decide +kernel
theorem dX0_watch_48 : decode cX0_watch 48 = .ok (.iload_n 2, 1) := by decide +kernel
theorem dX0_watch_49 : decode cX0_watch 49 = .ok (.iastore, 1) := by decide +kernel
theorem dX0_watch_50 : decode cX0_watch 50 = .ok (.aload_n 0, 1) := by decide +kernel
theorem dX0_watch_51 : decode cX0_watch 51 = .ok (.iload_n 3, 1) := by decide +kernel
theorem dX0_watch_52 : decode cX0_watch 52 = .ok (.iconst 1, 1) := by decide +kernel
theorem dX0_watch_53 : decode cX0_watch 53 = .ok (.iadd, 1) := by decide +kernel
theorem dX0_watch_54 : decode cX0_watch 54 = .ok (.putfield 55, 3) := by decide +kernel
theorem dX0_watch_57 : decode cX0_watch 57 = .ok (.iload_n 3, 1) := by decide +kernel
theorem dX0_watch_58 : decode cX0_watch 58 = .ok (.ireturn, 1) := by decide +kernel
set_option maxRecDepth 20000 in
theorem ggX0_response_X0_needIndex : GoodIn wsX0_response wsX0_needIndex := goodIn_ca (goodIn_r _ [6, 7, 8] (by decide +kernel) (by decide +kernel)) (goodIn_sub (fun _ h => List.mem_cons_of_mem _ (List.mem_append_left _ (List.mem_append_right _ h))) (by decide +kernel))
set_option maxRecDepth 20000 in
theorem gX0_response_X0_needIndex : GoodIn wsX0_response (va_wsS RX0 58 yX0_needIndex wsX0_needIndex) := goodIn_app (goodIn_of _ (by decide +kernel)) ggX0_response_X0_needIndex
set_option maxRecDepth 20000 in
theorem ggX0_response_X0_needRange : GoodIn wsX0_response wsX0_needRange := goodIn_ca (goodIn_r _ [11, 12, 13] (by decide +kernel) (by decide +kernel)) (goodIn_sub (fun _ h => List.mem_cons_of_mem _ (List.mem_append_right _ h)) (by decide +kernel))
set_option maxRecDepth 20000 in
theorem gX0_response_X0_needRange : GoodIn wsX0_response (va_wsS RX0 43 yX0_needRange wsX0_needRange) := goodIn_app (goodIn_of _ (by decide +kernel)) ggX0_response_X0_needRange
theorem dX0_response_0 : decode cX0_response 0 = .ok (.iload_n 1, 1) := by decide +kernel
theorem dX0_response_1 : decode cX0_response 1 = .ok (.iconst 5, 1) := by decide +kernel
theorem dX0_response_2 : decode cX0_response 2 = .ok (.invokestatic 58, 3) := by decide +kernel
theorem dX0_response_5 : decode cX0_response 5 = .ok (.iload_n 2, 1) := by decide +kernel
theorem dX0_response_6 : decode cX0_response 6 = .ok (.bipush 12, 2) := by decide +kernel
theorem dX0_response_8 : decode cX0_response 8 = .ok (.invokestatic 58, 3) := by decide +kernel
theorem dX0_response_11 : decode cX0_response 11 = .ok (.iload_n 3, 1) := by decide +kernel
theorem dX0_response_12 : decode cX0_response 12 = .ok (.iconst 0, 1) := by decide +kernel
theorem dX0_response_13 : decode cX0_response 13 = .ok (.sipush 1000, 3) := by decide +kernel
theorem dX0_response_16 : decode cX0_response 16 = .ok (.invokestatic 43, 3) := by decide +kernel
theorem dX0_response_19 : decode cX0_response 19 = .ok (.aload_n 0, 1) := by decide +kernel
theorem dX0_response_20 : decode cX0_response 20 = .ok (.getfield 30, 3) := by decide +kernel
theorem dX0_response_23 : decode cX0_response 23 = .ok (.iload_n 1, 1) := by decide +kernel
theorem dX0_response_24 : decode cX0_response 24 = .ok (.aaload, 1) := by decide +kernel
theorem dX0_response_25 : decode cX0_response 25 = .ok (.iload_n 2, 1) := by decide +kernel
theorem dX0_response_26 : decode cX0_response 26 = .ok (.iaload, 1) := by decide +kernel
theorem dX0_response_27 : decode cX0_response 27 = .ok (.istore 4, 2) := by decide +kernel
theorem dX0_response_29 : decode cX0_response 29 = .ok (.aload_n 0, 1) := by decide +kernel
theorem dX0_response_30 : decode cX0_response 30 = .ok (.getfield 30, 3) := by decide +kernel
theorem dX0_response_33 : decode cX0_response 33 = .ok (.iload_n 1, 1) := by decide +kernel
theorem dX0_response_34 : decode cX0_response 34 = .ok (.aaload, 1) := by decide +kernel
theorem dX0_response_35 : decode cX0_response 35 = .ok (.iload_n 2, 1) := by decide +kernel
theorem dX0_response_36 : decode cX0_response 36 = .ok (.iload_n 3, 1) := by decide +kernel
theorem dX0_response_37 : decode cX0_response 37 = .ok (.iastore, 1) := by decide +kernel
theorem dX0_response_38 : decode cX0_response 38 = .ok (.aload_n 0, 1) := by decide +kernel
theorem dX0_response_39 : decode cX0_response 39 = .ok (.getfield 33, 3) := by decide +kernel
theorem dX0_response_42 : decode cX0_response 42 = .ok (.iload_n 1, 1) := by decide +kernel
theorem dX0_response_43 : decode cX0_response 43 = .ok (.dup2, 1) := by decide +kernel
theorem dX0_response_44 : decode cX0_response 44 = .ok (.iaload, 1) := by decide +kernel
theorem dX0_response_45 : decode cX0_response 45 = .ok (.iload_n 3, 1) := by decide +kernel
theorem dX0_response_46 : decode cX0_response 46 = .ok (.iload 4, 2) := by decide +kernel
theorem dX0_response_48 : decode cX0_response 48 = .ok (.isub, 1) := by decide +kernel
theorem dX0_response_49 : decode cX0_response 49 = .ok (.iadd, 1) := by decide +kernel
theorem dX0_response_50 : decode cX0_response 50 = .ok (.iastore, 1) := by decide +kernel
theorem dX0_response_51 : decode cX0_response 51 = .ok (.iload 4, 2) := by decide +kernel
theorem dX0_response_53 : decode cX0_response 53 = .ok (.ireturn, 1) := by decide +kernel
theorem dX0_wells_0 : decode cX0_wells 0 = .ok (.aload_n 0, 1) := by decide +kernel
theorem dX0_wells_1 : decode cX0_wells 1 = .ok (.getfield 47, 3) := by decide +kernel
theorem dX0_wells_4 : decode cX0_wells 4 = .ok (.ireturn, 1) := by decide +kernel
theorem dX0_watches_0 : decode cX0_watches 0 = .ok (.aload_n 0, 1) := by decide +kernel
theorem dX0_watches_1 : decode cX0_watches 1 = .ok (.getfield 55, 3) := by decide +kernel
theorem dX0_watches_4 : decode cX0_watches 4 = .ok (.ireturn, 1) := by decide +kernel
set_option maxRecDepth 20000 in
theorem ggX0_pump_X0_needIndex : GoodIn wsX0_pump wsX0_needIndex := goodIn_ca (goodIn_r _ [6, 7, 8] (by decide +kernel) (by decide +kernel)) (goodIn_sub (fun _ h => List.mem_cons_of_mem _ (List.mem_append_left _ (List.mem_append_right _ h))) (by decide +kernel))
set_option maxRecDepth 20000 in
theorem gX0_pump_X0_needIndex : GoodIn wsX0_pump (va_wsS RX0 58 yX0_needIndex wsX0_needIndex) := goodIn_app (goodIn_of _ (by decide +kernel)) ggX0_pump_X0_needIndex
set_option maxRecDepth 20000 in
theorem ggX0_pump_X0_needRange : GoodIn wsX0_pump wsX0_needRange := goodIn_ca (goodIn_r _ [11, 12, 13] (by decide +kernel) (by decide +kernel)) (goodIn_sub (fun _ h => List.mem_cons_of_mem _ (List.mem_append_right _ h)) (by decide +kernel))
set_option maxRecDepth 20000 in
theorem gX0_pump_X0_needRange : GoodIn wsX0_pump (va_wsS RX0 43 yX0_needRange wsX0_needRange) := goodIn_app (goodIn_of _ (by decide +kernel)) ggX0_pump_X0_needRange
theorem dX0_pump_0 : decode cX0_pump 0 = .ok (.iload_n 1, 1) := by decide +kernel
theorem dX0_pump_1 : decode cX0_pump 1 = .ok (.aload_n 0, 1) := by decide +kernel
theorem dX0_pump_2 : decode cX0_pump 2 = .ok (.getfield 47, 3) := by decide +kernel
theorem dX0_pump_5 : decode cX0_pump 5 = .ok (.invokestatic 58, 3) := by decide +kernel
theorem dX0_pump_8 : decode cX0_pump 8 = .ok (.iload_n 2, 1) := by decide +kernel
theorem dX0_pump_9 : decode cX0_pump 9 = .ok (.bipush 36, 2) := by decide +kernel
theorem dX0_pump_11 : decode cX0_pump 11 = .ok (.invokestatic 58, 3) := by decide +kernel
theorem dX0_pump_14 : decode cX0_pump 14 = .ok (.iload_n 3, 1) := by decide +kernel
theorem dX0_pump_15 : decode cX0_pump 15 = .ok (.iconst 0, 1) := by decide +kernel
theorem dX0_pump_16 : decode cX0_pump 16 = .ok (.sipush 1000, 3) := by decide +kernel
theorem dX0_pump_19 : decode cX0_pump 19 = .ok (.invokestatic 43, 3) := by decide +kernel
theorem dX0_pump_22 : decode cX0_pump 22 = .ok (.aload_n 0, 1) := by decide +kernel
theorem dX0_pump_23 : decode cX0_pump 23 = .ok (.getfield 21, 3) := by decide +kernel
theorem dX0_pump_26 : decode cX0_pump 26 = .ok (.iload_n 1, 1) := by decide +kernel
theorem dX0_pump_27 : decode cX0_pump 27 = .ok (.aaload, 1) := by decide +kernel
theorem dX0_pump_28 : decode cX0_pump 28 = .ok (.iload_n 2, 1) := by decide +kernel
theorem dX0_pump_29 : decode cX0_pump 29 = .ok (.iaload, 1) := by decide +kernel
theorem dX0_pump_30 : decode cX0_pump 30 = .ok (.istore 4, 2) := by decide +kernel
theorem dX0_pump_32 : decode cX0_pump 32 = .ok (.aload_n 0, 1) := by decide +kernel
theorem dX0_pump_33 : decode cX0_pump 33 = .ok (.getfield 21, 3) := by decide +kernel
theorem dX0_pump_36 : decode cX0_pump 36 = .ok (.iload_n 1, 1) := by decide +kernel
theorem dX0_pump_37 : decode cX0_pump 37 = .ok (.aaload, 1) := by decide +kernel
theorem dX0_pump_38 : decode cX0_pump 38 = .ok (.iload_n 2, 1) := by decide +kernel
theorem dX0_pump_39 : decode cX0_pump 39 = .ok (.iload_n 3, 1) := by decide +kernel
theorem dX0_pump_40 : decode cX0_pump 40 = .ok (.iastore, 1) := by decide +kernel
theorem dX0_pump_41 : decode cX0_pump 41 = .ok (.iload 4, 2) := by decide +kernel
theorem dX0_pump_43 : decode cX0_pump 43 = .ok (.ireturn, 1) := by decide +kernel
set_option maxRecDepth 20000 in
theorem ggX0_rest_X0_needIndex : GoodIn wsX0_rest wsX0_needIndex := goodIn_ca (goodIn_r _ [10, 11, 12] (by decide +kernel) (by decide +kernel)) (goodIn_sub (fun _ h => List.mem_cons_of_mem _ (List.mem_append_left _ (List.mem_append_right _ h))) (by decide +kernel))
set_option maxRecDepth 20000 in
theorem gX0_rest_X0_needIndex : GoodIn wsX0_rest (va_wsS RX0 58 yX0_needIndex wsX0_needIndex) := goodIn_app (goodIn_of _ (by decide +kernel)) ggX0_rest_X0_needIndex
set_option maxRecDepth 20000 in
theorem ggX0_rest_X0_needRange : GoodIn wsX0_rest wsX0_needRange := goodIn_ca (goodIn_r _ [15, 16, 17] (by decide +kernel) (by decide +kernel)) (goodIn_sub (fun _ h => List.mem_cons_of_mem _ (List.mem_append_right _ h)) (by decide +kernel))
set_option maxRecDepth 20000 in
theorem gX0_rest_X0_needRange : GoodIn wsX0_rest (va_wsS RX0 43 yX0_needRange wsX0_needRange) := goodIn_app (goodIn_of _ (by decide +kernel)) ggX0_rest_X0_needRange
theorem dX0_rest_0 : decode cX0_rest 0 = .ok (.iload_n 1, 1) := by decide +kernel
theorem dX0_rest_1 : decode cX0_rest 1 = .ok (.aload_n 0, 1) := by decide +kernel
theorem dX0_rest_2 : decode cX0_rest 2 = .ok (.getfield 47, 3) := by decide +kernel
theorem dX0_rest_5 : decode cX0_rest 5 = .ok (.invokestatic 58, 3) := by decide +kernel
theorem dX0_rest_8 : decode cX0_rest 8 = .ok (.iload_n 2, 1) := by decide +kernel
theorem dX0_rest_9 : decode cX0_rest 9 = .ok (.bipush 36, 2) := by decide +kernel
theorem dX0_rest_11 : decode cX0_rest 11 = .ok (.invokestatic 58, 3) := by decide +kernel
theorem dX0_rest_14 : decode cX0_rest 14 = .ok (.iload_n 3, 1) := by decide +kernel
theorem dX0_rest_15 : decode cX0_rest 15 = .ok (.iconst 1, 1) := by decide +kernel
theorem dX0_rest_16 : decode cX0_rest 16 = .ok (.bipush 36, 2) := by decide +kernel
theorem dX0_rest_18 : decode cX0_rest 18 = .ok (.invokestatic 43, 3) := by decide +kernel
theorem dX0_rest_21 : decode cX0_rest 21 = .ok (.iload_n 2, 1) := by decide +kernel
theorem dX0_rest_22 : decode cX0_rest 22 = .ok (.iload_n 3, 1) := by decide +kernel
theorem dX0_rest_23 : decode cX0_rest 23 = .ok (.iadd, 1) := by decide +kernel
theorem dX0_rest_24 : decode cX0_rest 24 = .ok (.bipush 36, 2) := by decide +kernel
theorem dX0_rest_26 : decode cX0_rest 26 = .ok (.invokestatic 62, 3) := by decide +kernel
theorem dX0_rest_29 : decode cX0_rest 29 = .ok (.istore 4, 2) := by decide +kernel
theorem dX0_rest_31 : decode cX0_rest 31 = .ok (.iconst 0, 1) := by decide +kernel
theorem dX0_rest_32 : decode cX0_rest 32 = .ok (.istore 5, 2) := by decide +kernel
theorem dX0_rest_34 : decode cX0_rest 34 = .ok (.iload_n 2, 1) := by decide +kernel
theorem dX0_rest_35 : decode cX0_rest 35 = .ok (.istore 6, 2) := by decide +kernel
theorem dX0_rest_37 : decode cX0_rest 37 = .ok (.iload 6, 2) := by decide +kernel
theorem dX0_rest_39 : decode cX0_rest 39 = .ok (.iload 4, 2) := by decide +kernel
theorem dX0_rest_41 : decode cX0_rest 41 = .ok (.if_icmp .ge 33, 3) := by decide +kernel
theorem dX0_rest_44 : decode cX0_rest 44 = .ok (.iload 5, 2) := by decide +kernel
theorem dX0_rest_46 : decode cX0_rest 46 = .ok (.aload_n 0, 1) := by decide +kernel
theorem dX0_rest_47 : decode cX0_rest 47 = .ok (.getfield 21, 3) := by decide +kernel
theorem dX0_rest_50 : decode cX0_rest 50 = .ok (.iload_n 1, 1) := by decide +kernel
theorem dX0_rest_51 : decode cX0_rest 51 = .ok (.aaload, 1) := by decide +kernel
theorem dX0_rest_52 : decode cX0_rest 52 = .ok (.iload 6, 2) := by decide +kernel
theorem dX0_rest_54 : decode cX0_rest 54 = .ok (.iaload, 1) := by decide +kernel
theorem dX0_rest_55 : decode cX0_rest 55 = .ok (.iadd, 1) := by decide +kernel
theorem dX0_rest_56 : decode cX0_rest 56 = .ok (.istore 5, 2) := by decide +kernel
theorem dX0_rest_58 : decode cX0_rest 58 = .ok (.aload_n 0, 1) := by decide +kernel
theorem dX0_rest_59 : decode cX0_rest 59 = .ok (.getfield 21, 3) := by decide +kernel
theorem dX0_rest_62 : decode cX0_rest 62 = .ok (.iload_n 1, 1) := by decide +kernel
theorem dX0_rest_63 : decode cX0_rest 63 = .ok (.aaload, 1) := by decide +kernel
theorem dX0_rest_64 : decode cX0_rest 64 = .ok (.iload 6, 2) := by decide +kernel
theorem dX0_rest_66 : decode cX0_rest 66 = .ok (.iconst 0, 1) := by decide +kernel
theorem dX0_rest_67 : decode cX0_rest 67 = .ok (.iastore, 1) := by decide +kernel
theorem dX0_rest_68 : decode cX0_rest 68 = .ok (.iinc 6 1, 3) := by decide +kernel
theorem dX0_rest_71 : decode cX0_rest 71 = .ok (.goto (-34), 3) := by decide +kernel
theorem dX0_rest_74 : decode cX0_rest 74 = .ok (.iload 5, 2) := by decide +kernel
theorem dX0_rest_76 : decode cX0_rest 76 = .ok (.ireturn, 1) := by decide +kernel
set_option maxRecDepth 20000 in
theorem ggX0_pumped_X0_needIndex : GoodIn wsX0_pumped wsX0_needIndex := goodIn_ca (goodIn_r _ [5, 6, 7] (by decide +kernel) (by decide +kernel)) (goodIn_sub (fun _ h => List.mem_cons_of_mem _ (List.mem_append_right _ h)) (by decide +kernel))
set_option maxRecDepth 20000 in
theorem gX0_pumped_X0_needIndex : GoodIn wsX0_pumped (va_wsS RX0 58 yX0_needIndex wsX0_needIndex) := goodIn_app (goodIn_of _ (by decide +kernel)) ggX0_pumped_X0_needIndex
set_option maxRecDepth 20000 in
theorem ggX0_pumped_X0_unitsOfYear : GoodIn wsX0_pumped wsX0_unitsOfYear := goodIn_r _ [11, 12, 13, 14, 15, 16, 17, 18, 19, 20, 21, 22, 23, 24] (by decide +kernel) (by decide +kernel)
set_option maxRecDepth 20000 in
theorem gX0_pumped_X0_unitsOfYear : GoodIn wsX0_pumped (wsV RX0 68 RX0 yX0_unitsOfYear wsX0_unitsOfYear) := goodIn_app (goodIn_of _ (by decide +kernel)) ggX0_pumped_X0_unitsOfYear
theorem dX0_pumped_0 : decode cX0_pumped 0 = .ok (.iload_n 1, 1) := by decide +kernel
theorem dX0_pumped_1 : decode cX0_pumped 1 = .ok (.aload_n 0, 1) := by decide +kernel
theorem dX0_pumped_2 : decode cX0_pumped 2 = .ok (.getfield 47, 3) := by decide +kernel
theorem dX0_pumped_5 : decode cX0_pumped 5 = .ok (.invokestatic 58, 3) := by decide +kernel
theorem dX0_pumped_8 : decode cX0_pumped 8 = .ok (.iload_n 2, 1) := by decide +kernel
theorem dX0_pumped_9 : decode cX0_pumped 9 = .ok (.iconst 3, 1) := by decide +kernel
theorem dX0_pumped_10 : decode cX0_pumped 10 = .ok (.invokestatic 58, 3) := by decide +kernel
theorem dX0_pumped_13 : decode cX0_pumped 13 = .ok (.aload_n 0, 1) := by decide +kernel
theorem dX0_pumped_14 : decode cX0_pumped 14 = .ok (.iload_n 1, 1) := by decide +kernel
theorem dX0_pumped_15 : decode cX0_pumped 15 = .ok (.iload_n 2, 1) := by decide +kernel
theorem dX0_pumped_16 : decode cX0_pumped 16 = .ok (.invokevirtual 68, 3) := by decide +kernel
theorem dX0_pumped_19 : decode cX0_pumped 19 = .ok (.ireturn, 1) := by decide +kernel
set_option maxRecDepth 20000 in
theorem ggX0_beyond_X0_needIndex : GoodIn wsX0_beyond wsX0_needIndex := goodIn_ca (goodIn_r _ [10, 11, 12] (by decide +kernel) (by decide +kernel)) (goodIn_sub (fun _ h => List.mem_cons_of_mem _ (List.mem_append_right _ h)) (by decide +kernel))
set_option maxRecDepth 20000 in
theorem gX0_beyond_X0_needIndex : GoodIn wsX0_beyond (va_wsS RX0 58 yX0_needIndex wsX0_needIndex) := goodIn_app (goodIn_of _ (by decide +kernel)) ggX0_beyond_X0_needIndex
set_option maxRecDepth 20000 in
theorem ggX0_beyond_X0_unitsOfYear : GoodIn wsX0_beyond wsX0_unitsOfYear := goodIn_r _ [16, 17, 18, 19, 20, 21, 22, 23, 24, 25, 26, 27, 28, 29] (by decide +kernel) (by decide +kernel)
set_option maxRecDepth 20000 in
theorem gX0_beyond_X0_unitsOfYear : GoodIn wsX0_beyond (wsV RX0 68 RX0 yX0_unitsOfYear wsX0_unitsOfYear) := goodIn_app (goodIn_of _ (by decide +kernel)) ggX0_beyond_X0_unitsOfYear
theorem dX0_beyond_0 : decode cX0_beyond 0 = .ok (.iload_n 1, 1) := by decide +kernel
theorem dX0_beyond_1 : decode cX0_beyond 1 = .ok (.iconst 3, 1) := by decide +kernel
theorem dX0_beyond_2 : decode cX0_beyond 2 = .ok (.invokestatic 58, 3) := by decide +kernel
theorem dX0_beyond_5 : decode cX0_beyond 5 = .ok (.iconst 0, 1) := by decide +kernel
theorem dX0_beyond_6 : decode cX0_beyond 6 = .ok (.istore_n 2, 1) := by decide +kernel
theorem dX0_beyond_7 : decode cX0_beyond 7 = .ok (.iconst 0, 1) := by decide +kernel
theorem dX0_beyond_8 : decode cX0_beyond 8 = .ok (.istore_n 3, 1) := by decide +kernel
theorem dX0_beyond_9 : decode cX0_beyond 9 = .ok (.iload_n 3, 1) := by decide +kernel
theorem dX0_beyond_10 : decode cX0_beyond 10 = .ok (.aload_n 0, 1) := by decide +kernel
theorem dX0_beyond_11 : decode cX0_beyond 11 = .ok (.getfield 47, 3) := by decide +kernel
theorem dX0_beyond_14 : decode cX0_beyond 14 = .ok (.if_icmp .ge 29, 3) := by decide +kernel
theorem dX0_beyond_17 : decode cX0_beyond 17 = .ok (.iload_n 2, 1) := by decide +kernel
theorem dX0_beyond_18 : decode cX0_beyond 18 = .ok (.iconst 0, 1) := by decide +kernel
theorem dX0_beyond_19 : decode cX0_beyond 19 = .ok (.aload_n 0, 1) := by decide +kernel
theorem dX0_beyond_20 : decode cX0_beyond 20 = .ok (.iload_n 3, 1) := by decide +kernel
theorem dX0_beyond_21 : decode cX0_beyond 21 = .ok (.iload_n 1, 1) := by decide +kernel
theorem dX0_beyond_22 : decode cX0_beyond 22 = .ok (.invokevirtual 68, 3) := by decide +kernel
theorem dX0_beyond_25 : decode cX0_beyond 25 = .ok (.aload_n 0, 1) := by decide +kernel
theorem dX0_beyond_26 : decode cX0_beyond 26 = .ok (.getfield 16, 3) := by decide +kernel
theorem dX0_beyond_29 : decode cX0_beyond 29 = .ok (.iload_n 3, 1) := by decide +kernel
theorem dX0_beyond_30 : decode cX0_beyond 30 = .ok (.iaload, 1) := by decide +kernel
theorem dX0_beyond_31 : decode cX0_beyond 31 = .ok (.isub, 1) := by decide +kernel
theorem dX0_beyond_32 : decode cX0_beyond 32 = .ok (.invokestatic 71, 3) := by decide +kernel
theorem dX0_beyond_35 : decode cX0_beyond 35 = .ok (.iadd, 1) := by decide +kernel
theorem dX0_beyond_36 : decode cX0_beyond 36 = .ok (.istore_n 2, 1) := by decide +kernel
theorem dX0_beyond_37 : decode cX0_beyond 37 = .ok (.iinc 3 1, 3) := by decide +kernel
theorem dX0_beyond_40 : decode cX0_beyond 40 = .ok (.goto (-31), 3) := by decide +kernel
theorem dX0_beyond_43 : decode cX0_beyond 43 = .ok (.iload_n 2, 1) := by decide +kernel
theorem dX0_beyond_44 : decode cX0_beyond 44 = .ok (.ireturn, 1) := by decide +kernel
set_option maxRecDepth 20000 in
theorem ggX0_drawdown_X0_needIndex : GoodIn wsX0_drawdown wsX0_needIndex := goodIn_ca (goodIn_r _ [5, 6, 7] (by decide +kernel) (by decide +kernel)) (goodIn_sub (fun _ h => List.mem_cons_of_mem _ (List.mem_append_right _ h)) (by decide +kernel))
set_option maxRecDepth 20000 in
theorem gX0_drawdown_X0_needIndex : GoodIn wsX0_drawdown (va_wsS RX0 58 yX0_needIndex wsX0_needIndex) := goodIn_app (goodIn_of _ (by decide +kernel)) ggX0_drawdown_X0_needIndex
set_option maxRecDepth 20000 in
theorem ggX0_drawdown_X0_loweredIn : GoodIn wsX0_drawdown wsX0_loweredIn := goodIn_r _ [11, 12, 13, 14, 15, 16, 4, 17, 18, 19, 20, 21, 22, 23, 24, 25, 26, 27, 28, 29, 30, 31, 32, 33, 34, 35, 36, 37, 38, 39, 40] (by decide +kernel) (by decide +kernel)
set_option maxRecDepth 20000 in
theorem gX0_drawdown_X0_loweredIn : GoodIn wsX0_drawdown (wsV RX0 74 RX0 yX0_loweredIn wsX0_loweredIn) := goodIn_app (goodIn_of _ (by decide +kernel)) ggX0_drawdown_X0_loweredIn
theorem dX0_drawdown_0 : decode cX0_drawdown 0 = .ok (.iload_n 1, 1) := by decide +kernel
theorem dX0_drawdown_1 : decode cX0_drawdown 1 = .ok (.aload_n 0, 1) := by decide +kernel
theorem dX0_drawdown_2 : decode cX0_drawdown 2 = .ok (.getfield 55, 3) := by decide +kernel
theorem dX0_drawdown_5 : decode cX0_drawdown 5 = .ok (.invokestatic 58, 3) := by decide +kernel
theorem dX0_drawdown_8 : decode cX0_drawdown 8 = .ok (.iload_n 2, 1) := by decide +kernel
theorem dX0_drawdown_9 : decode cX0_drawdown 9 = .ok (.bipush 36, 2) := by decide +kernel
theorem dX0_drawdown_11 : decode cX0_drawdown 11 = .ok (.invokestatic 58, 3) := by decide +kernel
theorem dX0_drawdown_14 : decode cX0_drawdown 14 = .ok (.aload_n 0, 1) := by decide +kernel
theorem dX0_drawdown_15 : decode cX0_drawdown 15 = .ok (.iload_n 1, 1) := by decide +kernel
theorem dX0_drawdown_16 : decode cX0_drawdown 16 = .ok (.iload_n 2, 1) := by decide +kernel
theorem dX0_drawdown_17 : decode cX0_drawdown 17 = .ok (.invokevirtual 74, 3) := by decide +kernel
theorem dX0_drawdown_20 : decode cX0_drawdown 20 = .ok (.lreturn, 1) := by decide +kernel
set_option maxRecDepth 20000 in
theorem ggX0_drawdownByPulses_X0_needIndex : GoodIn wsX0_drawdownByPulses wsX0_needIndex := goodIn_ca (goodIn_r _ [8, 9, 10] (by decide +kernel) (by decide +kernel)) (goodIn_sub (fun _ h => List.mem_cons_of_mem _ (List.mem_append_right _ h)) (by decide +kernel))
set_option maxRecDepth 20000 in
theorem gX0_drawdownByPulses_X0_needIndex : GoodIn wsX0_drawdownByPulses (va_wsS RX0 58 yX0_needIndex wsX0_needIndex) := goodIn_app (goodIn_of _ (by decide +kernel)) ggX0_drawdownByPulses_X0_needIndex
set_option maxRecDepth 20000 in
theorem ggX0_drawdownByPulses_X0_reachOf : GoodIn wsX0_drawdownByPulses wsX0_reachOf := goodIn_r _ [14, 15, 16, 17, 18, 19, 20, 30, 31, 32, 33, 34, 35, 36, 37, 38, 39, 40, 41] (by decide +kernel) (by decide +kernel)
set_option maxRecDepth 20000 in
theorem gX0_drawdownByPulses_X0_reachOf : GoodIn wsX0_drawdownByPulses (wsV RX0 78 RX0 yX0_reachOf wsX0_reachOf) := goodIn_app (goodIn_of _ (by decide +kernel)) ggX0_drawdownByPulses_X0_reachOf
set_option maxRecDepth 20000 in
theorem ggX0_drawdownByPulses_X0_layPulse : GoodIn wsX0_drawdownByPulses wsX0_layPulse := goodIn_r _ [24, 2, 25, 26, 27, 7, 28, 29, 30, 31, 32, 33, 34, 35, 36, 37, 38, 39, 40, 41] (by decide +kernel) (by decide +kernel)
set_option maxRecDepth 20000 in
theorem gX0_drawdownByPulses_X0_layPulse : GoodIn wsX0_drawdownByPulses (wsV RX0 81 RX0 yX0_layPulse wsX0_layPulse) := goodIn_app (goodIn_of _ (by decide +kernel)) ggX0_drawdownByPulses_X0_layPulse
theorem dX0_drawdownByPulses_0 : decode cX0_drawdownByPulses 0 = .ok (.iload_n 1, 1) := by decide +kernel
theorem dX0_drawdownByPulses_1 : decode cX0_drawdownByPulses 1 = .ok (.aload_n 0, 1) := by decide +kernel
theorem dX0_drawdownByPulses_2 : decode cX0_drawdownByPulses 2 = .ok (.getfield 55, 3) := by decide +kernel
theorem dX0_drawdownByPulses_5 : decode cX0_drawdownByPulses 5 = .ok (.invokestatic 58, 3) := by decide +kernel
theorem dX0_drawdownByPulses_8 : decode cX0_drawdownByPulses 8 = .ok (.iload_n 2, 1) := by decide +kernel
theorem dX0_drawdownByPulses_9 : decode cX0_drawdownByPulses 9 = .ok (.bipush 36, 2) := by decide +kernel
theorem dX0_drawdownByPulses_11 : decode cX0_drawdownByPulses 11 = .ok (.invokestatic 58, 3) := by decide +kernel
theorem dX0_drawdownByPulses_14 : decode cX0_drawdownByPulses 14 = .ok (.iconst 0, 1) := by decide +kernel
theorem dX0_drawdownByPulses_15 : decode cX0_drawdownByPulses 15 = .ok (.istore_n 3, 1) := by decide +kernel
theorem dX0_drawdownByPulses_16 : decode cX0_drawdownByPulses 16 = .ok (.iload_n 3, 1) := by decide +kernel
theorem dX0_drawdownByPulses_17 : decode cX0_drawdownByPulses 17 = .ok (.bipush 36, 2) := by decide +kernel
theorem dX0_drawdownByPulses_19 : decode cX0_drawdownByPulses 19 = .ok (.if_icmp .ge 16, 3) := by decide +kernel
theorem dX0_drawdownByPulses_22 : decode cX0_drawdownByPulses 22 = .ok (.aload_n 0, 1) := by decide +kernel
theorem dX0_drawdownByPulses_23 : decode cX0_drawdownByPulses 23 = .ok (.getfield 39, 3) := by decide +kernel
theorem dX0_drawdownByPulses_26 : decode cX0_drawdownByPulses 26 = .ok (.iload_n 3, 1) := by decide +kernel
theorem dX0_drawdownByPulses_27 : decode cX0_drawdownByPulses 27 = .ok (.lconst 0, 1) := by decide +kernel
theorem dX0_drawdownByPulses_28 : decode cX0_drawdownByPulses 28 = .ok (.lastore, 1) := by decide +kernel
theorem dX0_drawdownByPulses_29 : decode cX0_drawdownByPulses 29 = .ok (.iinc 3 1, 3) := by decide +kernel
theorem dX0_drawdownByPulses_32 : decode cX0_drawdownByPulses 32 = .ok (.goto (-16), 3) := by decide +kernel
theorem dX0_drawdownByPulses_35 : decode cX0_drawdownByPulses 35 = .ok (.iconst 0, 1) := by decide +kernel
theorem dX0_drawdownByPulses_36 : decode cX0_drawdownByPulses 36 = .ok (.istore_n 3, 1) := by decide +kernel
theorem dX0_drawdownByPulses_37 : decode cX0_drawdownByPulses 37 = .ok (.iload_n 3, 1) := by decide +kernel
theorem dX0_drawdownByPulses_38 : decode cX0_drawdownByPulses 38 = .ok (.aload_n 0, 1) := by decide +kernel
theorem dX0_drawdownByPulses_39 : decode cX0_drawdownByPulses 39 = .ok (.getfield 47, 3) := by decide +kernel
theorem dX0_drawdownByPulses_42 : decode cX0_drawdownByPulses 42 = .ok (.if_icmp .ge 46, 3) := by decide +kernel
theorem dX0_drawdownByPulses_45 : decode cX0_drawdownByPulses 45 = .ok (.iconst 0, 1) := by decide +kernel
theorem dX0_drawdownByPulses_46 : decode cX0_drawdownByPulses 46 = .ok (.istore 4, 2) := by decide +kernel
theorem dX0_drawdownByPulses_48 : decode cX0_drawdownByPulses 48 = .ok (.iload 4, 2) := by decide +kernel
theorem dX0_drawdownByPulses_50 : decode cX0_drawdownByPulses 50 = .ok (.bipush 36, 2) := by decide +kernel
theorem dX0_drawdownByPulses_52 : decode cX0_drawdownByPulses 52 = .ok (.if_icmp .ge 30, 3) := by decide +kernel
theorem dX0_drawdownByPulses_55 : decode cX0_drawdownByPulses 55 = .ok (.aload_n 0, 1) := by decide +kernel
theorem dX0_drawdownByPulses_56 : decode cX0_drawdownByPulses 56 = .ok (.aload_n 0, 1) := by decide +kernel
theorem dX0_drawdownByPulses_57 : decode cX0_drawdownByPulses 57 = .ok (.iload_n 3, 1) := by decide +kernel
theorem dX0_drawdownByPulses_58 : decode cX0_drawdownByPulses 58 = .ok (.iload_n 1, 1) := by decide +kernel
theorem dX0_drawdownByPulses_59 : decode cX0_drawdownByPulses 59 = .ok (.invokevirtual 78, 3) := by decide +kernel
theorem dX0_drawdownByPulses_62 : decode cX0_drawdownByPulses 62 = .ok (.iload 4, 2) := by decide +kernel
theorem dX0_drawdownByPulses_64 : decode cX0_drawdownByPulses 64 = .ok (.aload_n 0, 1) := by decide +kernel
theorem dX0_drawdownByPulses_65 : decode cX0_drawdownByPulses 65 = .ok (.getfield 21, 3) := by decide +kernel
theorem dX0_drawdownByPulses_68 : decode cX0_drawdownByPulses 68 = .ok (.iload_n 3, 1) := by decide +kernel
theorem dX0_drawdownByPulses_69 : decode cX0_drawdownByPulses 69 = .ok (.aaload, 1) := by decide +kernel
theorem dX0_drawdownByPulses_70 : decode cX0_drawdownByPulses 70 = .ok (.iload 4, 2) := by decide +kernel
theorem dX0_drawdownByPulses_72 : decode cX0_drawdownByPulses 72 = .ok (.iaload, 1) := by decide +kernel
theorem dX0_drawdownByPulses_73 : decode cX0_drawdownByPulses 73 = .ok (.invokevirtual 81, 3) := by decide +kernel
theorem dX0_drawdownByPulses_76 : decode cX0_drawdownByPulses 76 = .ok (.iinc 4 1, 3) := by decide +kernel
theorem dX0_drawdownByPulses_79 : decode cX0_drawdownByPulses 79 = .ok (.goto (-31), 3) := by decide +kernel
theorem dX0_drawdownByPulses_82 : decode cX0_drawdownByPulses 82 = .ok (.iinc 3 1, 3) := by decide +kernel
theorem dX0_drawdownByPulses_85 : decode cX0_drawdownByPulses 85 = .ok (.goto (-48), 3) := by decide +kernel
theorem dX0_drawdownByPulses_88 : decode cX0_drawdownByPulses 88 = .ok (.aload_n 0, 1) := by decide +kernel
theorem dX0_drawdownByPulses_89 : decode cX0_drawdownByPulses 89 = .ok (.getfield 39, 3) := by decide +kernel
theorem dX0_drawdownByPulses_92 : decode cX0_drawdownByPulses 92 = .ok (.iload_n 2, 1) := by decide +kernel
theorem dX0_drawdownByPulses_93 : decode cX0_drawdownByPulses 93 = .ok (.laload, 1) := by decide +kernel
theorem dX0_drawdownByPulses_94 : decode cX0_drawdownByPulses 94 = .ok (.lreturn, 1) := by decide +kernel
set_option maxRecDepth 20000 in
theorem ggX0_worstMonth_X0_needIndex : GoodIn wsX0_worstMonth wsX0_needIndex := goodIn_ca (goodIn_r _ [5, 6, 7] (by decide +kernel) (by decide +kernel)) (goodIn_sub (fun _ h => List.mem_cons_of_mem _ (List.mem_append_right _ h)) (by decide +kernel))
set_option maxRecDepth 20000 in
theorem gX0_worstMonth_X0_needIndex : GoodIn wsX0_worstMonth (va_wsS RX0 58 yX0_needIndex wsX0_needIndex) := goodIn_app (goodIn_of _ (by decide +kernel)) ggX0_worstMonth_X0_needIndex
set_option maxRecDepth 20000 in
theorem ggX0_worstMonth_X0_loweredIn : GoodIn wsX0_worstMonth wsX0_loweredIn := goodIn_r _ [11, 12, 13, 14, 15, 16, 4, 17, 18, 19, 20, 21, 22, 23, 24, 25, 26, 27, 28, 29, 30, 31, 32, 33, 34, 35, 36, 37, 38, 39, 40] (by decide +kernel) (by decide +kernel)
set_option maxRecDepth 20000 in
theorem gX0_worstMonth_X0_loweredIn : GoodIn wsX0_worstMonth (wsV RX0 74 RX0 yX0_loweredIn wsX0_loweredIn) := goodIn_app (goodIn_of _ (by decide +kernel)) ggX0_worstMonth_X0_loweredIn
theorem dX0_worstMonth_0 : decode cX0_worstMonth 0 = .ok (.iload_n 1, 1) := by decide +kernel
theorem dX0_worstMonth_1 : decode cX0_worstMonth 1 = .ok (.aload_n 0, 1) := by decide +kernel
theorem dX0_worstMonth_2 : decode cX0_worstMonth 2 = .ok (.getfield 55, 3) := by decide +kernel
theorem dX0_worstMonth_5 : decode cX0_worstMonth 5 = .ok (.invokestatic 58, 3) := by decide +kernel
theorem dX0_worstMonth_8 : decode cX0_worstMonth 8 = .ok (.iconst 0, 1) := by decide +kernel
theorem dX0_worstMonth_9 : decode cX0_worstMonth 9 = .ok (.istore_n 2, 1) := by decide +kernel
theorem dX0_worstMonth_10 : decode cX0_worstMonth 10 = .ok (.aload_n 0, 1) := by decide +kernel
theorem dX0_worstMonth_11 : decode cX0_worstMonth 11 = .ok (.iload_n 1, 1) := by decide +kernel
theorem dX0_worstMonth_12 : decode cX0_worstMonth 12 = .ok (.iconst 0, 1) := by decide +kernel
theorem dX0_worstMonth_13 : decode cX0_worstMonth 13 = .ok (.invokevirtual 74, 3) := by decide +kernel
theorem dX0_worstMonth_16 : decode cX0_worstMonth 16 = .ok (.lstore_n 3, 1) := by decide +kernel
theorem dX0_worstMonth_17 : decode cX0_worstMonth 17 = .ok (.iconst 1, 1) := by decide +kernel
theorem dX0_worstMonth_18 : decode cX0_worstMonth 18 = .ok (.istore 5, 2) := by decide +kernel
theorem dX0_worstMonth_20 : decode cX0_worstMonth 20 = .ok (.iload 5, 2) := by decide +kernel
theorem dX0_worstMonth_22 : decode cX0_worstMonth 22 = .ok (.bipush 36, 2) := by decide +kernel
theorem dX0_worstMonth_24 : decode cX0_worstMonth 24 = .ok (.if_icmp .ge 31, 3) := by decide +kernel
theorem dX0_worstMonth_27 : decode cX0_worstMonth 27 = .ok (.aload_n 0, 1) := by decide +kernel
theorem dX0_worstMonth_28 : decode cX0_worstMonth 28 = .ok (.iload_n 1, 1) := by decide +kernel
theorem dX0_worstMonth_29 : decode cX0_worstMonth 29 = .ok (.iload 5, 2) := by decide +kernel
theorem dX0_worstMonth_31 : decode cX0_worstMonth 31 = .ok (.invokevirtual 74, 3) := by decide +kernel
theorem dX0_worstMonth_34 : decode cX0_worstMonth 34 = .ok (.lstore 6, 2) := by decide +kernel
theorem dX0_worstMonth_36 : decode cX0_worstMonth 36 = .ok (.lload 6, 2) := by decide +kernel
theorem dX0_worstMonth_38 : decode cX0_worstMonth 38 = .ok (.lload_n 3, 1) := by decide +kernel
theorem dX0_worstMonth_39 : decode cX0_worstMonth 39 = .ok (.lcmp, 1) := by decide +kernel
theorem dX0_worstMonth_40 : decode cX0_worstMonth 40 = .ok (.ifCond .le 9, 3) := by decide +kernel
theorem dX0_worstMonth_43 : decode cX0_worstMonth 43 = .ok (.lload 6, 2) := by decide +kernel
theorem dX0_worstMonth_45 : decode cX0_worstMonth 45 = .ok (.lstore_n 3, 1) := by decide +kernel
theorem dX0_worstMonth_46 : decode cX0_worstMonth 46 = .ok (.iload 5, 2) := by decide +kernel
theorem dX0_worstMonth_48 : decode cX0_worstMonth 48 = .ok (.istore_n 2, 1) := by decide +kernel
theorem dX0_worstMonth_49 : decode cX0_worstMonth 49 = .ok (.iinc 5 1, 3) := by decide +kernel
theorem dX0_worstMonth_52 : decode cX0_worstMonth 52 = .ok (.goto (-32), 3) := by decide +kernel
theorem dX0_worstMonth_55 : decode cX0_worstMonth 55 = .ok (.iload_n 2, 1) := by decide +kernel
theorem dX0_worstMonth_56 : decode cX0_worstMonth 56 = .ok (.ireturn, 1) := by decide +kernel
set_option maxRecDepth 20000 in
theorem ggX0_over_X0_needIndex : GoodIn wsX0_over wsX0_needIndex := goodIn_ca (goodIn_r _ [5, 6, 7] (by decide +kernel) (by decide +kernel)) (goodIn_sub (fun _ h => List.mem_cons_of_mem _ (List.mem_append_right _ h)) (by decide +kernel))
set_option maxRecDepth 20000 in
theorem gX0_over_X0_needIndex : GoodIn wsX0_over (va_wsS RX0 58 yX0_needIndex wsX0_needIndex) := goodIn_app (goodIn_of _ (by decide +kernel)) ggX0_over_X0_needIndex
set_option maxRecDepth 20000 in
theorem ggX0_over_X0_thousandthsLeft : GoodIn wsX0_over wsX0_thousandthsLeft := goodIn_r _ [11, 12, 13, 14, 15, 16, 4, 17, 18, 19, 20, 21, 22, 23, 24, 25, 26, 27, 28, 29, 30, 31, 32, 33, 34, 35, 36, 37, 38, 39, 40, 41, 42, 43, 44, 45, 46] (by decide +kernel) (by decide +kernel)
set_option maxRecDepth 20000 in
theorem gX0_over_X0_thousandthsLeft : GoodIn wsX0_over (wsV RX0 84 RX0 yX0_thousandthsLeft wsX0_thousandthsLeft) := goodIn_app (goodIn_of _ (by decide +kernel)) ggX0_over_X0_thousandthsLeft
theorem dX0_over_0 : decode cX0_over 0 = .ok (.iload_n 1, 1) := by decide +kernel
theorem dX0_over_1 : decode cX0_over 1 = .ok (.aload_n 0, 1) := by decide +kernel
theorem dX0_over_2 : decode cX0_over 2 = .ok (.getfield 55, 3) := by decide +kernel
theorem dX0_over_5 : decode cX0_over 5 = .ok (.invokestatic 58, 3) := by decide +kernel
theorem dX0_over_8 : decode cX0_over 8 = .ok (.iconst 0, 1) := by decide +kernel
theorem dX0_over_9 : decode cX0_over 9 = .ok (.istore_n 2, 1) := by decide +kernel
theorem dX0_over_10 : decode cX0_over 10 = .ok (.iconst 0, 1) := by decide +kernel
theorem dX0_over_11 : decode cX0_over 11 = .ok (.istore_n 3, 1) := by decide +kernel
theorem dX0_over_12 : decode cX0_over 12 = .ok (.iload_n 3, 1) := by decide +kernel
theorem dX0_over_13 : decode cX0_over 13 = .ok (.bipush 36, 2) := by decide +kernel
theorem dX0_over_15 : decode cX0_over 15 = .ok (.if_icmp .ge 23, 3) := by decide +kernel
theorem dX0_over_18 : decode cX0_over 18 = .ok (.aload_n 0, 1) := by decide +kernel
theorem dX0_over_19 : decode cX0_over 19 = .ok (.iload_n 1, 1) := by decide +kernel
theorem dX0_over_20 : decode cX0_over 20 = .ok (.iload_n 3, 1) := by decide +kernel
theorem dX0_over_21 : decode cX0_over 21 = .ok (.invokevirtual 84, 3) := by decide +kernel
theorem dX0_over_24 : decode cX0_over 24 = .ok (.lconst 0, 1) := by decide +kernel
theorem dX0_over_25 : decode cX0_over 25 = .ok (.lcmp, 1) := by decide +kernel
theorem dX0_over_26 : decode cX0_over 26 = .ok (.ifCond .ge 6, 3) := by decide +kernel
theorem dX0_over_29 : decode cX0_over 29 = .ok (.iinc 2 1, 3) := by decide +kernel
theorem dX0_over_32 : decode cX0_over 32 = .ok (.iinc 3 1, 3) := by decide +kernel
theorem dX0_over_35 : decode cX0_over 35 = .ok (.goto (-23), 3) := by decide +kernel
theorem dX0_over_38 : decode cX0_over 38 = .ok (.iload_n 2, 1) := by decide +kernel
theorem dX0_over_39 : decode cX0_over 39 = .ok (.ireturn, 1) := by decide +kernel
set_option maxRecDepth 20000 in
theorem ggX0_headroom_X0_needIndex : GoodIn wsX0_headroom wsX0_needIndex := goodIn_ca (goodIn_r _ [11, 12, 13] (by decide +kernel) (by decide +kernel)) (goodIn_sub (fun _ h => List.mem_cons_of_mem _ (List.mem_append_right _ h)) (by decide +kernel))
set_option maxRecDepth 20000 in
theorem gX0_headroom_X0_needIndex : GoodIn wsX0_headroom (va_wsS RX0 58 yX0_needIndex wsX0_needIndex) := goodIn_app (goodIn_of _ (by decide +kernel)) ggX0_headroom_X0_needIndex
set_option maxRecDepth 20000 in
theorem ggX0_headroom_X0_reachOf : GoodIn wsX0_headroom wsX0_reachOf := goodIn_r _ [17, 18, 19, 20, 21, 6, 22, 45, 46, 47, 48, 49, 50, 51, 52, 53, 54, 55, 56] (by decide +kernel) (by decide +kernel)
set_option maxRecDepth 20000 in
theorem gX0_headroom_X0_reachOf : GoodIn wsX0_headroom (wsV RX0 78 RX0 yX0_reachOf wsX0_reachOf) := goodIn_app (goodIn_of _ (by decide +kernel)) ggX0_headroom_X0_reachOf
set_option maxRecDepth 20000 in
theorem ggX0_headroom_X0_unitsLeft : GoodIn wsX0_headroom wsX0_unitsLeft := goodIn_r _ [26, 27, 28, 29, 6, 30, 4, 5, 7, 31, 32, 33, 10, 34, 35, 36, 37, 38, 39, 40, 41, 42, 43, 44, 1, 2, 14, 15, 16, 17, 18, 19, 20, 21, 22, 45, 46, 47, 48, 49, 50, 51, 52, 53, 54, 55, 56] (by decide +kernel) (by decide +kernel)
set_option maxRecDepth 20000 in
theorem gX0_headroom_X0_unitsLeft : GoodIn wsX0_headroom (wsV RX0 87 RX0 yX0_unitsLeft wsX0_unitsLeft) := goodIn_app (goodIn_of _ (by decide +kernel)) ggX0_headroom_X0_unitsLeft
theorem dX0_headroom_0 : decode cX0_headroom 0 = .ok (.iload_n 1, 1) := by decide +kernel
theorem dX0_headroom_1 : decode cX0_headroom 1 = .ok (.aload_n 0, 1) := by decide +kernel
theorem dX0_headroom_2 : decode cX0_headroom 2 = .ok (.getfield 47, 3) := by decide +kernel
theorem dX0_headroom_5 : decode cX0_headroom 5 = .ok (.invokestatic 58, 3) := by decide +kernel
theorem dX0_headroom_8 : decode cX0_headroom 8 = .ok (.iload_n 2, 1) := by decide +kernel
theorem dX0_headroom_9 : decode cX0_headroom 9 = .ok (.bipush 36, 2) := by decide +kernel
theorem dX0_headroom_11 : decode cX0_headroom 11 = .ok (.invokestatic 58, 3) := by decide +kernel
theorem dX0_headroom_14 : decode cX0_headroom 14 = .ok (.sipush 1000, 3) := by decide +kernel
theorem dX0_headroom_17 : decode cX0_headroom 17 = .ok (.aload_n 0, 1) := by decide +kernel
theorem dX0_headroom_18 : decode cX0_headroom 18 = .ok (.getfield 21, 3) := by decide +kernel
theorem dX0_headroom_21 : decode cX0_headroom 21 = .ok (.iload_n 1, 1) := by decide +kernel
theorem dX0_headroom_22 : decode cX0_headroom 22 = .ok (.aaload, 1) := by decide +kernel
theorem dX0_headroom_23 : decode cX0_headroom 23 = .ok (.iload_n 2, 1) := by decide +kernel
theorem dX0_headroom_24 : decode cX0_headroom 24 = .ok (.iaload, 1) := by decide +kernel
theorem dX0_headroom_25 : decode cX0_headroom 25 = .ok (.isub, 1) := by decide +kernel
theorem dX0_headroom_26 : decode cX0_headroom 26 = .ok (.i2l, 1) := by decide +kernel
theorem dX0_headroom_27 : decode cX0_headroom 27 = .ok (.lstore_n 3, 1) := by decide +kernel
theorem dX0_headroom_28 : decode cX0_headroom 28 = .ok (.iconst 0, 1) := by decide +kernel
theorem dX0_headroom_29 : decode cX0_headroom 29 = .ok (.istore 5, 2) := by decide +kernel
theorem dX0_headroom_31 : decode cX0_headroom 31 = .ok (.iload 5, 2) := by decide +kernel
theorem dX0_headroom_33 : decode cX0_headroom 33 = .ok (.aload_n 0, 1) := by decide +kernel
theorem dX0_headroom_34 : decode cX0_headroom 34 = .ok (.getfield 55, 3) := by decide +kernel
theorem dX0_headroom_37 : decode cX0_headroom 37 = .ok (.if_icmp .ge 28, 3) := by decide +kernel
theorem dX0_headroom_40 : decode cX0_headroom 40 = .ok (.lload_n 3, 1) := by decide +kernel
theorem dX0_headroom_41 : decode cX0_headroom 41 = .ok (.aload_n 0, 1) := by decide +kernel
theorem dX0_headroom_42 : decode cX0_headroom 42 = .ok (.iload 5, 2) := by decide +kernel
theorem dX0_headroom_44 : decode cX0_headroom 44 = .ok (.aload_n 0, 1) := by decide +kernel
theorem dX0_headroom_45 : decode cX0_headroom 45 = .ok (.iload_n 1, 1) := by decide +kernel
theorem dX0_headroom_46 : decode cX0_headroom 46 = .ok (.iload 5, 2) := by decide +kernel
theorem dX0_headroom_48 : decode cX0_headroom 48 = .ok (.invokevirtual 78, 3) := by decide +kernel
theorem dX0_headroom_51 : decode cX0_headroom 51 = .ok (.iload_n 2, 1) := by decide +kernel
theorem dX0_headroom_52 : decode cX0_headroom 52 = .ok (.invokevirtual 87, 3) := by decide +kernel
theorem dX0_headroom_55 : decode cX0_headroom 55 = .ok (.invokestatic 91, 3) := by decide +kernel
theorem dX0_headroom_58 : decode cX0_headroom 58 = .ok (.lstore_n 3, 1) := by decide +kernel
theorem dX0_headroom_59 : decode cX0_headroom 59 = .ok (.iinc 5 1, 3) := by decide +kernel
theorem dX0_headroom_62 : decode cX0_headroom 62 = .ok (.goto (-31), 3) := by decide +kernel
theorem dX0_headroom_65 : decode cX0_headroom 65 = .ok (.lload_n 3, 1) := by decide +kernel
theorem dX0_headroom_66 : decode cX0_headroom 66 = .ok (.l2i, 1) := by decide +kernel
theorem dX0_headroom_67 : decode cX0_headroom 67 = .ok (.ireturn, 1) := by decide +kernel
set_option maxRecDepth 20000 in
theorem ggX0_heaviest_X0_needIndex : GoodIn wsX0_heaviest wsX0_needIndex := goodIn_ca (goodIn_r _ [6, 7, 8] (by decide +kernel) (by decide +kernel)) (goodIn_sub (fun _ h => List.mem_cons_of_mem _ (List.mem_append_right _ h)) (by decide +kernel))
set_option maxRecDepth 20000 in
theorem gX0_heaviest_X0_needIndex : GoodIn wsX0_heaviest (va_wsS RX0 58 yX0_needIndex wsX0_needIndex) := goodIn_app (goodIn_of _ (by decide +kernel)) ggX0_heaviest_X0_needIndex
set_option maxRecDepth 20000 in
theorem ggX0_heaviest_X0_loweredInAll : GoodIn wsX0_heaviest wsX0_loweredInAll := goodIn_r _ [12, 13, 14, 15, 16, 5, 17, 18, 19, 20, 21, 22, 23, 24, 25, 26, 27, 28, 29, 30, 31, 32, 33, 34, 35, 36, 37, 38, 39, 40] (by decide +kernel) (by decide +kernel)
set_option maxRecDepth 20000 in
theorem gX0_heaviest_X0_loweredInAll : GoodIn wsX0_heaviest (wsV RX0 94 RX0 yX0_loweredInAll wsX0_loweredInAll) := goodIn_app (goodIn_of _ (by decide +kernel)) ggX0_heaviest_X0_loweredInAll
theorem dX0_heaviest_0 : decode cX0_heaviest 0 = .ok (.iload_n 1, 1) := by decide +kernel
theorem dX0_heaviest_1 : decode cX0_heaviest 1 = .ok (.aload_n 0, 1) := by decide +kernel
theorem dX0_heaviest_2 : decode cX0_heaviest 2 = .ok (.getfield 55, 3) := by decide +kernel
theorem dX0_heaviest_5 : decode cX0_heaviest 5 = .ok (.invokestatic 58, 3) := by decide +kernel
theorem dX0_heaviest_8 : decode cX0_heaviest 8 = .ok (.iload_n 2, 1) := by decide +kernel
theorem dX0_heaviest_9 : decode cX0_heaviest 9 = .ok (.bipush 36, 2) := by decide +kernel
theorem dX0_heaviest_11 : decode cX0_heaviest 11 = .ok (.invokestatic 58, 3) := by decide +kernel
theorem dX0_heaviest_14 : decode cX0_heaviest 14 = .ok (.iconst (-1), 1) := by decide +kernel
theorem dX0_heaviest_15 : decode cX0_heaviest 15 = .ok (.istore_n 3, 1) := by decide +kernel
theorem dX0_heaviest_16 : decode cX0_heaviest 16 = .ok (.lconst 0, 1) := by decide +kernel
theorem dX0_heaviest_17 : decode cX0_heaviest 17 = .ok (.lstore 4, 2) := by decide +kernel
theorem dX0_heaviest_19 : decode cX0_heaviest 19 = .ok (.iconst 0, 1) := by decide +kernel
theorem dX0_heaviest_20 : decode cX0_heaviest 20 = .ok (.istore 6, 2) := by decide +kernel
theorem dX0_heaviest_22 : decode cX0_heaviest 22 = .ok (.iload 6, 2) := by decide +kernel
theorem dX0_heaviest_24 : decode cX0_heaviest 24 = .ok (.aload_n 0, 1) := by decide +kernel
theorem dX0_heaviest_25 : decode cX0_heaviest 25 = .ok (.getfield 47, 3) := by decide +kernel
theorem dX0_heaviest_28 : decode cX0_heaviest 28 = .ok (.if_icmp .ge 34, 3) := by decide +kernel
theorem dX0_heaviest_31 : decode cX0_heaviest 31 = .ok (.aload_n 0, 1) := by decide +kernel
theorem dX0_heaviest_32 : decode cX0_heaviest 32 = .ok (.iload 6, 2) := by decide +kernel
theorem dX0_heaviest_34 : decode cX0_heaviest 34 = .ok (.iload_n 1, 1) := by decide +kernel
theorem dX0_heaviest_35 : decode cX0_heaviest 35 = .ok (.iload_n 2, 1) := by decide +kernel
theorem dX0_heaviest_36 : decode cX0_heaviest 36 = .ok (.invokevirtual 94, 3) := by decide +kernel
theorem dX0_heaviest_39 : decode cX0_heaviest 39 = .ok (.lstore 7, 2) := by decide +kernel
theorem dX0_heaviest_41 : decode cX0_heaviest 41 = .ok (.lload 7, 2) := by decide +kernel
theorem dX0_heaviest_43 : decode cX0_heaviest 43 = .ok (.lload 4, 2) := by decide +kernel
theorem dX0_heaviest_45 : decode cX0_heaviest 45 = .ok (.lcmp, 1) := by decide +kernel
theorem dX0_heaviest_46 : decode cX0_heaviest 46 = .ok (.ifCond .le 10, 3) := by decide +kernel
theorem dX0_heaviest_49 : decode cX0_heaviest 49 = .ok (.lload 7, 2) := by decide +kernel
theorem dX0_heaviest_51 : decode cX0_heaviest 51 = .ok (.lstore 4, 2) := by decide +kernel
theorem dX0_heaviest_53 : decode cX0_heaviest 53 = .ok (.iload 6, 2) := by decide +kernel
theorem dX0_heaviest_55 : decode cX0_heaviest 55 = .ok (.istore_n 3, 1) := by decide +kernel
theorem dX0_heaviest_56 : decode cX0_heaviest 56 = .ok (.iinc 6 1, 3) := by decide +kernel
theorem dX0_heaviest_59 : decode cX0_heaviest 59 = .ok (.goto (-37), 3) := by decide +kernel
theorem dX0_heaviest_62 : decode cX0_heaviest 62 = .ok (.iload_n 3, 1) := by decide +kernel
theorem dX0_heaviest_63 : decode cX0_heaviest 63 = .ok (.ireturn, 1) := by decide +kernel
set_option maxRecDepth 20000 in
theorem ggX0_taken_X0_needIndex : GoodIn wsX0_taken wsX0_needIndex := goodIn_ca (goodIn_r _ [5, 6, 7] (by decide +kernel) (by decide +kernel)) (goodIn_sub (fun _ h => List.mem_cons_of_mem _ (List.mem_append_right _ h)) (by decide +kernel))
set_option maxRecDepth 20000 in
theorem gX0_taken_X0_needIndex : GoodIn wsX0_taken (va_wsS RX0 58 yX0_needIndex wsX0_needIndex) := goodIn_app (goodIn_of _ (by decide +kernel)) ggX0_taken_X0_needIndex
set_option maxRecDepth 20000 in
theorem ggX0_taken_X0_takenOfMonthsBefore : GoodIn wsX0_taken wsX0_takenOfMonthsBefore := goodIn_r _ [11, 12, 13, 14, 15, 4, 16, 17, 18, 19, 20, 21, 22, 23, 24, 25, 26, 27, 28] (by decide +kernel) (by decide +kernel)
set_option maxRecDepth 20000 in
theorem gX0_taken_X0_takenOfMonthsBefore : GoodIn wsX0_taken (wsV RX0 97 RX0 yX0_takenOfMonthsBefore wsX0_takenOfMonthsBefore) := goodIn_app (goodIn_of _ (by decide +kernel)) ggX0_taken_X0_takenOfMonthsBefore
theorem dX0_taken_0 : decode cX0_taken 0 = .ok (.iload_n 1, 1) := by decide +kernel
theorem dX0_taken_1 : decode cX0_taken 1 = .ok (.iconst 3, 1) := by decide +kernel
theorem dX0_taken_2 : decode cX0_taken 2 = .ok (.invokestatic 58, 3) := by decide +kernel
theorem dX0_taken_5 : decode cX0_taken 5 = .ok (.iconst 0, 1) := by decide +kernel
theorem dX0_taken_6 : decode cX0_taken 6 = .ok (.istore_n 2, 1) := by decide +kernel
theorem dX0_taken_7 : decode cX0_taken 7 = .ok (.iconst 0, 1) := by decide +kernel
theorem dX0_taken_8 : decode cX0_taken 8 = .ok (.istore_n 3, 1) := by decide +kernel
theorem dX0_taken_9 : decode cX0_taken 9 = .ok (.iload_n 3, 1) := by decide +kernel
theorem dX0_taken_10 : decode cX0_taken 10 = .ok (.aload_n 0, 1) := by decide +kernel
theorem dX0_taken_11 : decode cX0_taken 11 = .ok (.getfield 47, 3) := by decide +kernel
theorem dX0_taken_14 : decode cX0_taken 14 = .ok (.if_icmp .ge 20, 3) := by decide +kernel
theorem dX0_taken_17 : decode cX0_taken 17 = .ok (.iload_n 2, 1) := by decide +kernel
theorem dX0_taken_18 : decode cX0_taken 18 = .ok (.aload_n 0, 1) := by decide +kernel
theorem dX0_taken_19 : decode cX0_taken 19 = .ok (.iload_n 3, 1) := by decide +kernel
theorem dX0_taken_20 : decode cX0_taken 20 = .ok (.bipush 36, 2) := by decide +kernel
theorem dX0_taken_22 : decode cX0_taken 22 = .ok (.iload_n 1, 1) := by decide +kernel
theorem dX0_taken_23 : decode cX0_taken 23 = .ok (.invokevirtual 97, 3) := by decide +kernel
theorem dX0_taken_26 : decode cX0_taken 26 = .ok (.iadd, 1) := by decide +kernel
theorem dX0_taken_27 : decode cX0_taken 27 = .ok (.istore_n 2, 1) := by decide +kernel
theorem dX0_taken_28 : decode cX0_taken 28 = .ok (.iinc 3 1, 3) := by decide +kernel
theorem dX0_taken_31 : decode cX0_taken 31 = .ok (.goto (-22), 3) := by decide +kernel
theorem dX0_taken_34 : decode cX0_taken 34 = .ok (.iload_n 2, 1) := by decide +kernel
theorem dX0_taken_35 : decode cX0_taken 35 = .ok (.ireturn, 1) := by decide +kernel
set_option maxRecDepth 20000 in
theorem ggX0_takenLate_X0_needIndex : GoodIn wsX0_takenLate wsX0_needIndex := goodIn_ca (goodIn_r _ [5, 6, 7] (by decide +kernel) (by decide +kernel)) (goodIn_sub (fun _ h => List.mem_cons_of_mem _ (List.mem_append_right _ h)) (by decide +kernel))
set_option maxRecDepth 20000 in
theorem gX0_takenLate_X0_needIndex : GoodIn wsX0_takenLate (va_wsS RX0 58 yX0_needIndex wsX0_needIndex) := goodIn_app (goodIn_of _ (by decide +kernel)) ggX0_takenLate_X0_needIndex
set_option maxRecDepth 20000 in
theorem ggX0_takenLate_X0_takenOfMonthsBefore : GoodIn wsX0_takenLate wsX0_takenOfMonthsBefore := goodIn_r _ [11, 12, 13, 14, 15, 4, 16, 17, 18, 19, 20, 21, 22, 23, 24, 25, 26, 27, 28] (by decide +kernel) (by decide +kernel)
set_option maxRecDepth 20000 in
theorem gX0_takenLate_X0_takenOfMonthsBefore : GoodIn wsX0_takenLate (wsV RX0 97 RX0 yX0_takenOfMonthsBefore wsX0_takenOfMonthsBefore) := goodIn_app (goodIn_of _ (by decide +kernel)) ggX0_takenLate_X0_takenOfMonthsBefore
theorem dX0_takenLate_0 : decode cX0_takenLate 0 = .ok (.iload_n 1, 1) := by decide +kernel
theorem dX0_takenLate_1 : decode cX0_takenLate 1 = .ok (.aload_n 0, 1) := by decide +kernel
theorem dX0_takenLate_2 : decode cX0_takenLate 2 = .ok (.getfield 47, 3) := by decide +kernel
theorem dX0_takenLate_5 : decode cX0_takenLate 5 = .ok (.invokestatic 58, 3) := by decide +kernel
theorem dX0_takenLate_8 : decode cX0_takenLate 8 = .ok (.iload_n 2, 1) := by decide +kernel
theorem dX0_takenLate_9 : decode cX0_takenLate 9 = .ok (.iconst 3, 1) := by decide +kernel
theorem dX0_takenLate_10 : decode cX0_takenLate 10 = .ok (.invokestatic 58, 3) := by decide +kernel
theorem dX0_takenLate_13 : decode cX0_takenLate 13 = .ok (.aload_n 0, 1) := by decide +kernel
theorem dX0_takenLate_14 : decode cX0_takenLate 14 = .ok (.iload_n 1, 1) := by decide +kernel
theorem dX0_takenLate_15 : decode cX0_takenLate 15 = .ok (.iload_n 2, 1) := by decide +kernel
theorem dX0_takenLate_16 : decode cX0_takenLate 16 = .ok (.bipush 12, 2) := by decide +kernel
theorem dX0_takenLate_18 : decode cX0_takenLate 18 = .ok (.imul, 1) := by decide +kernel
theorem dX0_takenLate_19 : decode cX0_takenLate 19 = .ok (.iload_n 2, 1) := by decide +kernel
theorem dX0_takenLate_20 : decode cX0_takenLate 20 = .ok (.invokevirtual 97, 3) := by decide +kernel
theorem dX0_takenLate_23 : decode cX0_takenLate 23 = .ok (.ireturn, 1) := by decide +kernel
set_option maxRecDepth 20000 in
theorem ggX0_licence_X0_needIndex : GoodIn wsX0_licence wsX0_needIndex := goodIn_ca (goodIn_r _ [6, 7, 8] (by decide +kernel) (by decide +kernel)) (goodIn_sub (fun _ h => List.mem_cons_of_mem _ (List.mem_append_right _ h)) (by decide +kernel))
set_option maxRecDepth 20000 in
theorem gX0_licence_X0_needIndex : GoodIn wsX0_licence (va_wsS RX0 58 yX0_needIndex wsX0_needIndex) := goodIn_app (goodIn_of _ (by decide +kernel)) ggX0_licence_X0_needIndex
theorem dX0_licence_0 : decode cX0_licence 0 = .ok (.iload_n 1, 1) := by decide +kernel
theorem dX0_licence_1 : decode cX0_licence 1 = .ok (.aload_n 0, 1) := by decide +kernel
theorem dX0_licence_2 : decode cX0_licence 2 = .ok (.getfield 47, 3) := by decide +kernel
theorem dX0_licence_5 : decode cX0_licence 5 = .ok (.invokestatic 58, 3) := by decide +kernel
theorem dX0_licence_8 : decode cX0_licence 8 = .ok (.aload_n 0, 1) := by decide +kernel
theorem dX0_licence_9 : decode cX0_licence 9 = .ok (.getfield 16, 3) := by decide +kernel
theorem dX0_licence_12 : decode cX0_licence 12 = .ok (.iload_n 1, 1) := by decide +kernel
theorem dX0_licence_13 : decode cX0_licence 13 = .ok (.iaload, 1) := by decide +kernel
theorem dX0_licence_14 : decode cX0_licence 14 = .ok (.ireturn, 1) := by decide +kernel
set_option maxRecDepth 20000 in
theorem ggX0_ratio_X0_needIndex : GoodIn wsX0_ratio wsX0_needIndex := goodIn_ca (goodIn_r _ [5, 6, 7] (by decide +kernel) (by decide +kernel)) (goodIn_sub (fun _ h => List.mem_cons_of_mem _ (List.mem_append_left _ (List.mem_append_right _ h))) (by decide +kernel))
set_option maxRecDepth 20000 in
theorem gX0_ratio_X0_needIndex : GoodIn wsX0_ratio (va_wsS RX0 58 yX0_needIndex wsX0_needIndex) := goodIn_app (goodIn_of _ (by decide +kernel)) ggX0_ratio_X0_needIndex
set_option maxRecDepth 20000 in
theorem ggX0_ratio_X0_needRange : GoodIn wsX0_ratio wsX0_needRange := goodIn_ca (goodIn_r _ [10, 11, 12] (by decide +kernel) (by decide +kernel)) (goodIn_sub (fun _ h => List.mem_cons_of_mem _ (List.mem_append_right _ h)) (by decide +kernel))
set_option maxRecDepth 20000 in
theorem gX0_ratio_X0_needRange : GoodIn wsX0_ratio (va_wsS RX0 43 yX0_needRange wsX0_needRange) := goodIn_app (goodIn_of _ (by decide +kernel)) ggX0_ratio_X0_needRange
theorem dX0_ratio_0 : decode cX0_ratio 0 = .ok (.iload_n 1, 1) := by decide +kernel
theorem dX0_ratio_1 : decode cX0_ratio 1 = .ok (.iconst 3, 1) := by decide +kernel
theorem dX0_ratio_2 : decode cX0_ratio 2 = .ok (.invokestatic 58, 3) := by decide +kernel
theorem dX0_ratio_5 : decode cX0_ratio 5 = .ok (.iload_n 2, 1) := by decide +kernel
theorem dX0_ratio_6 : decode cX0_ratio 6 = .ok (.iconst 3, 1) := by decide +kernel
theorem dX0_ratio_7 : decode cX0_ratio 7 = .ok (.invokestatic 58, 3) := by decide +kernel
theorem dX0_ratio_10 : decode cX0_ratio 10 = .ok (.iload_n 3, 1) := by decide +kernel
theorem dX0_ratio_11 : decode cX0_ratio 11 = .ok (.iconst 0, 1) := by decide +kernel
theorem dX0_ratio_12 : decode cX0_ratio 12 = .ok (.sipush 200, 3) := by decide +kernel
theorem dX0_ratio_15 : decode cX0_ratio 15 = .ok (.invokestatic 43, 3) := by decide +kernel
theorem dX0_ratio_18 : decode cX0_ratio 18 = .ok (.aload_n 0, 1) := by decide +kernel
theorem dX0_ratio_19 : decode cX0_ratio 19 = .ok (.getfield 36, 3) := by decide +kernel
theorem dX0_ratio_22 : decode cX0_ratio 22 = .ok (.iload_n 1, 1) := by decide +kernel
theorem dX0_ratio_23 : decode cX0_ratio 23 = .ok (.aaload, 1) := by decide +kernel
theorem dX0_ratio_24 : decode cX0_ratio 24 = .ok (.iload_n 2, 1) := by decide +kernel
theorem dX0_ratio_25 : decode cX0_ratio 25 = .ok (.iaload, 1) := by decide +kernel
theorem dX0_ratio_26 : decode cX0_ratio 26 = .ok (.istore 4, 2) := by decide +kernel
theorem dX0_ratio_28 : decode cX0_ratio 28 = .ok (.aload_n 0, 1) := by decide +kernel
theorem dX0_ratio_29 : decode cX0_ratio 29 = .ok (.getfield 36, 3) := by decide +kernel
theorem dX0_ratio_32 : decode cX0_ratio 32 = .ok (.iload_n 1, 1) := by decide +kernel
theorem dX0_ratio_33 : decode cX0_ratio 33 = .ok (.aaload, 1) := by decide +kernel
theorem dX0_ratio_34 : decode cX0_ratio 34 = .ok (.iload_n 2, 1) := by decide +kernel
theorem dX0_ratio_35 : decode cX0_ratio 35 = .ok (.iload_n 3, 1) := by decide +kernel
theorem dX0_ratio_36 : decode cX0_ratio 36 = .ok (.iastore, 1) := by decide +kernel
theorem dX0_ratio_37 : decode cX0_ratio 37 = .ok (.iload 4, 2) := by decide +kernel
theorem dX0_ratio_39 : decode cX0_ratio 39 = .ok (.ireturn, 1) := by decide +kernel
set_option maxRecDepth 20000 in
theorem ggX0_burden_X0_needIndex : GoodIn wsX0_burden wsX0_needIndex := goodIn_ca (goodIn_r _ [7, 8, 9] (by decide +kernel) (by decide +kernel)) (goodIn_sub (fun _ h => List.mem_cons_of_mem _ (List.mem_append_right _ h)) (by decide +kernel))
set_option maxRecDepth 20000 in
theorem gX0_burden_X0_needIndex : GoodIn wsX0_burden (va_wsS RX0 58 yX0_needIndex wsX0_needIndex) := goodIn_app (goodIn_of _ (by decide +kernel)) ggX0_burden_X0_needIndex
set_option maxRecDepth 20000 in
theorem ggX0_burden_X0_burdenOfUnits : GoodIn wsX0_burden wsX0_burdenOfUnits := goodIn_r _ [13, 14, 15, 16, 17, 6, 18, 19, 20, 21, 22, 23, 24, 25, 26, 27, 28, 29, 30, 31, 32, 33, 34, 35, 36] (by decide +kernel) (by decide +kernel)
set_option maxRecDepth 20000 in
theorem gX0_burden_X0_burdenOfUnits : GoodIn wsX0_burden (wsV RX0 101 RX0 yX0_burdenOfUnits wsX0_burdenOfUnits) := goodIn_app (goodIn_of _ (by decide +kernel)) ggX0_burden_X0_burdenOfUnits
theorem dX0_burden_0 : decode cX0_burden 0 = .ok (.iload_n 1, 1) := by decide +kernel
theorem dX0_burden_1 : decode cX0_burden 1 = .ok (.aload_n 0, 1) := by decide +kernel
theorem dX0_burden_2 : decode cX0_burden 2 = .ok (.getfield 55, 3) := by decide +kernel
theorem dX0_burden_5 : decode cX0_burden 5 = .ok (.invokestatic 58, 3) := by decide +kernel
theorem dX0_burden_8 : decode cX0_burden 8 = .ok (.lconst 0, 1) := by decide +kernel
theorem dX0_burden_9 : decode cX0_burden 9 = .ok (.lstore_n 2, 1) := by decide +kernel
theorem dX0_burden_10 : decode cX0_burden 10 = .ok (.iconst 0, 1) := by decide +kernel
theorem dX0_burden_11 : decode cX0_burden 11 = .ok (.istore 4, 2) := by decide +kernel
theorem dX0_burden_13 : decode cX0_burden 13 = .ok (.iload 4, 2) := by decide +kernel
theorem dX0_burden_15 : decode cX0_burden 15 = .ok (.aload_n 0, 1) := by decide +kernel
theorem dX0_burden_16 : decode cX0_burden 16 = .ok (.getfield 47, 3) := by decide +kernel
theorem dX0_burden_19 : decode cX0_burden 19 = .ok (.if_icmp .ge 26, 3) := by decide +kernel
theorem dX0_burden_22 : decode cX0_burden 22 = .ok (.lload_n 2, 1) := by decide +kernel
theorem dX0_burden_23 : decode cX0_burden 23 = .ok (.aload_n 0, 1) := by decide +kernel
theorem dX0_burden_24 : decode cX0_burden 24 = .ok (.iload 4, 2) := by decide +kernel
theorem dX0_burden_26 : decode cX0_burden 26 = .ok (.iload_n 1, 1) := by decide +kernel
theorem dX0_burden_27 : decode cX0_burden 27 = .ok (.aload_n 0, 1) := by decide +kernel
theorem dX0_burden_28 : decode cX0_burden 28 = .ok (.getfield 16, 3) := by decide +kernel
theorem dX0_burden_31 : decode cX0_burden 31 = .ok (.iload 4, 2) := by decide +kernel
theorem dX0_burden_33 : decode cX0_burden 33 = .ok (.iaload, 1) := by decide +kernel
theorem dX0_burden_34 : decode cX0_burden 34 = .ok (.invokevirtual 101, 3) := by decide +kernel
theorem dX0_burden_37 : decode cX0_burden 37 = .ok (.ladd, 1) := by decide +kernel
theorem dX0_burden_38 : decode cX0_burden 38 = .ok (.lstore_n 2, 1) := by decide +kernel
theorem dX0_burden_39 : decode cX0_burden 39 = .ok (.iinc 4 1, 3) := by decide +kernel
theorem dX0_burden_42 : decode cX0_burden 42 = .ok (.goto (-29), 3) := by decide +kernel
theorem dX0_burden_45 : decode cX0_burden 45 = .ok (.lload_n 2, 1) := by decide +kernel
theorem dX0_burden_46 : decode cX0_burden 46 = .ok (.lreturn, 1) := by decide +kernel
set_option maxRecDepth 20000 in
theorem ggX0_trade_X0_needTwoWells : GoodIn wsX0_trade wsX0_needTwoWells := goodIn_ca (goodIn_ca (goodIn_r _ [6, 7, 8, 9, 10, 11, 5, 12, 13, 14, 49, 50, 51, 52, 53, 54, 55, 56, 57, 58, 59, 60] (by decide +kernel) (by decide +kernel)) (goodIn_sub (fun _ h => List.mem_cons_of_mem _ (List.mem_append_left _ (List.mem_append_left _ (List.mem_append_right _ h)))) (by decide +kernel))) (goodIn_sub (fun _ h => List.mem_cons_of_mem _ (List.mem_append_left _ (List.mem_append_right _ h))) (by decide +kernel))
set_option maxRecDepth 20000 in
theorem gX0_trade_X0_needTwoWells : GoodIn wsX0_trade (wsV RX0 104 RX0 yX0_needTwoWells wsX0_needTwoWells) := goodIn_app (goodIn_of _ (by decide +kernel)) ggX0_trade_X0_needTwoWells
set_option maxRecDepth 20000 in
theorem ggX0_trade_X0_needRange : GoodIn wsX0_trade wsX0_needRange := goodIn_ca (goodIn_r _ [17, 7, 8] (by decide +kernel) (by decide +kernel)) (goodIn_sub (fun _ h => List.mem_cons_of_mem _ (List.mem_append_left _ (List.mem_append_left _ (List.mem_append_right _ h)))) (by decide +kernel))
set_option maxRecDepth 20000 in
theorem gX0_trade_X0_needRange : GoodIn wsX0_trade (va_wsS RX0 43 yX0_needRange wsX0_needRange) := goodIn_app (goodIn_of _ (by decide +kernel)) ggX0_trade_X0_needRange
set_option maxRecDepth 20000 in
theorem ggX0_trade_X0_canTrade : GoodIn wsX0_trade wsX0_canTrade := goodIn_r _ [21, 1, 22, 23, 24, 25, 5, 26, 27, 28, 29, 30, 31, 32, 33, 34, 35, 36, 37, 38, 39, 40, 41, 42, 43, 49, 50, 51, 52, 53, 54, 55, 56, 57, 58, 59, 60] (by decide +kernel) (by decide +kernel)
set_option maxRecDepth 20000 in
theorem gX0_trade_X0_canTrade : GoodIn wsX0_trade (wsV RX0 107 RX0 yX0_canTrade wsX0_canTrade) := goodIn_app (goodIn_of _ (by decide +kernel)) ggX0_trade_X0_canTrade
set_option maxRecDepth 20000 in
theorem ggX0_trade_X0_needAllowed : GoodIn wsX0_trade wsX0_needAllowed := goodIn_ca (goodIn_r _ [46, 47, 48] (by decide +kernel) (by decide +kernel)) (goodIn_sub (fun _ h => List.mem_cons_of_mem _ (List.mem_append_right _ h)) (by decide +kernel))
set_option maxRecDepth 20000 in
theorem gX0_trade_X0_needAllowed : GoodIn wsX0_trade (va_wsS RX0 51 yX0_needAllowed wsX0_needAllowed) := goodIn_app (goodIn_of _ (by decide +kernel)) ggX0_trade_X0_needAllowed
set_option maxRecDepth 20000 in
theorem ggX0_trade_X0_unitsGot : GoodIn wsX0_trade wsX0_unitsGot := goodIn_r _ [26, 27, 28, 49, 50, 51, 52, 53, 54, 55, 56, 57, 58, 59, 60] (by decide +kernel) (by decide +kernel)
set_option maxRecDepth 20000 in
theorem gX0_trade_X0_unitsGot : GoodIn wsX0_trade (wsV RX0 111 RX0 yX0_unitsGot wsX0_unitsGot) := goodIn_app (goodIn_of _ (by decide +kernel)) ggX0_trade_X0_unitsGot
theorem dX0_trade_0 : decode cX0_trade 0 = .ok (.aload_n 0, 1) := by decide +kernel
theorem dX0_trade_1 : decode cX0_trade 1 = .ok (.iload_n 1, 1) := by decide +kernel
theorem dX0_trade_2 : decode cX0_trade 2 = .ok (.iload_n 2, 1) := by decide +kernel
theorem dX0_trade_3 : decode cX0_trade 3 = .ok (.invokevirtual 104, 3) := by decide +kernel
theorem dX0_trade_6 : decode cX0_trade 6 = .ok (.iload_n 3, 1) := by decide +kernel
theorem dX0_trade_7 : decode cX0_trade 7 = .ok (.iconst 1, 1) := by decide +kernel
theorem dX0_trade_8 : decode cX0_trade 8 = .ok (.sipush 5000, 3) := by decide +kernel
theorem dX0_trade_11 : decode cX0_trade 11 = .ok (.invokestatic 43, 3) := by decide +kernel
theorem dX0_trade_14 : decode cX0_trade 14 = .ok (.aload_n 0, 1) := by decide +kernel
theorem dX0_trade_15 : decode cX0_trade 15 = .ok (.iload_n 1, 1) := by decide +kernel
theorem dX0_trade_16 : decode cX0_trade 16 = .ok (.iload_n 2, 1) := by decide +kernel
theorem dX0_trade_17 : decode cX0_trade 17 = .ok (.iload_n 3, 1) := by decide +kernel
theorem dX0_trade_18 : decode cX0_trade 18 = .ok (.invokevirtual 107, 3) := by decide +kernel
theorem dX0_trade_21 : decode cX0_trade 21 = .ok (.invokestatic 51, 3) := by decide +kernel
theorem dX0_trade_24 : decode cX0_trade 24 = .ok (.aload_n 0, 1) := by decide +kernel
theorem dX0_trade_25 : decode cX0_trade 25 = .ok (.iload_n 1, 1) := by decide +kernel
theorem dX0_trade_26 : decode cX0_trade 26 = .ok (.iload_n 2, 1) := by decide +kernel
theorem dX0_trade_27 : decode cX0_trade 27 = .ok (.iload_n 3, 1) := by decide +kernel
theorem dX0_trade_28 : decode cX0_trade 28 = .ok (.invokevirtual 111, 3) := by decide +kernel
theorem dX0_trade_31 : decode cX0_trade 31 = .ok (.istore 4, 2) := by decide +kernel
theorem dX0_trade_33 : decode cX0_trade 33 = .ok (.aload_n 0, 1) := by decide +kernel
theorem dX0_trade_34 : decode cX0_trade 34 = .ok (.getfield 16, 3) := by decide +kernel
theorem dX0_trade_37 : decode cX0_trade 37 = .ok (.iload_n 1, 1) := by decide +kernel
theorem dX0_trade_38 : decode cX0_trade 38 = .ok (.dup2, 1) := by decide +kernel
theorem dX0_trade_39 : decode cX0_trade 39 = .ok (.iaload, 1) := by decide +kernel
theorem dX0_trade_40 : decode cX0_trade 40 = .ok (.iload_n 3, 1) := by decide +kernel
theorem dX0_trade_41 : decode cX0_trade 41 = .ok (.isub, 1) := by decide +kernel
theorem dX0_trade_42 : decode cX0_trade 42 = .ok (.iastore, 1) := by decide +kernel
theorem dX0_trade_43 : decode cX0_trade 43 = .ok (.aload_n 0, 1) := by decide +kernel
theorem dX0_trade_44 : decode cX0_trade 44 = .ok (.getfield 16, 3) := by decide +kernel
theorem dX0_trade_47 : decode cX0_trade 47 = .ok (.iload_n 2, 1) := by decide +kernel
theorem dX0_trade_48 : decode cX0_trade 48 = .ok (.dup2, 1) := by decide +kernel
theorem dX0_trade_49 : decode cX0_trade 49 = .ok (.iaload, 1) := by decide +kernel
theorem dX0_trade_50 : decode cX0_trade 50 = .ok (.iload 4, 2) := by decide +kernel
theorem dX0_trade_52 : decode cX0_trade 52 = .ok (.iadd, 1) := by decide +kernel
theorem dX0_trade_53 : decode cX0_trade 53 = .ok (.iastore, 1) := by decide +kernel
theorem dX0_trade_54 : decode cX0_trade 54 = .ok (.iload 4, 2) := by decide +kernel
theorem dX0_trade_56 : decode cX0_trade 56 = .ok (.ireturn, 1) := by decide +kernel
set_option maxRecDepth 20000 in
theorem ggX0_mostTraded_X0_needTwoWells : GoodIn wsX0_mostTraded wsX0_needTwoWells := goodIn_ca (goodIn_ca (goodIn_r _ [10, 11, 12, 13, 14, 15, 9, 16, 17, 18, 44, 45, 46, 47, 48, 49, 50, 51, 52, 53, 54, 55] (by decide +kernel) (by decide +kernel)) (goodIn_sub (fun _ h => List.mem_cons_of_mem _ (List.mem_append_left _ (List.mem_append_right _ h))) (by decide +kernel))) (goodIn_sub (fun _ h => List.mem_cons_of_mem _ (List.mem_append_right _ h)) (by decide +kernel))
set_option maxRecDepth 20000 in
theorem gX0_mostTraded_X0_needTwoWells : GoodIn wsX0_mostTraded (wsV RX0 104 RX0 yX0_needTwoWells wsX0_needTwoWells) := goodIn_app (goodIn_of _ (by decide +kernel)) ggX0_mostTraded_X0_needTwoWells
set_option maxRecDepth 20000 in
theorem ggX0_mostTraded_X0_canTrade : GoodIn wsX0_mostTraded wsX0_canTrade := goodIn_r _ [22, 1, 23, 24, 25, 26, 9, 27, 28, 29, 30, 31, 32, 33, 34, 35, 36, 37, 38, 39, 40, 41, 42, 4, 43, 44, 45, 46, 47, 48, 49, 50, 51, 52, 53, 54, 55] (by decide +kernel) (by decide +kernel)
set_option maxRecDepth 20000 in
theorem gX0_mostTraded_X0_canTrade : GoodIn wsX0_mostTraded (wsV RX0 107 RX0 yX0_canTrade wsX0_canTrade) := goodIn_app (goodIn_of _ (by decide +kernel)) ggX0_mostTraded_X0_canTrade
theorem dX0_mostTraded_0 : decode cX0_mostTraded 0 = .ok (.aload_n 0, 1) := by decide +kernel
theorem dX0_mostTraded_1 : decode cX0_mostTraded 1 = .ok (.iload_n 1, 1) := by decide +kernel
theorem dX0_mostTraded_2 : decode cX0_mostTraded 2 = .ok (.iload_n 2, 1) := by decide +kernel
theorem dX0_mostTraded_3 : decode cX0_mostTraded 3 = .ok (.invokevirtual 104, 3) := by decide +kernel
theorem dX0_mostTraded_6 : decode cX0_mostTraded 6 = .ok (.aload_n 0, 1) := by decide +kernel
theorem dX0_mostTraded_7 : decode cX0_mostTraded 7 = .ok (.getfield 16, 3) := by decide +kernel
theorem dX0_mostTraded_10 : decode cX0_mostTraded 10 = .ok (.iload_n 1, 1) := by decide +kernel
theorem dX0_mostTraded_11 : decode cX0_mostTraded 11 = .ok (.iaload, 1) := by decide +kernel
theorem dX0_mostTraded_12 : decode cX0_mostTraded 12 = .ok (.sipush 5000, 3) := by decide +kernel
theorem dX0_mostTraded_15 : decode cX0_mostTraded 15 = .ok (.invokestatic 62, 3) := by decide +kernel
theorem dX0_mostTraded_18 : decode cX0_mostTraded 18 = .ok (.istore_n 3, 1) := by decide +kernel
theorem dX0_mostTraded_19 : decode cX0_mostTraded 19 = .ok (.iload_n 3, 1) := by decide +kernel
theorem dX0_mostTraded_20 : decode cX0_mostTraded 20 = .ok (.ifCond .le 21, 3) := by decide +kernel
theorem dX0_mostTraded_23 : decode cX0_mostTraded 23 = .ok (.aload_n 0, 1) := by decide +kernel
theorem dX0_mostTraded_24 : decode cX0_mostTraded 24 = .ok (.iload_n 1, 1) := by decide +kernel
theorem dX0_mostTraded_25 : decode cX0_mostTraded 25 = .ok (.iload_n 2, 1) := by decide +kernel
theorem dX0_mostTraded_26 : decode cX0_mostTraded 26 = .ok (.iload_n 3, 1) := by decide +kernel
theorem dX0_mostTraded_27 : decode cX0_mostTraded 27 = .ok (.invokevirtual 107, 3) := by decide +kernel
theorem dX0_mostTraded_30 : decode cX0_mostTraded 30 = .ok (.ifCond .eq 5, 3) := by decide +kernel
theorem dX0_mostTraded_33 : decode cX0_mostTraded 33 = .ok (.iload_n 3, 1) := by decide +kernel
theorem dX0_mostTraded_34 : decode cX0_mostTraded 34 = .ok (.ireturn, 1) := by decide +kernel
theorem dX0_mostTraded_35 : decode cX0_mostTraded 35 = .ok (.iinc 3 (-1), 3) := by decide +kernel
theorem dX0_mostTraded_38 : decode cX0_mostTraded 38 = .ok (.goto (-19), 3) := by decide +kernel
theorem dX0_mostTraded_41 : decode cX0_mostTraded 41 = .ok (.iconst 0, 1) := by decide +kernel
theorem dX0_mostTraded_42 : decode cX0_mostTraded 42 = .ok (.ireturn, 1) := by decide +kernel
theorem dX0_needIndex_0 : decode cX0_needIndex 0 = .ok (.iload_n 0, 1) := by decide +kernel
theorem dX0_needIndex_1 : decode cX0_needIndex 1 = .ok (.ifCond .lt 8, 3) := by decide +kernel
theorem dX0_needIndex_4 : decode cX0_needIndex 4 = .ok (.iload_n 0, 1) := by decide +kernel
theorem dX0_needIndex_5 : decode cX0_needIndex 5 = .ok (.iload_n 1, 1) := by decide +kernel
theorem dX0_needIndex_6 : decode cX0_needIndex 6 = .ok (.if_icmp .lt 13, 3) := by decide +kernel
theorem dX0_needIndex_9 : decode cX0_needIndex 9 = .ok (.new 114, 3) := by decide +kernel
theorem dX0_needIndex_12 : decode cX0_needIndex 12 = .ok (.dup, 1) := by decide +kernel
theorem dX0_needIndex_13 : decode cX0_needIndex 13 = .ok (.ldc 116, 2) := by decide +kernel
theorem dX0_needIndex_15 : decode cX0_needIndex 15 = .ok (.invokespecial 118, 3) := by decide +kernel
theorem dX0_needIndex_18 : decode cX0_needIndex 18 = .ok (.athrow, 1) := by decide +kernel
theorem dX0_needIndex_19 : decode cX0_needIndex 19 = .ok (.return_, 1) := by decide +kernel
theorem dX0_needRange_0 : decode cX0_needRange 0 = .ok (.iload_n 0, 1) := by decide +kernel
theorem dX0_needRange_1 : decode cX0_needRange 1 = .ok (.iload_n 1, 1) := by decide +kernel
theorem dX0_needRange_2 : decode cX0_needRange 2 = .ok (.if_icmp .lt 8, 3) := by decide +kernel
theorem dX0_needRange_5 : decode cX0_needRange 5 = .ok (.iload_n 0, 1) := by decide +kernel
theorem dX0_needRange_6 : decode cX0_needRange 6 = .ok (.iload_n 2, 1) := by decide +kernel
theorem dX0_needRange_7 : decode cX0_needRange 7 = .ok (.if_icmp .le 13, 3) := by decide +kernel
theorem dX0_needRange_10 : decode cX0_needRange 10 = .ok (.new 121, 3) := by decide +kernel
theorem dX0_needRange_13 : decode cX0_needRange 13 = .ok (.dup, 1) := by decide +kernel
theorem dX0_needRange_14 : decode cX0_needRange 14 = .ok (.ldc 123, 2) := by decide +kernel
theorem dX0_needRange_16 : decode cX0_needRange 16 = .ok (.invokespecial 125, 3) := by decide +kernel
theorem dX0_needRange_19 : decode cX0_needRange 19 = .ok (.athrow, 1) := by decide +kernel
theorem dX0_needRange_20 : decode cX0_needRange 20 = .ok (.return_, 1) := by decide +kernel
theorem dX0_needAllowed_0 : decode cX0_needAllowed 0 = .ok (.iload_n 0, 1) := by decide +kernel
theorem dX0_needAllowed_1 : decode cX0_needAllowed 1 = .ok (.ifCond .ne 13, 3) := by decide +kernel
theorem dX0_needAllowed_4 : decode cX0_needAllowed 4 = .ok (.new 126, 3) := by decide +kernel
theorem dX0_needAllowed_7 : decode cX0_needAllowed 7 = .ok (.dup, 1) := by decide +kernel
theorem dX0_needAllowed_8 : decode cX0_needAllowed 8 = .ok (.ldc 128, 2) := by decide +kernel
theorem dX0_needAllowed_10 : decode cX0_needAllowed 10 = .ok (.invokespecial 130, 3) := by decide +kernel
theorem dX0_needAllowed_13 : decode cX0_needAllowed 13 = .ok (.athrow, 1) := by decide +kernel
theorem dX0_needAllowed_14 : decode cX0_needAllowed 14 = .ok (.return_, 1) := by decide +kernel
set_option maxRecDepth 20000 in
theorem ggX0_needTwoWells_X0_needIndex : GoodIn wsX0_needTwoWells wsX0_needIndex := goodIn_ca (goodIn_r _ [7, 8, 9] (by decide +kernel) (by decide +kernel)) (goodIn_sub (fun _ h => List.mem_cons_of_mem _ (List.mem_append_right _ h)) (by decide +kernel))
set_option maxRecDepth 20000 in
theorem gX0_needTwoWells_X0_needIndex : GoodIn wsX0_needTwoWells (va_wsS RX0 58 yX0_needIndex wsX0_needIndex) := goodIn_app (goodIn_of _ (by decide +kernel)) ggX0_needTwoWells_X0_needIndex
theorem dX0_needTwoWells_0 : decode cX0_needTwoWells 0 = .ok (.iload_n 1, 1) := by decide +kernel
theorem dX0_needTwoWells_1 : decode cX0_needTwoWells 1 = .ok (.aload_n 0, 1) := by decide +kernel
theorem dX0_needTwoWells_2 : decode cX0_needTwoWells 2 = .ok (.getfield 47, 3) := by decide +kernel
theorem dX0_needTwoWells_5 : decode cX0_needTwoWells 5 = .ok (.invokestatic 58, 3) := by decide +kernel
theorem dX0_needTwoWells_8 : decode cX0_needTwoWells 8 = .ok (.iload_n 2, 1) := by decide +kernel
theorem dX0_needTwoWells_9 : decode cX0_needTwoWells 9 = .ok (.aload_n 0, 1) := by decide +kernel
theorem dX0_needTwoWells_10 : decode cX0_needTwoWells 10 = .ok (.getfield 47, 3) := by decide +kernel
theorem dX0_needTwoWells_13 : decode cX0_needTwoWells 13 = .ok (.invokestatic 58, 3) := by decide +kernel
theorem dX0_needTwoWells_16 : decode cX0_needTwoWells 16 = .ok (.iload_n 1, 1) := by decide +kernel
theorem dX0_needTwoWells_17 : decode cX0_needTwoWells 17 = .ok (.iload_n 2, 1) := by decide +kernel
theorem dX0_needTwoWells_18 : decode cX0_needTwoWells 18 = .ok (.if_icmp .ne 13, 3) := by decide +kernel
theorem dX0_needTwoWells_21 : decode cX0_needTwoWells 21 = .ok (.new 121, 3) := by decide +kernel
theorem dX0_needTwoWells_24 : decode cX0_needTwoWells 24 = .ok (.dup, 1) := by decide +kernel
theorem dX0_needTwoWells_25 : decode cX0_needTwoWells 25 = .ok (.ldc 131, 2) := by decide +kernel
theorem dX0_needTwoWells_27 : decode cX0_needTwoWells 27 = .ok (.invokespecial 125, 3) := by decide +kernel
theorem dX0_needTwoWells_30 : decode cX0_needTwoWells 30 = .ok (.athrow, 1) := by decide +kernel
theorem dX0_needTwoWells_31 : decode cX0_needTwoWells 31 = .ok (.return_, 1) := by decide +kernel
theorem dX0_unitsOfYear_0 : decode cX0_unitsOfYear 0 = .ok (.iload_n 2, 1) := by decide +kernel
theorem dX0_unitsOfYear_1 : decode cX0_unitsOfYear 1 = .ok (.bipush 12, 2) := by decide +kernel
theorem dX0_unitsOfYear_3 : decode cX0_unitsOfYear 3 = .ok (.imul, 1) := by decide +kernel
theorem dX0_unitsOfYear_4 : decode cX0_unitsOfYear 4 = .ok (.istore_n 3, 1) := by decide +kernel
theorem dX0_unitsOfYear_5 : decode cX0_unitsOfYear 5 = .ok (.iconst 0, 1) := by decide +kernel
theorem dX0_unitsOfYear_6 : decode cX0_unitsOfYear 6 = .ok (.istore 4, 2) := by decide +kernel
theorem dX0_unitsOfYear_8 : decode cX0_unitsOfYear 8 = .ok (.iload_n 3, 1) := by decide +kernel
theorem dX0_unitsOfYear_9 : decode cX0_unitsOfYear 9 = .ok (.istore 5, 2) := by decide +kernel
theorem dX0_unitsOfYear_11 : decode cX0_unitsOfYear 11 = .ok (.iload 5, 2) := by decide +kernel
theorem dX0_unitsOfYear_13 : decode cX0_unitsOfYear 13 = .ok (.iload_n 3, 1) := by decide +kernel
theorem dX0_unitsOfYear_14 : decode cX0_unitsOfYear 14 = .ok (.bipush 12, 2) := by decide +kernel
theorem dX0_unitsOfYear_16 : decode cX0_unitsOfYear 16 = .ok (.iadd, 1) := by decide +kernel
theorem dX0_unitsOfYear_17 : decode cX0_unitsOfYear 17 = .ok (.if_icmp .ge 23, 3) := by decide +kernel
theorem dX0_unitsOfYear_20 : decode cX0_unitsOfYear 20 = .ok (.iload 4, 2) := by decide +kernel
theorem dX0_unitsOfYear_22 : decode cX0_unitsOfYear 22 = .ok (.aload_n 0, 1) := by decide +kernel
theorem dX0_unitsOfYear_23 : decode cX0_unitsOfYear 23 = .ok (.getfield 21, 3) := by decide +kernel
theorem dX0_unitsOfYear_26 : decode cX0_unitsOfYear 26 = .ok (.iload_n 1, 1) := by decide +kernel
theorem dX0_unitsOfYear_27 : decode cX0_unitsOfYear 27 = .ok (.aaload, 1) := by decide +kernel
theorem dX0_unitsOfYear_28 : decode cX0_unitsOfYear 28 = .ok (.iload 5, 2) := by decide +kernel
theorem dX0_unitsOfYear_30 : decode cX0_unitsOfYear 30 = .ok (.iaload, 1) := by decide +kernel
theorem dX0_unitsOfYear_31 : decode cX0_unitsOfYear 31 = .ok (.iadd, 1) := by decide +kernel
theorem dX0_unitsOfYear_32 : decode cX0_unitsOfYear 32 = .ok (.istore 4, 2) := by decide +kernel
theorem dX0_unitsOfYear_34 : decode cX0_unitsOfYear 34 = .ok (.iinc 5 1, 3) := by decide +kernel
theorem dX0_unitsOfYear_37 : decode cX0_unitsOfYear 37 = .ok (.goto (-26), 3) := by decide +kernel
theorem dX0_unitsOfYear_40 : decode cX0_unitsOfYear 40 = .ok (.iload 4, 2) := by decide +kernel
theorem dX0_unitsOfYear_42 : decode cX0_unitsOfYear 42 = .ok (.ireturn, 1) := by decide +kernel
theorem dX0_reachOf_0 : decode cX0_reachOf 0 = .ok (.aload_n 0, 1) := by decide +kernel
theorem dX0_reachOf_1 : decode cX0_reachOf 1 = .ok (.getfield 9, 3) := by decide +kernel
theorem dX0_reachOf_4 : decode cX0_reachOf 4 = .ok (.iload_n 1, 1) := by decide +kernel
theorem dX0_reachOf_5 : decode cX0_reachOf 5 = .ok (.iaload, 1) := by decide +kernel
theorem dX0_reachOf_6 : decode cX0_reachOf 6 = .ok (.aload_n 0, 1) := by decide +kernel
theorem dX0_reachOf_7 : decode cX0_reachOf 7 = .ok (.getfield 24, 3) := by decide +kernel
theorem dX0_reachOf_10 : decode cX0_reachOf 10 = .ok (.iload_n 2, 1) := by decide +kernel
theorem dX0_reachOf_11 : decode cX0_reachOf 11 = .ok (.iaload, 1) := by decide +kernel
theorem dX0_reachOf_12 : decode cX0_reachOf 12 = .ok (.isub, 1) := by decide +kernel
theorem dX0_reachOf_13 : decode cX0_reachOf 13 = .ok (.invokestatic 133, 3) := by decide +kernel
theorem dX0_reachOf_16 : decode cX0_reachOf 16 = .ok (.bipush 10, 2) := by decide +kernel
theorem dX0_reachOf_18 : decode cX0_reachOf 18 = .ok (.idiv, 1) := by decide +kernel
theorem dX0_reachOf_19 : decode cX0_reachOf 19 = .ok (.ireturn, 1) := by decide +kernel
theorem dX0_tableNumber_0 : decode cX0_tableNumber 0 = .ok (.iload_n 1, 1) := by decide +kernel
theorem dX0_tableNumber_1 : decode cX0_tableNumber 1 = .ok (.iconst 5, 1) := by decide +kernel
theorem dX0_tableNumber_2 : decode cX0_tableNumber 2 = .ok (.if_icmp .ge 14, 3) := by decide +kernel
theorem dX0_tableNumber_5 : decode cX0_tableNumber 5 = .ok (.aload_n 0, 1) := by decide +kernel
theorem dX0_tableNumber_6 : decode cX0_tableNumber 6 = .ok (.getfield 30, 3) := by decide +kernel
theorem dX0_tableNumber_9 : decode cX0_tableNumber 9 = .ok (.iload_n 1, 1) := by decide +kernel
theorem dX0_tableNumber_10 : decode cX0_tableNumber 10 = .ok (.aaload, 1) := by decide +kernel
theorem dX0_tableNumber_11 : decode cX0_tableNumber 11 = .ok (.iload_n 2, 1) := by decide +kernel
theorem dX0_tableNumber_12 : decode cX0_tableNumber 12 = .ok (.iaload, 1) := by decide +kernel
theorem dX0_tableNumber_13 : decode cX0_tableNumber 13 = .ok (.goto 4, 3) := by decide +kernel
theorem dX0_tableNumber_16 : decode cX0_tableNumber 16 = .ok (.iconst 0, 1) := by decide +kernel
theorem dX0_tableNumber_17 : decode cX0_tableNumber 17 = .ok (.ireturn, 1) := by decide +kernel
set_option maxRecDepth 20000 in
theorem ggX0_loweredIn_X0_reachOf : GoodIn wsX0_loweredIn wsX0_reachOf := goodIn_r _ [7, 8, 9, 10, 11, 12, 13, 19, 20, 21, 22, 23, 24, 25, 26, 27, 28, 29, 30] (by decide +kernel) (by decide +kernel)
set_option maxRecDepth 20000 in
theorem gX0_loweredIn_X0_reachOf : GoodIn wsX0_loweredIn (wsV RX0 78 RX0 yX0_reachOf wsX0_reachOf) := goodIn_app (goodIn_of _ (by decide +kernel)) ggX0_loweredIn_X0_reachOf
set_option maxRecDepth 20000 in
theorem ggX0_loweredIn_X0_tableNumber : GoodIn wsX0_loweredIn wsX0_tableNumber := goodIn_r _ [17, 18, 19, 20, 21, 22, 23, 24, 25, 26, 27, 28, 29, 30] (by decide +kernel) (by decide +kernel)
set_option maxRecDepth 20000 in
theorem gX0_loweredIn_X0_tableNumber : GoodIn wsX0_loweredIn (wsV RX0 137 RX0 yX0_tableNumber wsX0_tableNumber) := goodIn_app (goodIn_of _ (by decide +kernel)) ggX0_loweredIn_X0_tableNumber
theorem dX0_loweredIn_0 : decode cX0_loweredIn 0 = .ok (.lconst 0, 1) := by decide +kernel
theorem dX0_loweredIn_1 : decode cX0_loweredIn 1 = .ok (.lstore_n 3, 1) := by decide +kernel
theorem dX0_loweredIn_2 : decode cX0_loweredIn 2 = .ok (.iconst 0, 1) := by decide +kernel
theorem dX0_loweredIn_3 : decode cX0_loweredIn 3 = .ok (.istore 5, 2) := by decide +kernel
theorem dX0_loweredIn_5 : decode cX0_loweredIn 5 = .ok (.iload 5, 2) := by decide +kernel
theorem dX0_loweredIn_7 : decode cX0_loweredIn 7 = .ok (.aload_n 0, 1) := by decide +kernel
theorem dX0_loweredIn_8 : decode cX0_loweredIn 8 = .ok (.getfield 47, 3) := by decide +kernel
theorem dX0_loweredIn_11 : decode cX0_loweredIn 11 = .ok (.if_icmp .ge 66, 3) := by decide +kernel
theorem dX0_loweredIn_14 : decode cX0_loweredIn 14 = .ok (.aload_n 0, 1) := by decide +kernel
theorem dX0_loweredIn_15 : decode cX0_loweredIn 15 = .ok (.iload 5, 2) := by decide +kernel
theorem dX0_loweredIn_17 : decode cX0_loweredIn 17 = .ok (.iload_n 1, 1) := by decide +kernel
theorem dX0_loweredIn_18 : decode cX0_loweredIn 18 = .ok (.invokevirtual 78, 3) := by decide +kernel
theorem dX0_loweredIn_21 : decode cX0_loweredIn 21 = .ok (.istore 6, 2) := by decide +kernel
theorem dX0_loweredIn_23 : decode cX0_loweredIn 23 = .ok (.iconst 0, 1) := by decide +kernel
theorem dX0_loweredIn_24 : decode cX0_loweredIn 24 = .ok (.istore 7, 2) := by decide +kernel
theorem dX0_loweredIn_26 : decode cX0_loweredIn 26 = .ok (.iload 7, 2) := by decide +kernel
theorem dX0_loweredIn_28 : decode cX0_loweredIn 28 = .ok (.bipush 12, 2) := by decide +kernel
theorem dX0_loweredIn_30 : decode cX0_loweredIn 30 = .ok (.if_icmp .ge 41, 3) := by decide +kernel
theorem dX0_loweredIn_33 : decode cX0_loweredIn 33 = .ok (.iload 7, 2) := by decide +kernel
theorem dX0_loweredIn_35 : decode cX0_loweredIn 35 = .ok (.iload_n 2, 1) := by decide +kernel
theorem dX0_loweredIn_36 : decode cX0_loweredIn 36 = .ok (.if_icmp .gt 35, 3) := by decide +kernel
theorem dX0_loweredIn_39 : decode cX0_loweredIn 39 = .ok (.lload_n 3, 1) := by decide +kernel
theorem dX0_loweredIn_40 : decode cX0_loweredIn 40 = .ok (.aload_n 0, 1) := by decide +kernel
theorem dX0_loweredIn_41 : decode cX0_loweredIn 41 = .ok (.getfield 21, 3) := by decide +kernel
theorem dX0_loweredIn_44 : decode cX0_loweredIn 44 = .ok (.iload 5, 2) := by decide +kernel
theorem dX0_loweredIn_46 : decode cX0_loweredIn 46 = .ok (.aaload, 1) := by decide +kernel
theorem dX0_loweredIn_47 : decode cX0_loweredIn 47 = .ok (.iload_n 2, 1) := by decide +kernel
theorem dX0_loweredIn_48 : decode cX0_loweredIn 48 = .ok (.iload 7, 2) := by decide +kernel
theorem dX0_loweredIn_50 : decode cX0_loweredIn 50 = .ok (.isub, 1) := by decide +kernel
theorem dX0_loweredIn_51 : decode cX0_loweredIn 51 = .ok (.iaload, 1) := by decide +kernel
theorem dX0_loweredIn_52 : decode cX0_loweredIn 52 = .ok (.i2l, 1) := by decide +kernel
theorem dX0_loweredIn_53 : decode cX0_loweredIn 53 = .ok (.aload_n 0, 1) := by decide +kernel
theorem dX0_loweredIn_54 : decode cX0_loweredIn 54 = .ok (.iload 6, 2) := by decide +kernel
theorem dX0_loweredIn_56 : decode cX0_loweredIn 56 = .ok (.iload 7, 2) := by decide +kernel
theorem dX0_loweredIn_58 : decode cX0_loweredIn 58 = .ok (.invokevirtual 137, 3) := by decide +kernel
theorem dX0_loweredIn_61 : decode cX0_loweredIn 61 = .ok (.i2l, 1) := by decide +kernel
theorem dX0_loweredIn_62 : decode cX0_loweredIn 62 = .ok (.lmul, 1) := by decide +kernel
theorem dX0_loweredIn_63 : decode cX0_loweredIn 63 = .ok (.ladd, 1) := by decide +kernel
theorem dX0_loweredIn_64 : decode cX0_loweredIn 64 = .ok (.lstore_n 3, 1) := by decide +kernel
theorem dX0_loweredIn_65 : decode cX0_loweredIn 65 = .ok (.iinc 7 1, 3) := by decide +kernel
theorem dX0_loweredIn_68 : decode cX0_loweredIn 68 = .ok (.goto (-42), 3) := by decide +kernel
theorem dX0_loweredIn_71 : decode cX0_loweredIn 71 = .ok (.iinc 5 1, 3) := by decide +kernel
theorem dX0_loweredIn_74 : decode cX0_loweredIn 74 = .ok (.goto (-69), 3) := by decide +kernel
theorem dX0_loweredIn_77 : decode cX0_loweredIn 77 = .ok (.lload_n 3, 1) := by decide +kernel
theorem dX0_loweredIn_78 : decode cX0_loweredIn 78 = .ok (.lreturn, 1) := by decide +kernel
set_option maxRecDepth 20000 in
theorem ggX0_layPulse_X0_tableNumber : GoodIn wsX0_layPulse wsX0_tableNumber := goodIn_r _ [6, 7, 8, 9, 10, 11, 12, 13, 14, 15, 16, 17, 18, 19] (by decide +kernel) (by decide +kernel)
set_option maxRecDepth 20000 in
theorem gX0_layPulse_X0_tableNumber : GoodIn wsX0_layPulse (wsV RX0 137 RX0 yX0_tableNumber wsX0_tableNumber) := goodIn_app (goodIn_of _ (by decide +kernel)) ggX0_layPulse_X0_tableNumber
theorem dX0_layPulse_0 : decode cX0_layPulse 0 = .ok (.iconst 0, 1) := by decide +kernel
theorem dX0_layPulse_1 : decode cX0_layPulse 1 = .ok (.istore 4, 2) := by decide +kernel
theorem dX0_layPulse_3 : decode cX0_layPulse 3 = .ok (.iload 4, 2) := by decide +kernel
theorem dX0_layPulse_5 : decode cX0_layPulse 5 = .ok (.bipush 12, 2) := by decide +kernel
theorem dX0_layPulse_7 : decode cX0_layPulse 7 = .ok (.if_icmp .ge 41, 3) := by decide +kernel
theorem dX0_layPulse_10 : decode cX0_layPulse 10 = .ok (.iload_n 2, 1) := by decide +kernel
theorem dX0_layPulse_11 : decode cX0_layPulse 11 = .ok (.iload 4, 2) := by decide +kernel
theorem dX0_layPulse_13 : decode cX0_layPulse 13 = .ok (.iadd, 1) := by decide +kernel
theorem dX0_layPulse_14 : decode cX0_layPulse 14 = .ok (.bipush 36, 2) := by decide +kernel
theorem dX0_layPulse_16 : decode cX0_layPulse 16 = .ok (.if_icmp .ge 32, 3) := by decide +kernel
theorem dX0_layPulse_19 : decode cX0_layPulse 19 = .ok (.aload_n 0, 1) := by decide +kernel
theorem dX0_layPulse_20 : decode cX0_layPulse 20 = .ok (.getfield 39, 3) := by decide +kernel
theorem dX0_layPulse_23 : decode cX0_layPulse 23 = .ok (.iload_n 2, 1) := by decide +kernel
theorem dX0_layPulse_24 : decode cX0_layPulse 24 = .ok (.iload 4, 2) := by decide +kernel
theorem dX0_layPulse_26 : decode cX0_layPulse 26 = .ok (.iadd, 1) := by decide +kernel
theorem dX0_layPulse_27 : decode cX0_layPulse 27 = .ok (.dup2, 1) := by decide +kernel
theorem dX0_layPulse_28 : decode cX0_layPulse 28 = .ok (.laload, 1) := by decide +kernel
theorem dX0_layPulse_29 : decode cX0_layPulse 29 = .ok (.iload_n 3, 1) := by decide +kernel
theorem dX0_layPulse_30 : decode cX0_layPulse 30 = .ok (.i2l, 1) := by decide +kernel
theorem dX0_layPulse_31 : decode cX0_layPulse 31 = .ok (.aload_n 0, 1) := by decide +kernel
theorem dX0_layPulse_32 : decode cX0_layPulse 32 = .ok (.iload_n 1, 1) := by decide +kernel
theorem dX0_layPulse_33 : decode cX0_layPulse 33 = .ok (.iload 4, 2) := by decide +kernel
theorem dX0_layPulse_35 : decode cX0_layPulse 35 = .ok (.invokevirtual 137, 3) := by decide +kernel
theorem dX0_layPulse_38 : decode cX0_layPulse 38 = .ok (.i2l, 1) := by decide +kernel
theorem dX0_layPulse_39 : decode cX0_layPulse 39 = .ok (.lmul, 1) := by decide +kernel
theorem dX0_layPulse_40 : decode cX0_layPulse 40 = .ok (.ladd, 1) := by decide +kernel
theorem dX0_layPulse_41 : decode cX0_layPulse 41 = .ok (.lastore, 1) := by decide +kernel
theorem dX0_layPulse_42 : decode cX0_layPulse 42 = .ok (.iinc 4 1, 3) := by decide +kernel
theorem dX0_layPulse_45 : decode cX0_layPulse 45 = .ok (.goto (-42), 3) := by decide +kernel
theorem dX0_layPulse_48 : decode cX0_layPulse 48 = .ok (.return_, 1) := by decide +kernel
set_option maxRecDepth 20000 in
theorem ggX0_thousandthsLeft_X0_loweredIn : GoodIn wsX0_thousandthsLeft wsX0_loweredIn := goodIn_r _ [7, 8, 9, 10, 11, 12, 6, 13, 14, 15, 16, 17, 18, 19, 20, 21, 22, 23, 24, 25, 26, 27, 28, 29, 30, 31, 32, 33, 34, 35, 36] (by decide +kernel) (by decide +kernel)
set_option maxRecDepth 20000 in
theorem gX0_thousandthsLeft_X0_loweredIn : GoodIn wsX0_thousandthsLeft (wsV RX0 74 RX0 yX0_loweredIn wsX0_loweredIn) := goodIn_app (goodIn_of _ (by decide +kernel)) ggX0_thousandthsLeft_X0_loweredIn
theorem dX0_thousandthsLeft_0 : decode cX0_thousandthsLeft 0 = .ok (.ldc2_w 140, 3) := by decide +kernel
theorem dX0_thousandthsLeft_3 : decode cX0_thousandthsLeft 3 = .ok (.aload_n 0, 1) := by decide +kernel
theorem dX0_thousandthsLeft_4 : decode cX0_thousandthsLeft 4 = .ok (.getfield 27, 3) := by decide +kernel
theorem dX0_thousandthsLeft_7 : decode cX0_thousandthsLeft 7 = .ok (.iload_n 1, 1) := by decide +kernel
theorem dX0_thousandthsLeft_8 : decode cX0_thousandthsLeft 8 = .ok (.iaload, 1) := by decide +kernel
theorem dX0_thousandthsLeft_9 : decode cX0_thousandthsLeft 9 = .ok (.i2l, 1) := by decide +kernel
theorem dX0_thousandthsLeft_10 : decode cX0_thousandthsLeft 10 = .ok (.lmul, 1) := by decide +kernel
theorem dX0_thousandthsLeft_11 : decode cX0_thousandthsLeft 11 = .ok (.aload_n 0, 1) := by decide +kernel
theorem dX0_thousandthsLeft_12 : decode cX0_thousandthsLeft 12 = .ok (.iload_n 1, 1) := by decide +kernel
theorem dX0_thousandthsLeft_13 : decode cX0_thousandthsLeft 13 = .ok (.iload_n 2, 1) := by decide +kernel
theorem dX0_thousandthsLeft_14 : decode cX0_thousandthsLeft 14 = .ok (.invokevirtual 74, 3) := by decide +kernel
theorem dX0_thousandthsLeft_17 : decode cX0_thousandthsLeft 17 = .ok (.lsub, 1) := by decide +kernel
theorem dX0_thousandthsLeft_18 : decode cX0_thousandthsLeft 18 = .ok (.lreturn, 1) := by decide +kernel
set_option maxRecDepth 20000 in
theorem ggX0_unitsLeft_X0_tableNumber : GoodIn wsX0_unitsLeft wsX0_tableNumber := goodIn_r _ [13, 14, 35, 36, 37, 38, 39, 40, 41, 42, 43, 44, 45, 46] (by decide +kernel) (by decide +kernel)
set_option maxRecDepth 20000 in
theorem gX0_unitsLeft_X0_tableNumber : GoodIn wsX0_unitsLeft (wsV RX0 137 RX0 yX0_tableNumber wsX0_tableNumber) := goodIn_app (goodIn_of _ (by decide +kernel)) ggX0_unitsLeft_X0_tableNumber
set_option maxRecDepth 20000 in
theorem ggX0_unitsLeft_X0_thousandthsLeft : GoodIn wsX0_unitsLeft wsX0_thousandthsLeft := goodIn_r _ [18, 1, 19, 20, 21, 22, 12, 23, 24, 25, 26, 27, 28, 29, 30, 31, 32, 33, 4, 34, 9, 10, 11, 13, 14, 35, 36, 37, 38, 39, 40, 41, 42, 43, 44, 45, 46] (by decide +kernel) (by decide +kernel)
set_option maxRecDepth 20000 in
theorem gX0_unitsLeft_X0_thousandthsLeft : GoodIn wsX0_unitsLeft (wsV RX0 84 RX0 yX0_thousandthsLeft wsX0_thousandthsLeft) := goodIn_app (goodIn_of _ (by decide +kernel)) ggX0_unitsLeft_X0_thousandthsLeft
theorem dX0_unitsLeft_0 : decode cX0_unitsLeft 0 = .ok (.ldc2_w 140, 3) := by decide +kernel
theorem dX0_unitsLeft_3 : decode cX0_unitsLeft 3 = .ok (.lstore 4, 2) := by decide +kernel
theorem dX0_unitsLeft_5 : decode cX0_unitsLeft 5 = .ok (.iconst 0, 1) := by decide +kernel
theorem dX0_unitsLeft_6 : decode cX0_unitsLeft 6 = .ok (.istore 6, 2) := by decide +kernel
theorem dX0_unitsLeft_8 : decode cX0_unitsLeft 8 = .ok (.iload 6, 2) := by decide +kernel
theorem dX0_unitsLeft_10 : decode cX0_unitsLeft 10 = .ok (.bipush 12, 2) := by decide +kernel
theorem dX0_unitsLeft_12 : decode cX0_unitsLeft 12 = .ok (.if_icmp .ge 56, 3) := by decide +kernel
theorem dX0_unitsLeft_15 : decode cX0_unitsLeft 15 = .ok (.iload_n 3, 1) := by decide +kernel
theorem dX0_unitsLeft_16 : decode cX0_unitsLeft 16 = .ok (.iload 6, 2) := by decide +kernel
theorem dX0_unitsLeft_18 : decode cX0_unitsLeft 18 = .ok (.iadd, 1) := by decide +kernel
theorem dX0_unitsLeft_19 : decode cX0_unitsLeft 19 = .ok (.bipush 36, 2) := by decide +kernel
theorem dX0_unitsLeft_21 : decode cX0_unitsLeft 21 = .ok (.if_icmp .ge 47, 3) := by decide +kernel
theorem dX0_unitsLeft_24 : decode cX0_unitsLeft 24 = .ok (.aload_n 0, 1) := by decide +kernel
theorem dX0_unitsLeft_25 : decode cX0_unitsLeft 25 = .ok (.iload_n 2, 1) := by decide +kernel
theorem dX0_unitsLeft_26 : decode cX0_unitsLeft 26 = .ok (.iload 6, 2) := by decide +kernel
theorem dX0_unitsLeft_28 : decode cX0_unitsLeft 28 = .ok (.invokevirtual 137, 3) := by decide +kernel
theorem dX0_unitsLeft_31 : decode cX0_unitsLeft 31 = .ok (.istore 7, 2) := by decide +kernel
theorem dX0_unitsLeft_33 : decode cX0_unitsLeft 33 = .ok (.iload 7, 2) := by decide +kernel
theorem dX0_unitsLeft_35 : decode cX0_unitsLeft 35 = .ok (.ifCond .le 27, 3) := by decide +kernel
theorem dX0_unitsLeft_38 : decode cX0_unitsLeft 38 = .ok (.lload 4, 2) := by decide +kernel
theorem dX0_unitsLeft_40 : decode cX0_unitsLeft 40 = .ok (.lconst 0, 1) := by decide +kernel
theorem dX0_unitsLeft_41 : decode cX0_unitsLeft 41 = .ok (.aload_n 0, 1) := by decide +kernel
theorem dX0_unitsLeft_42 : decode cX0_unitsLeft 42 = .ok (.iload_n 1, 1) := by decide +kernel
theorem dX0_unitsLeft_43 : decode cX0_unitsLeft 43 = .ok (.iload_n 3, 1) := by decide +kernel
theorem dX0_unitsLeft_44 : decode cX0_unitsLeft 44 = .ok (.iload 6, 2) := by decide +kernel
theorem dX0_unitsLeft_46 : decode cX0_unitsLeft 46 = .ok (.iadd, 1) := by decide +kernel
theorem dX0_unitsLeft_47 : decode cX0_unitsLeft 47 = .ok (.invokevirtual 84, 3) := by decide +kernel
theorem dX0_unitsLeft_50 : decode cX0_unitsLeft 50 = .ok (.invokestatic 142, 3) := by decide +kernel
theorem dX0_unitsLeft_53 : decode cX0_unitsLeft 53 = .ok (.iload 7, 2) := by decide +kernel
theorem dX0_unitsLeft_55 : decode cX0_unitsLeft 55 = .ok (.i2l, 1) := by decide +kernel
theorem dX0_unitsLeft_56 : decode cX0_unitsLeft 56 = .ok (.ldiv, 1) := by decide +kernel
theorem dX0_unitsLeft_57 : decode cX0_unitsLeft 57 = .ok (.invokestatic 91, 3) := by decide +kernel
theorem dX0_unitsLeft_60 : decode cX0_unitsLeft 60 = .ok (.lstore 4, 2) := by decide +kernel
theorem dX0_unitsLeft_62 : decode cX0_unitsLeft 62 = .ok (.iinc 6 1, 3) := by decide +kernel
theorem dX0_unitsLeft_65 : decode cX0_unitsLeft 65 = .ok (.goto (-57), 3) := by decide +kernel
theorem dX0_unitsLeft_68 : decode cX0_unitsLeft 68 = .ok (.lload 4, 2) := by decide +kernel
theorem dX0_unitsLeft_70 : decode cX0_unitsLeft 70 = .ok (.lreturn, 1) := by decide +kernel
set_option maxRecDepth 20000 in
theorem ggX0_loweredInAll_X0_reachOf : GoodIn wsX0_loweredInAll wsX0_reachOf := goodIn_r _ [6, 7, 8, 9, 10, 11, 12, 18, 19, 20, 21, 22, 23, 24, 25, 26, 27, 28, 29] (by decide +kernel) (by decide +kernel)
set_option maxRecDepth 20000 in
theorem gX0_loweredInAll_X0_reachOf : GoodIn wsX0_loweredInAll (wsV RX0 78 RX0 yX0_reachOf wsX0_reachOf) := goodIn_app (goodIn_of _ (by decide +kernel)) ggX0_loweredInAll_X0_reachOf
set_option maxRecDepth 20000 in
theorem ggX0_loweredInAll_X0_tableNumber : GoodIn wsX0_loweredInAll wsX0_tableNumber := goodIn_r _ [16, 17, 18, 19, 20, 21, 22, 23, 24, 25, 26, 27, 28, 29] (by decide +kernel) (by decide +kernel)
set_option maxRecDepth 20000 in
theorem gX0_loweredInAll_X0_tableNumber : GoodIn wsX0_loweredInAll (wsV RX0 137 RX0 yX0_tableNumber wsX0_tableNumber) := goodIn_app (goodIn_of _ (by decide +kernel)) ggX0_loweredInAll_X0_tableNumber
theorem dX0_loweredInAll_0 : decode cX0_loweredInAll 0 = .ok (.aload_n 0, 1) := by decide +kernel
theorem dX0_loweredInAll_1 : decode cX0_loweredInAll 1 = .ok (.iload_n 1, 1) := by decide +kernel
theorem dX0_loweredInAll_2 : decode cX0_loweredInAll 2 = .ok (.iload_n 2, 1) := by decide +kernel
theorem dX0_loweredInAll_3 : decode cX0_loweredInAll 3 = .ok (.invokevirtual 78, 3) := by decide +kernel
theorem dX0_loweredInAll_6 : decode cX0_loweredInAll 6 = .ok (.istore 4, 2) := by decide +kernel
theorem dX0_loweredInAll_8 : decode cX0_loweredInAll 8 = .ok (.lconst 0, 1) := by decide +kernel
theorem dX0_loweredInAll_9 : decode cX0_loweredInAll 9 = .ok (.lstore 5, 2) := by decide +kernel
theorem dX0_loweredInAll_11 : decode cX0_loweredInAll 11 = .ok (.iconst 0, 1) := by decide +kernel
theorem dX0_loweredInAll_12 : decode cX0_loweredInAll 12 = .ok (.istore 7, 2) := by decide +kernel
theorem dX0_loweredInAll_14 : decode cX0_loweredInAll 14 = .ok (.iload 7, 2) := by decide +kernel
theorem dX0_loweredInAll_16 : decode cX0_loweredInAll 16 = .ok (.bipush 12, 2) := by decide +kernel
theorem dX0_loweredInAll_18 : decode cX0_loweredInAll 18 = .ok (.if_icmp .ge 42, 3) := by decide +kernel
theorem dX0_loweredInAll_21 : decode cX0_loweredInAll 21 = .ok (.iload_n 3, 1) := by decide +kernel
theorem dX0_loweredInAll_22 : decode cX0_loweredInAll 22 = .ok (.iload 7, 2) := by decide +kernel
theorem dX0_loweredInAll_24 : decode cX0_loweredInAll 24 = .ok (.iadd, 1) := by decide +kernel
theorem dX0_loweredInAll_25 : decode cX0_loweredInAll 25 = .ok (.bipush 36, 2) := by decide +kernel
theorem dX0_loweredInAll_27 : decode cX0_loweredInAll 27 = .ok (.if_icmp .ge 33, 3) := by decide +kernel
theorem dX0_loweredInAll_30 : decode cX0_loweredInAll 30 = .ok (.lload 5, 2) := by decide +kernel
theorem dX0_loweredInAll_32 : decode cX0_loweredInAll 32 = .ok (.aload_n 0, 1) := by decide +kernel
theorem dX0_loweredInAll_33 : decode cX0_loweredInAll 33 = .ok (.getfield 21, 3) := by decide +kernel
theorem dX0_loweredInAll_36 : decode cX0_loweredInAll 36 = .ok (.iload_n 1, 1) := by decide +kernel
theorem dX0_loweredInAll_37 : decode cX0_loweredInAll 37 = .ok (.aaload, 1) := by decide +kernel
theorem dX0_loweredInAll_38 : decode cX0_loweredInAll 38 = .ok (.iload_n 3, 1) := by decide +kernel
theorem dX0_loweredInAll_39 : decode cX0_loweredInAll 39 = .ok (.iaload, 1) := by decide +kernel
theorem dX0_loweredInAll_40 : decode cX0_loweredInAll 40 = .ok (.i2l, 1) := by decide +kernel
theorem dX0_loweredInAll_41 : decode cX0_loweredInAll 41 = .ok (.aload_n 0, 1) := by decide +kernel
theorem dX0_loweredInAll_42 : decode cX0_loweredInAll 42 = .ok (.iload 4, 2) := by decide +kernel
theorem dX0_loweredInAll_44 : decode cX0_loweredInAll 44 = .ok (.iload 7, 2) := by decide +kernel
theorem dX0_loweredInAll_46 : decode cX0_loweredInAll 46 = .ok (.invokevirtual 137, 3) := by decide +kernel
theorem dX0_loweredInAll_49 : decode cX0_loweredInAll 49 = .ok (.i2l, 1) := by decide +kernel
theorem dX0_loweredInAll_50 : decode cX0_loweredInAll 50 = .ok (.lmul, 1) := by decide +kernel
theorem dX0_loweredInAll_51 : decode cX0_loweredInAll 51 = .ok (.ladd, 1) := by decide +kernel
theorem dX0_loweredInAll_52 : decode cX0_loweredInAll 52 = .ok (.lstore 5, 2) := by decide +kernel
theorem dX0_loweredInAll_54 : decode cX0_loweredInAll 54 = .ok (.iinc 7 1, 3) := by decide +kernel
theorem dX0_loweredInAll_57 : decode cX0_loweredInAll 57 = .ok (.goto (-43), 3) := by decide +kernel
theorem dX0_loweredInAll_60 : decode cX0_loweredInAll 60 = .ok (.lload 5, 2) := by decide +kernel
theorem dX0_loweredInAll_62 : decode cX0_loweredInAll 62 = .ok (.lreturn, 1) := by decide +kernel
set_option maxRecDepth 20000 in
theorem ggX0_takenOfMonthsBefore_X0_isInYear : GoodIn wsX0_takenOfMonthsBefore wsX0_isInYear := goodIn_r _ [6] (by decide +kernel) (by decide +kernel)
set_option maxRecDepth 20000 in
theorem gX0_takenOfMonthsBefore_X0_isInYear : GoodIn wsX0_takenOfMonthsBefore (va_wsS RX0 144 yX0_isInYear wsX0_isInYear) := goodIn_app (goodIn_of _ (by decide +kernel)) ggX0_takenOfMonthsBefore_X0_isInYear
theorem dX0_takenOfMonthsBefore_0 : decode cX0_takenOfMonthsBefore 0 = .ok (.aload_n 0, 1) := by decide +kernel
theorem dX0_takenOfMonthsBefore_1 : decode cX0_takenOfMonthsBefore 1 = .ok (.getfield 9, 3) := by decide +kernel
theorem dX0_takenOfMonthsBefore_4 : decode cX0_takenOfMonthsBefore 4 = .ok (.iload_n 1, 1) := by decide +kernel
theorem dX0_takenOfMonthsBefore_5 : decode cX0_takenOfMonthsBefore 5 = .ok (.iaload, 1) := by decide +kernel
theorem dX0_takenOfMonthsBefore_6 : decode cX0_takenOfMonthsBefore 6 = .ok (.iconst 5, 1) := by decide +kernel
theorem dX0_takenOfMonthsBefore_7 : decode cX0_takenOfMonthsBefore 7 = .ok (.idiv, 1) := by decide +kernel
theorem dX0_takenOfMonthsBefore_8 : decode cX0_takenOfMonthsBefore 8 = .ok (.istore 4, 2) := by decide +kernel
theorem dX0_takenOfMonthsBefore_10 : decode cX0_takenOfMonthsBefore 10 = .ok (.iconst 0, 1) := by decide +kernel
theorem dX0_takenOfMonthsBefore_11 : decode cX0_takenOfMonthsBefore 11 = .ok (.istore 5, 2) := by decide +kernel
theorem dX0_takenOfMonthsBefore_13 : decode cX0_takenOfMonthsBefore 13 = .ok (.iconst 0, 1) := by decide +kernel
theorem dX0_takenOfMonthsBefore_14 : decode cX0_takenOfMonthsBefore 14 = .ok (.istore 6, 2) := by decide +kernel
theorem dX0_takenOfMonthsBefore_16 : decode cX0_takenOfMonthsBefore 16 = .ok (.iload 6, 2) := by decide +kernel
theorem dX0_takenOfMonthsBefore_18 : decode cX0_takenOfMonthsBefore 18 = .ok (.iload_n 2, 1) := by decide +kernel
theorem dX0_takenOfMonthsBefore_19 : decode cX0_takenOfMonthsBefore 19 = .ok (.if_icmp .ge 84, 3) := by decide +kernel
theorem dX0_takenOfMonthsBefore_22 : decode cX0_takenOfMonthsBefore 22 = .ok (.aload_n 0, 1) := by decide +kernel
theorem dX0_takenOfMonthsBefore_23 : decode cX0_takenOfMonthsBefore 23 = .ok (.getfield 21, 3) := by decide +kernel
theorem dX0_takenOfMonthsBefore_26 : decode cX0_takenOfMonthsBefore 26 = .ok (.iload_n 1, 1) := by decide +kernel
theorem dX0_takenOfMonthsBefore_27 : decode cX0_takenOfMonthsBefore 27 = .ok (.aaload, 1) := by decide +kernel
theorem dX0_takenOfMonthsBefore_28 : decode cX0_takenOfMonthsBefore 28 = .ok (.iload 6, 2) := by decide +kernel
theorem dX0_takenOfMonthsBefore_30 : decode cX0_takenOfMonthsBefore 30 = .ok (.iaload, 1) := by decide +kernel
theorem dX0_takenOfMonthsBefore_31 : decode cX0_takenOfMonthsBefore 31 = .ok (.iconst 2, 1) := by decide +kernel
theorem dX0_takenOfMonthsBefore_32 : decode cX0_takenOfMonthsBefore 32 = .ok (.idiv, 1) := by decide +kernel
theorem dX0_takenOfMonthsBefore_33 : decode cX0_takenOfMonthsBefore 33 = .ok (.istore 7, 2) := by decide +kernel
theorem dX0_takenOfMonthsBefore_35 : decode cX0_takenOfMonthsBefore 35 = .ok (.aload_n 0, 1) := by decide +kernel
theorem dX0_takenOfMonthsBefore_36 : decode cX0_takenOfMonthsBefore 36 = .ok (.getfield 21, 3) := by decide +kernel
theorem dX0_takenOfMonthsBefore_39 : decode cX0_takenOfMonthsBefore 39 = .ok (.iload_n 1, 1) := by decide +kernel
theorem dX0_takenOfMonthsBefore_40 : decode cX0_takenOfMonthsBefore 40 = .ok (.aaload, 1) := by decide +kernel
theorem dX0_takenOfMonthsBefore_41 : decode cX0_takenOfMonthsBefore 41 = .ok (.iload 6, 2) := by decide +kernel
theorem dX0_takenOfMonthsBefore_43 : decode cX0_takenOfMonthsBefore 43 = .ok (.iaload, 1) := by decide +kernel
theorem dX0_takenOfMonthsBefore_44 : decode cX0_takenOfMonthsBefore 44 = .ok (.iload 7, 2) := by decide +kernel
theorem dX0_takenOfMonthsBefore_46 : decode cX0_takenOfMonthsBefore 46 = .ok (.isub, 1) := by decide +kernel
theorem dX0_takenOfMonthsBefore_47 : decode cX0_takenOfMonthsBefore 47 = .ok (.istore 8, 2) := by decide +kernel
theorem dX0_takenOfMonthsBefore_49 : decode cX0_takenOfMonthsBefore 49 = .ok (.iload 5, 2) := by decide +kernel
theorem dX0_takenOfMonthsBefore_51 : decode cX0_takenOfMonthsBefore 51 = .ok (.iload 6, 2) := by decide +kernel
theorem dX0_takenOfMonthsBefore_53 : decode cX0_takenOfMonthsBefore 53 = .ok (.iload 4, 2) := by decide +kernel
theorem dX0_takenOfMonthsBefore_55 : decode cX0_takenOfMonthsBefore 55 = .ok (.iadd, 1) := by decide +kernel
theorem dX0_takenOfMonthsBefore_56 : decode cX0_takenOfMonthsBefore 56 = .ok (.iload_n 3, 1) := by decide +kernel
theorem dX0_takenOfMonthsBefore_57 : decode cX0_takenOfMonthsBefore 57 = .ok (.invokestatic 144, 3) := by decide +kernel
theorem dX0_takenOfMonthsBefore_60 : decode cX0_takenOfMonthsBefore 60 = .ok (.ifCond .eq 8, 3) := by decide +kernel
theorem dX0_takenOfMonthsBefore_63 : decode cX0_takenOfMonthsBefore 63 = .ok (.iload 8, 2) := by decide +kernel
theorem dX0_takenOfMonthsBefore_65 : decode cX0_takenOfMonthsBefore 65 = .ok (.goto 4, 3) := by decide +kernel
theorem dX0_takenOfMonthsBefore_68 : decode cX0_takenOfMonthsBefore 68 = .ok (.iconst 0, 1) := by decide +kernel
theorem dX0_takenOfMonthsBefore_69 : decode cX0_takenOfMonthsBefore 69 = .ok (.iadd, 1) := by decide +kernel
theorem dX0_takenOfMonthsBefore_70 : decode cX0_takenOfMonthsBefore 70 = .ok (.istore 5, 2) := by decide +kernel
theorem dX0_takenOfMonthsBefore_72 : decode cX0_takenOfMonthsBefore 72 = .ok (.iload 5, 2) := by decide +kernel
theorem dX0_takenOfMonthsBefore_74 : decode cX0_takenOfMonthsBefore 74 = .ok (.iload 6, 2) := by decide +kernel
theorem dX0_takenOfMonthsBefore_76 : decode cX0_takenOfMonthsBefore 76 = .ok (.iload 4, 2) := by decide +kernel
theorem dX0_takenOfMonthsBefore_78 : decode cX0_takenOfMonthsBefore 78 = .ok (.iadd, 1) := by decide +kernel
theorem dX0_takenOfMonthsBefore_79 : decode cX0_takenOfMonthsBefore 79 = .ok (.iconst 1, 1) := by decide +kernel
theorem dX0_takenOfMonthsBefore_80 : decode cX0_takenOfMonthsBefore 80 = .ok (.iadd, 1) := by decide +kernel
theorem dX0_takenOfMonthsBefore_81 : decode cX0_takenOfMonthsBefore 81 = .ok (.iload_n 3, 1) := by decide +kernel
theorem dX0_takenOfMonthsBefore_82 : decode cX0_takenOfMonthsBefore 82 = .ok (.invokestatic 144, 3) := by decide +kernel
theorem dX0_takenOfMonthsBefore_85 : decode cX0_takenOfMonthsBefore 85 = .ok (.ifCond .eq 8, 3) := by decide +kernel
theorem dX0_takenOfMonthsBefore_88 : decode cX0_takenOfMonthsBefore 88 = .ok (.iload 7, 2) := by decide +kernel
theorem dX0_takenOfMonthsBefore_90 : decode cX0_takenOfMonthsBefore 90 = .ok (.goto 4, 3) := by decide +kernel
theorem dX0_takenOfMonthsBefore_93 : decode cX0_takenOfMonthsBefore 93 = .ok (.iconst 0, 1) := by decide +kernel
theorem dX0_takenOfMonthsBefore_94 : decode cX0_takenOfMonthsBefore 94 = .ok (.iadd, 1) := by decide +kernel
theorem dX0_takenOfMonthsBefore_95 : decode cX0_takenOfMonthsBefore 95 = .ok (.istore 5, 2) := by decide +kernel
theorem dX0_takenOfMonthsBefore_97 : decode cX0_takenOfMonthsBefore 97 = .ok (.iinc 6 1, 3) := by decide +kernel
theorem dX0_takenOfMonthsBefore_100 : decode cX0_takenOfMonthsBefore 100 = .ok (.goto (-84), 3) := by decide +kernel
theorem dX0_takenOfMonthsBefore_103 : decode cX0_takenOfMonthsBefore 103 = .ok (.iload 5, 2) := by decide +kernel
theorem dX0_takenOfMonthsBefore_105 : decode cX0_takenOfMonthsBefore 105 = .ok (.ireturn, 1) := by decide +kernel
theorem dX0_isInYear_0 : decode cX0_isInYear 0 = .ok (.iload_n 0, 1) := by decide +kernel
theorem dX0_isInYear_1 : decode cX0_isInYear 1 = .ok (.bipush 12, 2) := by decide +kernel
theorem dX0_isInYear_3 : decode cX0_isInYear 3 = .ok (.idiv, 1) := by decide +kernel
theorem dX0_isInYear_4 : decode cX0_isInYear 4 = .ok (.iload_n 1, 1) := by decide +kernel
theorem dX0_isInYear_5 : decode cX0_isInYear 5 = .ok (.if_icmp .ne 7, 3) := by decide +kernel
theorem dX0_isInYear_8 : decode cX0_isInYear 8 = .ok (.iconst 1, 1) := by decide +kernel
theorem dX0_isInYear_9 : decode cX0_isInYear 9 = .ok (.goto 4, 3) := by decide +kernel
theorem dX0_isInYear_12 : decode cX0_isInYear 12 = .ok (.iconst 0, 1) := by decide +kernel
theorem dX0_isInYear_13 : decode cX0_isInYear 13 = .ok (.ireturn, 1) := by decide +kernel
set_option maxRecDepth 20000 in
theorem ggX0_burdenOfUnits_X0_reachOf : GoodIn wsX0_burdenOfUnits wsX0_reachOf := goodIn_r _ [6, 7, 8, 9, 10, 11, 12, 13, 14, 15, 16, 17, 18, 19, 20, 21, 22, 23, 24] (by decide +kernel) (by decide +kernel)
set_option maxRecDepth 20000 in
theorem gX0_burdenOfUnits_X0_reachOf : GoodIn wsX0_burdenOfUnits (wsV RX0 78 RX0 yX0_reachOf wsX0_reachOf) := goodIn_app (goodIn_of _ (by decide +kernel)) ggX0_burdenOfUnits_X0_reachOf
theorem dX0_burdenOfUnits_0 : decode cX0_burdenOfUnits 0 = .ok (.aload_n 0, 1) := by decide +kernel
theorem dX0_burdenOfUnits_1 : decode cX0_burdenOfUnits 1 = .ok (.iload_n 1, 1) := by decide +kernel
theorem dX0_burdenOfUnits_2 : decode cX0_burdenOfUnits 2 = .ok (.iload_n 2, 1) := by decide +kernel
theorem dX0_burdenOfUnits_3 : decode cX0_burdenOfUnits 3 = .ok (.invokevirtual 78, 3) := by decide +kernel
theorem dX0_burdenOfUnits_6 : decode cX0_burdenOfUnits 6 = .ok (.istore 4, 2) := by decide +kernel
theorem dX0_burdenOfUnits_8 : decode cX0_burdenOfUnits 8 = .ok (.iload 4, 2) := by decide +kernel
theorem dX0_burdenOfUnits_10 : decode cX0_burdenOfUnits 10 = .ok (.iconst 5, 1) := by decide +kernel
theorem dX0_burdenOfUnits_11 : decode cX0_burdenOfUnits 11 = .ok (.if_icmp .ge 17, 3) := by decide +kernel
theorem dX0_burdenOfUnits_14 : decode cX0_burdenOfUnits 14 = .ok (.iload_n 3, 1) := by decide +kernel
theorem dX0_burdenOfUnits_15 : decode cX0_burdenOfUnits 15 = .ok (.i2l, 1) := by decide +kernel
theorem dX0_burdenOfUnits_16 : decode cX0_burdenOfUnits 16 = .ok (.aload_n 0, 1) := by decide +kernel
theorem dX0_burdenOfUnits_17 : decode cX0_burdenOfUnits 17 = .ok (.getfield 33, 3) := by decide +kernel
theorem dX0_burdenOfUnits_20 : decode cX0_burdenOfUnits 20 = .ok (.iload 4, 2) := by decide +kernel
theorem dX0_burdenOfUnits_22 : decode cX0_burdenOfUnits 22 = .ok (.iaload, 1) := by decide +kernel
theorem dX0_burdenOfUnits_23 : decode cX0_burdenOfUnits 23 = .ok (.i2l, 1) := by decide +kernel
theorem dX0_burdenOfUnits_24 : decode cX0_burdenOfUnits 24 = .ok (.lmul, 1) := by decide +kernel
theorem dX0_burdenOfUnits_25 : decode cX0_burdenOfUnits 25 = .ok (.goto 4, 3) := by decide +kernel
theorem dX0_burdenOfUnits_28 : decode cX0_burdenOfUnits 28 = .ok (.lconst 0, 1) := by decide +kernel
theorem dX0_burdenOfUnits_29 : decode cX0_burdenOfUnits 29 = .ok (.lreturn, 1) := by decide +kernel
theorem dX0_unitsGot_0 : decode cX0_unitsGot 0 = .ok (.iload_n 3, 1) := by decide +kernel
theorem dX0_unitsGot_1 : decode cX0_unitsGot 1 = .ok (.aload_n 0, 1) := by decide +kernel
theorem dX0_unitsGot_2 : decode cX0_unitsGot 2 = .ok (.getfield 36, 3) := by decide +kernel
theorem dX0_unitsGot_5 : decode cX0_unitsGot 5 = .ok (.aload_n 0, 1) := by decide +kernel
theorem dX0_unitsGot_6 : decode cX0_unitsGot 6 = .ok (.getfield 13, 3) := by decide +kernel
theorem dX0_unitsGot_9 : decode cX0_unitsGot 9 = .ok (.iload_n 1, 1) := by decide +kernel
theorem dX0_unitsGot_10 : decode cX0_unitsGot 10 = .ok (.iaload, 1) := by decide +kernel
theorem dX0_unitsGot_11 : decode cX0_unitsGot 11 = .ok (.aaload, 1) := by decide +kernel
theorem dX0_unitsGot_12 : decode cX0_unitsGot 12 = .ok (.aload_n 0, 1) := by decide +kernel
theorem dX0_unitsGot_13 : decode cX0_unitsGot 13 = .ok (.getfield 13, 3) := by decide +kernel
theorem dX0_unitsGot_16 : decode cX0_unitsGot 16 = .ok (.iload_n 2, 1) := by decide +kernel
theorem dX0_unitsGot_17 : decode cX0_unitsGot 17 = .ok (.iaload, 1) := by decide +kernel
theorem dX0_unitsGot_18 : decode cX0_unitsGot 18 = .ok (.iaload, 1) := by decide +kernel
theorem dX0_unitsGot_19 : decode cX0_unitsGot 19 = .ok (.imul, 1) := by decide +kernel
theorem dX0_unitsGot_20 : decode cX0_unitsGot 20 = .ok (.bipush 100, 2) := by decide +kernel
theorem dX0_unitsGot_22 : decode cX0_unitsGot 22 = .ok (.idiv, 1) := by decide +kernel
theorem dX0_unitsGot_23 : decode cX0_unitsGot 23 = .ok (.ireturn, 1) := by decide +kernel
set_option maxRecDepth 20000 in
theorem ggX0_canTrade_X0_unitsGot : GoodIn wsX0_canTrade wsX0_unitsGot := goodIn_r _ [7, 8, 9, 25, 26, 27, 28, 29, 30, 31, 32, 33, 34, 35, 36] (by decide +kernel) (by decide +kernel)
set_option maxRecDepth 20000 in
theorem gX0_canTrade_X0_unitsGot : GoodIn wsX0_canTrade (wsV RX0 111 RX0 yX0_unitsGot wsX0_unitsGot) := goodIn_app (goodIn_of _ (by decide +kernel)) ggX0_canTrade_X0_unitsGot
set_option maxRecDepth 20000 in
theorem ggX0_canTrade_X0_burdenOfUnits : GoodIn wsX0_canTrade wsX0_burdenOfUnits := goodIn_r _ [13, 14, 15, 16, 17, 6, 18, 19, 20, 21, 22, 23, 24, 25, 26, 27, 28, 29, 30, 31, 32, 33, 34, 35, 36] (by decide +kernel) (by decide +kernel)
set_option maxRecDepth 20000 in
theorem gX0_canTrade_X0_burdenOfUnits : GoodIn wsX0_canTrade (wsV RX0 101 RX0 yX0_burdenOfUnits wsX0_burdenOfUnits) := goodIn_app (goodIn_of _ (by decide +kernel)) ggX0_canTrade_X0_burdenOfUnits
theorem dX0_canTrade_0 : decode cX0_canTrade 0 = .ok (.aload_n 0, 1) := by decide +kernel
theorem dX0_canTrade_1 : decode cX0_canTrade 1 = .ok (.iload_n 1, 1) := by decide +kernel
theorem dX0_canTrade_2 : decode cX0_canTrade 2 = .ok (.iload_n 2, 1) := by decide +kernel
theorem dX0_canTrade_3 : decode cX0_canTrade 3 = .ok (.iload_n 3, 1) := by decide +kernel
theorem dX0_canTrade_4 : decode cX0_canTrade 4 = .ok (.invokevirtual 111, 3) := by decide +kernel
theorem dX0_canTrade_7 : decode cX0_canTrade 7 = .ok (.istore 4, 2) := by decide +kernel
theorem dX0_canTrade_9 : decode cX0_canTrade 9 = .ok (.aload_n 0, 1) := by decide +kernel
theorem dX0_canTrade_10 : decode cX0_canTrade 10 = .ok (.getfield 16, 3) := by decide +kernel
theorem dX0_canTrade_13 : decode cX0_canTrade 13 = .ok (.iload_n 1, 1) := by decide +kernel
theorem dX0_canTrade_14 : decode cX0_canTrade 14 = .ok (.iaload, 1) := by decide +kernel
theorem dX0_canTrade_15 : decode cX0_canTrade 15 = .ok (.iload_n 3, 1) := by decide +kernel
theorem dX0_canTrade_16 : decode cX0_canTrade 16 = .ok (.if_icmp .lt 18, 3) := by decide +kernel
theorem dX0_canTrade_19 : decode cX0_canTrade 19 = .ok (.aload_n 0, 1) := by decide +kernel
theorem dX0_canTrade_20 : decode cX0_canTrade 20 = .ok (.getfield 16, 3) := by decide +kernel
theorem dX0_canTrade_23 : decode cX0_canTrade 23 = .ok (.iload_n 2, 1) := by decide +kernel
theorem dX0_canTrade_24 : decode cX0_canTrade 24 = .ok (.iaload, 1) := by decide +kernel
theorem dX0_canTrade_25 : decode cX0_canTrade 25 = .ok (.iload 4, 2) := by decide +kernel
theorem dX0_canTrade_27 : decode cX0_canTrade 27 = .ok (.iadd, 1) := by decide +kernel
theorem dX0_canTrade_28 : decode cX0_canTrade 28 = .ok (.sipush 20000, 3) := by decide +kernel
theorem dX0_canTrade_31 : decode cX0_canTrade 31 = .ok (.if_icmp .le 5, 3) := by decide +kernel
theorem dX0_canTrade_34 : decode cX0_canTrade 34 = .ok (.iconst 0, 1) := by decide +kernel
theorem dX0_canTrade_35 : decode cX0_canTrade 35 = .ok (.ireturn, 1) := by decide +kernel
theorem dX0_canTrade_36 : decode cX0_canTrade 36 = .ok (.iconst 0, 1) := by decide +kernel
theorem dX0_canTrade_37 : decode cX0_canTrade 37 = .ok (.istore 5, 2) := by decide +kernel
theorem dX0_canTrade_39 : decode cX0_canTrade 39 = .ok (.iload 5, 2) := by decide +kernel
theorem dX0_canTrade_41 : decode cX0_canTrade 41 = .ok (.aload_n 0, 1) := by decide +kernel
theorem dX0_canTrade_42 : decode cX0_canTrade 42 = .ok (.getfield 55, 3) := by decide +kernel
theorem dX0_canTrade_45 : decode cX0_canTrade 45 = .ok (.if_icmp .ge 32, 3) := by decide +kernel
theorem dX0_canTrade_48 : decode cX0_canTrade 48 = .ok (.aload_n 0, 1) := by decide +kernel
theorem dX0_canTrade_49 : decode cX0_canTrade 49 = .ok (.iload_n 2, 1) := by decide +kernel
theorem dX0_canTrade_50 : decode cX0_canTrade 50 = .ok (.iload 5, 2) := by decide +kernel
theorem dX0_canTrade_52 : decode cX0_canTrade 52 = .ok (.iload 4, 2) := by decide +kernel
theorem dX0_canTrade_54 : decode cX0_canTrade 54 = .ok (.invokevirtual 101, 3) := by decide +kernel
theorem dX0_canTrade_57 : decode cX0_canTrade 57 = .ok (.aload_n 0, 1) := by decide +kernel
theorem dX0_canTrade_58 : decode cX0_canTrade 58 = .ok (.iload_n 1, 1) := by decide +kernel
theorem dX0_canTrade_59 : decode cX0_canTrade 59 = .ok (.iload 5, 2) := by decide +kernel
theorem dX0_canTrade_61 : decode cX0_canTrade 61 = .ok (.iload_n 3, 1) := by decide +kernel
theorem dX0_canTrade_62 : decode cX0_canTrade 62 = .ok (.invokevirtual 101, 3) := by decide +kernel
theorem dX0_canTrade_65 : decode cX0_canTrade 65 = .ok (.lcmp, 1) := by decide +kernel
theorem dX0_canTrade_66 : decode cX0_canTrade 66 = .ok (.ifCond .le 5, 3) := by decide +kernel
theorem dX0_canTrade_69 : decode cX0_canTrade 69 = .ok (.iconst 0, 1) := by decide +kernel
theorem dX0_canTrade_70 : decode cX0_canTrade 70 = .ok (.ireturn, 1) := by decide +kernel
theorem dX0_canTrade_71 : decode cX0_canTrade 71 = .ok (.iinc 5 1, 3) := by decide +kernel
theorem dX0_canTrade_74 : decode cX0_canTrade 74 = .ok (.goto (-35), 3) := by decide +kernel
theorem dX0_canTrade_77 : decode cX0_canTrade 77 = .ok (.iconst 1, 1) := by decide +kernel
theorem dX0_canTrade_78 : decode cX0_canTrade 78 = .ok (.ireturn, 1) := by decide +kernel
theorem dX1_init_0 : decode cX1_init 0 = .ok (.aload_n 0, 1) := by decide +kernel
theorem dX1_init_1 : decode cX1_init 1 = .ok (.invokespecial 1, 3) := by decide +kernel
theorem dX1_init_4 : decode cX1_init 4 = .ok (.aload_n 0, 1) := by decide +kernel
theorem dX1_init_5 : decode cX1_init 5 = .ok (.bipush 8, 2) := by decide +kernel
theorem dX1_init_7 : decode cX1_init 7 = .ok (.newarray .int, 2) := by decide +kernel
theorem dX1_init_9 : decode cX1_init 9 = .ok (.putfield 7, 3) := by decide +kernel
theorem dX1_init_12 : decode cX1_init 12 = .ok (.aload_n 0, 1) := by decide +kernel
theorem dX1_init_13 : decode cX1_init 13 = .ok (.bipush 8, 2) := by decide +kernel
theorem dX1_init_15 : decode cX1_init 15 = .ok (.newarray .int, 2) := by decide +kernel
theorem dX1_init_17 : decode cX1_init 17 = .ok (.putfield 13, 3) := by decide +kernel
theorem dX1_init_20 : decode cX1_init 20 = .ok (.aload_n 0, 1) := by decide +kernel
theorem dX1_init_21 : decode cX1_init 21 = .ok (.bipush 8, 2) := by decide +kernel
theorem dX1_init_23 : decode cX1_init 23 = .ok (.newarray .int, 2) := by decide +kernel
theorem dX1_init_25 : decode cX1_init 25 = .ok (.putfield 16, 3) := by decide +kernel
theorem dX1_init_28 : decode cX1_init 28 = .ok (.aload_n 0, 1) := by decide +kernel
theorem dX1_init_29 : decode cX1_init 29 = .ok (.sipush 288, 3) := by decide +kernel
theorem dX1_init_32 : decode cX1_init 32 = .ok (.newarray .int, 2) := by decide +kernel
theorem dX1_init_34 : decode cX1_init 34 = .ok (.putfield 19, 3) := by decide +kernel
theorem dX1_init_37 : decode cX1_init 37 = .ok (.aload_n 0, 1) := by decide +kernel
theorem dX1_init_38 : decode cX1_init 38 = .ok (.iconst 4, 1) := by decide +kernel
theorem dX1_init_39 : decode cX1_init 39 = .ok (.newarray .int, 2) := by decide +kernel
theorem dX1_init_41 : decode cX1_init 41 = .ok (.putfield 22, 3) := by decide +kernel
theorem dX1_init_44 : decode cX1_init 44 = .ok (.aload_n 0, 1) := by decide +kernel
theorem dX1_init_45 : decode cX1_init 45 = .ok (.iconst 4, 1) := by decide +kernel
theorem dX1_init_46 : decode cX1_init 46 = .ok (.newarray .int, 2) := by decide +kernel
theorem dX1_init_48 : decode cX1_init 48 = .ok (.putfield 25, 3) := by decide +kernel
theorem dX1_init_51 : decode cX1_init 51 = .ok (.aload_n 0, 1) := by decide +kernel
theorem dX1_init_52 : decode cX1_init 52 = .ok (.bipush 60, 2) := by decide +kernel
theorem dX1_init_54 : decode cX1_init 54 = .ok (.newarray .int, 2) := by decide +kernel
theorem dX1_init_56 : decode cX1_init 56 = .ok (.putfield 28, 3) := by decide +kernel
theorem dX1_init_59 : decode cX1_init 59 = .ok (.aload_n 0, 1) := by decide +kernel
theorem dX1_init_60 : decode cX1_init 60 = .ok (.bipush 9, 2) := by decide +kernel
theorem dX1_init_62 : decode cX1_init 62 = .ok (.newarray .int, 2) := by decide +kernel
theorem dX1_init_64 : decode cX1_init 64 = .ok (.putfield 31, 3) := by decide +kernel
theorem dX1_init_67 : decode cX1_init 67 = .ok (.iconst 0, 1) := by decide +kernel
theorem dX1_init_68 : decode cX1_init 68 = .ok (.istore_n 1, 1) := by decide +kernel
theorem dX1_init_69 : decode cX1_init 69 = .ok (.iload_n 1, 1) := by decide +kernel
theorem dX1_init_70 : decode cX1_init 70 = .ok (.bipush 9, 2) := by decide +kernel
theorem dX1_init_72 : decode cX1_init 72 = .ok (.if_icmp .ge 17, 3) := by decide +kernel
theorem dX1_init_75 : decode cX1_init 75 = .ok (.aload_n 0, 1) := by decide +kernel
theorem dX1_init_76 : decode cX1_init 76 = .ok (.getfield 31, 3) := by decide +kernel
theorem dX1_init_79 : decode cX1_init 79 = .ok (.iload_n 1, 1) := by decide +kernel
theorem dX1_init_80 : decode cX1_init 80 = .ok (.bipush 100, 2) := by decide +kernel
theorem dX1_init_82 : decode cX1_init 82 = .ok (.iastore, 1) := by decide +kernel
theorem dX1_init_83 : decode cX1_init 83 = .ok (.iinc 1 1, 3) := by decide +kernel
theorem dX1_init_86 : decode cX1_init 86 = .ok (.goto (-17), 3) := by decide +kernel
theorem dX1_init_89 : decode cX1_init 89 = .ok (.return_, 1) := by decide +kernel
theorem dX1_thrown_0 : decode cX1_thrown 0 = .ok (.aload_n 0, 1) := by decide +kernel
theorem dX1_thrown_1 : decode cX1_thrown 1 = .ok (.getfield 34, 3) := by decide +kernel
theorem dX1_thrown_4 : decode cX1_thrown 4 = .ok (.ireturn, 1) := by decide +kernel
theorem dX1_may_0 : decode cX1_may 0 = .ok (.aload_n 0, 1) := by decide +kernel
theorem dX1_may_1 : decode cX1_may 1 = .ok (.iload_n 1, 1) := by decide +kernel
theorem dX1_may_2 : decode cX1_may 2 = .ok (.ifCond .eq 7, 3) := by decide +kernel
theorem dX1_may_5 : decode cX1_may 5 = .ok (.iconst 0, 1) := by decide +kernel
theorem dX1_may_6 : decode cX1_may 6 = .ok (.goto 4, 3) := by decide +kernel
theorem dX1_may_9 : decode cX1_may 9 = .ok (.iconst 1, 1) := by decide +kernel
theorem dX1_may_10 : decode cX1_may 10 = .ok (.putfield 34, 3) := by decide +kernel
theorem dX1_may_13 : decode cX1_may 13 = .ok (.iload_n 1, 1) := by decide +kernel
theorem dX1_may_14 : decode cX1_may 14 = .ok (.ireturn, 1) := by decide +kernel
theorem dX1_mayBoth_0 : decode cX1_mayBoth 0 = .ok (.aload_n 0, 1) := by decide +kernel
theorem dX1_mayBoth_1 : decode cX1_mayBoth 1 = .ok (.iload_n 1, 1) := by decide +kernel
theorem dX1_mayBoth_2 : decode cX1_mayBoth 2 = .ok (.ifCond .ne 7, 3) := by decide +kernel
theorem dX1_mayBoth_5 : decode cX1_mayBoth 5 = .ok (.iconst 1, 1) := by decide +kernel
theorem dX1_mayBoth_6 : decode cX1_mayBoth 6 = .ok (.goto 12, 3) := by decide +kernel
theorem dX1_mayBoth_9 : decode cX1_mayBoth 9 = .ok (.iload_n 2, 1) := by decide +kernel
theorem dX1_mayBoth_10 : decode cX1_mayBoth 10 = .ok (.ifCond .ne 7, 3) := by decide +kernel
theorem dX1_mayBoth_13 : decode cX1_mayBoth 13 = .ok (.iconst 2, 1) := by decide +kernel
theorem dX1_mayBoth_14 : decode cX1_mayBoth 14 = .ok (.goto 4, 3) := by decide +kernel
theorem dX1_mayBoth_17 : decode cX1_mayBoth 17 = .ok (.iconst 0, 1) := by decide +kernel
theorem dX1_mayBoth_18 : decode cX1_mayBoth 18 = .ok (.putfield 34, 3) := by decide +kernel
theorem dX1_mayBoth_21 : decode cX1_mayBoth 21 = .ok (.aload_n 0, 1) := by decide +kernel
theorem dX1_mayBoth_22 : decode cX1_mayBoth 22 = .ok (.getfield 34, 3) := by decide +kernel
theorem dX1_mayBoth_25 : decode cX1_mayBoth 25 = .ok (.ifCond .ne 7, 3) := by decide +kernel
theorem dX1_mayBoth_28 : decode cX1_mayBoth 28 = .ok (.iconst 1, 1) := by decide +kernel
theorem dX1_mayBoth_29 : decode cX1_mayBoth 29 = .ok (.goto 4, 3) := by decide +kernel
theorem dX1_mayBoth_32 : decode cX1_mayBoth 32 = .ok (.iconst 0, 1) := by decide +kernel
theorem dX1_mayBoth_33 : decode cX1_mayBoth 33 = .ok (.ireturn, 1) := by decide +kernel
theorem dX1_mayAll_0 : decode cX1_mayAll 0 = .ok (.aload_n 0, 1) := by decide +kernel
theorem dX1_mayAll_1 : decode cX1_mayAll 1 = .ok (.iload_n 1, 1) := by decide +kernel
theorem dX1_mayAll_2 : decode cX1_mayAll 2 = .ok (.ifCond .ne 7, 3) := by decide +kernel
theorem dX1_mayAll_5 : decode cX1_mayAll 5 = .ok (.iconst 1, 1) := by decide +kernel
theorem dX1_mayAll_6 : decode cX1_mayAll 6 = .ok (.goto 20, 3) := by decide +kernel
theorem dX1_mayAll_9 : decode cX1_mayAll 9 = .ok (.iload_n 2, 1) := by decide +kernel
theorem dX1_mayAll_10 : decode cX1_mayAll 10 = .ok (.ifCond .ne 7, 3) := by decide +kernel
theorem dX1_mayAll_13 : decode cX1_mayAll 13 = .ok (.iconst 2, 1) := by decide +kernel
theorem dX1_mayAll_14 : decode cX1_mayAll 14 = .ok (.goto 12, 3) := by decide +kernel
theorem dX1_mayAll_17 : decode cX1_mayAll 17 = .ok (.iload_n 3, 1) := by decide +kernel
theorem dX1_mayAll_18 : decode cX1_mayAll 18 = .ok (.ifCond .ne 7, 3) := by decide +kernel
theorem dX1_mayAll_21 : decode cX1_mayAll 21 = .ok (.iconst 3, 1) := by decide +kernel
theorem dX1_mayAll_22 : decode cX1_mayAll 22 = .ok (.goto 4, 3) := by decide +kernel
theorem dX1_mayAll_25 : decode cX1_mayAll 25 = .ok (.iconst 0, 1) := by decide +kernel
theorem dX1_mayAll_26 : decode cX1_mayAll 26 = .ok (.putfield 34, 3) := by decide +kernel
theorem dX1_mayAll_29 : decode cX1_mayAll 29 = .ok (.aload_n 0, 1) := by decide +kernel
theorem dX1_mayAll_30 : decode cX1_mayAll 30 = .ok (.getfield 34, 3) := by decide +kernel
theorem dX1_mayAll_33 : decode cX1_mayAll 33 = .ok (.ifCond .ne 7, 3) := by decide +kernel
theorem dX1_mayAll_36 : decode cX1_mayAll 36 = .ok (.iconst 1, 1) := by decide +kernel
theorem dX1_mayAll_37 : decode cX1_mayAll 37 = .ok (.goto 4, 3) := by decide +kernel
theorem dX1_mayAll_40 : decode cX1_mayAll 40 = .ok (.iconst 0, 1) := by decide +kernel
theorem dX1_mayAll_41 : decode cX1_mayAll 41 = .ok (.ireturn, 1) := by decide +kernel
theorem dX1_isIn_0 : decode cX1_isIn 0 = .ok (.iload_n 0, 1) := by decide +kernel
theorem dX1_isIn_1 : decode cX1_isIn 1 = .ok (.iload_n 1, 1) := by decide +kernel
theorem dX1_isIn_2 : decode cX1_isIn 2 = .ok (.if_icmp .lt 12, 3) := by decide +kernel
theorem dX1_isIn_5 : decode cX1_isIn 5 = .ok (.iload_n 0, 1) := by decide +kernel
theorem dX1_isIn_6 : decode cX1_isIn 6 = .ok (.iload_n 2, 1) := by decide +kernel
theorem dX1_isIn_7 : decode cX1_isIn 7 = .ok (.if_icmp .gt 7, 3) := by decide +kernel
theorem dX1_isIn_10 : decode cX1_isIn 10 = .ok (.iconst 1, 1) := by decide +kernel
theorem dX1_isIn_11 : decode cX1_isIn 11 = .ok (.goto 4, 3) := by decide +kernel
theorem dX1_isIn_14 : decode cX1_isIn 14 = .ok (.iconst 0, 1) := by decide +kernel
theorem dX1_isIn_15 : decode cX1_isIn 15 = .ok (.ireturn, 1) := by decide +kernel
set_option maxRecDepth 20000 in
theorem ggX1_isWell_X1_isIn : GoodIn wsX1_isWell wsX1_isIn := goodIn_r _ [5] (by decide +kernel) (by decide +kernel)
set_option maxRecDepth 20000 in
theorem gX1_isWell_X1_isIn : GoodIn wsX1_isWell (va_wsS RX1 41 yX1_isIn wsX1_isIn) := goodIn_app (goodIn_of _ (by decide +kernel)) ggX1_isWell_X1_isIn
theorem dX1_isWell_0 : decode cX1_isWell 0 = .ok (.iload_n 1, 1) := by decide +kernel
theorem dX1_isWell_1 : decode cX1_isWell 1 = .ok (.iconst 0, 1) := by decide +kernel
theorem dX1_isWell_2 : decode cX1_isWell 2 = .ok (.aload_n 0, 1) := by decide +kernel
theorem dX1_isWell_3 : decode cX1_isWell 3 = .ok (.getfield 38, 3) := by decide +kernel
theorem dX1_isWell_6 : decode cX1_isWell 6 = .ok (.iconst 1, 1) := by decide +kernel
theorem dX1_isWell_7 : decode cX1_isWell 7 = .ok (.isub, 1) := by decide +kernel
theorem dX1_isWell_8 : decode cX1_isWell 8 = .ok (.invokestatic 41, 3) := by decide +kernel
theorem dX1_isWell_11 : decode cX1_isWell 11 = .ok (.ireturn, 1) := by decide +kernel
set_option maxRecDepth 20000 in
theorem ggX1_isWatch_X1_isIn : GoodIn wsX1_isWatch wsX1_isIn := goodIn_r _ [5] (by decide +kernel) (by decide +kernel)
set_option maxRecDepth 20000 in
theorem gX1_isWatch_X1_isIn : GoodIn wsX1_isWatch (va_wsS RX1 41 yX1_isIn wsX1_isIn) := goodIn_app (goodIn_of _ (by decide +kernel)) ggX1_isWatch_X1_isIn
theorem dX1_isWatch_0 : decode cX1_isWatch 0 = .ok (.iload_n 1, 1) := by decide +kernel
theorem dX1_isWatch_1 : decode cX1_isWatch 1 = .ok (.iconst 0, 1) := by decide +kernel
theorem dX1_isWatch_2 : decode cX1_isWatch 2 = .ok (.aload_n 0, 1) := by decide +kernel
theorem dX1_isWatch_3 : decode cX1_isWatch 3 = .ok (.getfield 45, 3) := by decide +kernel
theorem dX1_isWatch_6 : decode cX1_isWatch 6 = .ok (.iconst 1, 1) := by decide +kernel
theorem dX1_isWatch_7 : decode cX1_isWatch 7 = .ok (.isub, 1) := by decide +kernel
theorem dX1_isWatch_8 : decode cX1_isWatch 8 = .ok (.invokestatic 41, 3) := by decide +kernel
theorem dX1_isWatch_11 : decode cX1_isWatch 11 = .ok (.ireturn, 1) := by decide +kernel
set_option maxRecDepth 20000 in
theorem ggX1_isMonth_X1_isIn : GoodIn wsX1_isMonth wsX1_isIn := goodIn_r _ [4] (by decide +kernel) (by decide +kernel)
set_option maxRecDepth 20000 in
theorem gX1_isMonth_X1_isIn : GoodIn wsX1_isMonth (va_wsS RX1 41 yX1_isIn wsX1_isIn) := goodIn_app (goodIn_of _ (by decide +kernel)) ggX1_isMonth_X1_isIn
theorem dX1_isMonth_0 : decode cX1_isMonth 0 = .ok (.iload_n 0, 1) := by decide +kernel
theorem dX1_isMonth_1 : decode cX1_isMonth 1 = .ok (.iconst 0, 1) := by decide +kernel
theorem dX1_isMonth_2 : decode cX1_isMonth 2 = .ok (.bipush 35, 2) := by decide +kernel
theorem dX1_isMonth_4 : decode cX1_isMonth 4 = .ok (.invokestatic 41, 3) := by decide +kernel
theorem dX1_isMonth_7 : decode cX1_isMonth 7 = .ok (.ireturn, 1) := by decide +kernel
set_option maxRecDepth 20000 in
theorem ggX1_isYear_X1_isIn : GoodIn wsX1_isYear wsX1_isIn := goodIn_r _ [4] (by decide +kernel) (by decide +kernel)
set_option maxRecDepth 20000 in
theorem gX1_isYear_X1_isIn : GoodIn wsX1_isYear (va_wsS RX1 41 yX1_isIn wsX1_isIn) := goodIn_app (goodIn_of _ (by decide +kernel)) ggX1_isYear_X1_isIn
theorem dX1_isYear_0 : decode cX1_isYear 0 = .ok (.iload_n 0, 1) := by decide +kernel
theorem dX1_isYear_1 : decode cX1_isYear 1 = .ok (.iconst 0, 1) := by decide +kernel
theorem dX1_isYear_2 : decode cX1_isYear 2 = .ok (.iconst 2, 1) := by decide +kernel
theorem dX1_isYear_3 : decode cX1_isYear 3 = .ok (.invokestatic 41, 3) := by decide +kernel
theorem dX1_isYear_6 : decode cX1_isYear 6 = .ok (.ireturn, 1) := by decide +kernel
set_option maxRecDepth 20000 in
theorem ggX1_well_X1_isIn : GoodIn wsX1_well wsX1_isIn := goodIn_r _ [8] (by decide +kernel) (by decide +kernel)
set_option maxRecDepth 20000 in
theorem gX1_well_X1_isIn : GoodIn wsX1_well (va_wsS RX1 41 yX1_isIn wsX1_isIn) := goodIn_app (goodIn_of _ (by decide +kernel)) ggX1_well_X1_isIn
set_option maxRecDepth 20000 in
theorem ggX1_well_X1_mayBoth : GoodIn wsX1_well wsX1_mayBoth := goodIn_r _ [12, 13, 14, 15, 16, 17, 18, 19, 20, 21, 22, 23, 24] (by decide +kernel) (by decide +kernel)
set_option maxRecDepth 20000 in
theorem gX1_well_X1_mayBoth : GoodIn wsX1_well (wsV RX1 48 RX1 yX1_mayBoth wsX1_mayBoth) := goodIn_app (goodIn_of _ (by decide +kernel)) ggX1_well_X1_mayBoth
theorem dX1_well_0 : decode cX1_well 0 = .ok (.aload_n 0, 1) := by decide +kernel
theorem dX1_well_1 : decode cX1_well 1 = .ok (.iload_n 1, 1) := by decide +kernel
theorem dX1_well_2 : decode cX1_well 2 = .ok (.iconst 0, 1) := by decide +kernel
theorem dX1_well_3 : decode cX1_well 3 = .ok (.bipush 99, 2) := by decide +kernel
theorem dX1_well_5 : decode cX1_well 5 = .ok (.invokestatic 41, 3) := by decide +kernel
theorem dX1_well_8 : decode cX1_well 8 = .ok (.ifCond .eq 27, 3) := by decide +kernel
theorem dX1_well_11 : decode cX1_well 11 = .ok (.iload_n 2, 1) := by decide +kernel
theorem dX1_well_12 : decode cX1_well 12 = .ok (.iconst 0, 1) := by decide +kernel
theorem dX1_well_13 : decode cX1_well 13 = .ok (.iconst 2, 1) := by decide +kernel
theorem dX1_well_14 : decode cX1_well 14 = .ok (.invokestatic 41, 3) := by decide +kernel
theorem dX1_well_17 : decode cX1_well 17 = .ok (.ifCond .eq 18, 3) := by decide +kernel
theorem dX1_well_20 : decode cX1_well 20 = .ok (.iload_n 3, 1) := by decide +kernel
theorem dX1_well_21 : decode cX1_well 21 = .ok (.iconst 0, 1) := by decide +kernel
theorem dX1_well_22 : decode cX1_well 22 = .ok (.sipush 5000, 3) := by decide +kernel
theorem dX1_well_25 : decode cX1_well 25 = .ok (.invokestatic 41, 3) := by decide +kernel
theorem dX1_well_28 : decode cX1_well 28 = .ok (.ifCond .eq 7, 3) := by decide +kernel
theorem dX1_well_31 : decode cX1_well 31 = .ok (.iconst 1, 1) := by decide +kernel
theorem dX1_well_32 : decode cX1_well 32 = .ok (.goto 4, 3) := by decide +kernel
theorem dX1_well_35 : decode cX1_well 35 = .ok (.iconst 0, 1) := by decide +kernel
theorem dX1_well_36 : decode cX1_well 36 = .ok (.aload_n 0, 1) := by decide +kernel
theorem dX1_well_37 : decode cX1_well 37 = .ok (.getfield 38, 3) := by decide +kernel
theorem dX1_well_40 : decode cX1_well 40 = .ok (.bipush 8, 2) := by decide +kernel
theorem dX1_well_42 : decode cX1_well 42 = .ok (.if_icmp .ge 7, 3) := by decide +kernel
theorem dX1_well_45 : decode cX1_well 45 = .ok (.iconst 1, 1) := by decide +kernel
theorem dX1_well_46 : decode cX1_well 46 = .ok (.goto 4, 3) := by decide +kernel
theorem dX1_well_49 : decode cX1_well 49 = .ok (.iconst 0, 1) := by decide +kernel
theorem dX1_well_50 : decode cX1_well 50 = .ok (.invokevirtual 48, 3) := by decide +kernel
theorem dX1_well_53 : decode cX1_well 53 = .ok (.ifCond .ne 5, 3) := by decide +kernel
theorem dX1_well_56 : decode cX1_well 56 = .ok (.iconst 0, 1) := by decide +kernel
theorem dX1_well_57 : decode cX1_well 57 = .ok (.ireturn, 1) := by decide +kernel
theorem dX1_well_58 : decode cX1_well 58 = .ok (.aload_n 0, 1) := by decide +kernel
theorem dX1_well_59 : decode cX1_well 59 = .ok (.getfield 7, 3) := by decide +kernel
theorem dX1_well_62 : decode cX1_well 62 = .ok (.aload_n 0, 1) := by decide +kernel
theorem dX1_well_63 : decode cX1_well 63 = .ok (.getfield 38, 3) := by decide +kernel
theorem dX1_well_66 : decode cX1_well 66 = .ok (.iload_n 1, 1) := by decide +kernel
theorem dX1_well_67 : decode cX1_well 67 = .ok (.iastore, 1) := by decide +kernel
theorem dX1_well_68 : decode cX1_well 68 = .ok (.aload_n 0, 1) := by decide +kernel
theorem dX1_well_69 : decode cX1_well 69 = .ok (.getfield 13, 3) := by decide +kernel
theorem dX1_well_72 : decode cX1_well 72 = .ok (.aload_n 0, 1) := by decide +kernel
theorem dX1_well_73 : decode cX1_well 73 = .ok (.getfield 38, 3) := by decide +kernel
theorem dX1_well_76 : decode cX1_well 76 = .ok (.iload_n 2, 1) := by decide +kernel
theorem dX1_well_77 : decode cX1_well 77 = .ok (.iastore, 1) := by decide +kernel
theorem dX1_well_78 : decode cX1_well 78 = .ok (.aload_n 0, 1) := by decide +kernel
theorem dX1_well_79 : decode cX1_well 79 = .ok (.getfield 16, 3) := by decide +kernel
theorem dX1_well_82 : decode cX1_well 82 = .ok (.aload_n 0, 1) := by decide +kernel
theorem dX1_well_83 : decode cX1_well 83 = .ok (.getfield 38, 3) := by decide +kernel
theorem dX1_well_86 : decode cX1_well 86 = .ok (.iload_n 3, 1) := by decide +kernel
theorem dX1_well_87 : decode cX1_well 87 = .ok (.iastore, 1) := by decide +kernel
theorem dX1_well_88 : decode cX1_well 88 = .ok (.aload_n 0, 1) := by decide +kernel
theorem dX1_well_89 : decode cX1_well 89 = .ok (.dup, 1) := by decide +kernel
theorem dX1_well_90 : decode cX1_well 90 = .ok (.getfield 38, 3) := by decide +kernel
theorem dX1_well_93 : decode cX1_well 93 = .ok (.iconst 1, 1) := by decide +kernel
theorem dX1_well_94 : decode cX1_well 94 = .ok (.iadd, 1) := by decide +kernel
theorem dX1_well_95 : decode cX1_well 95 = .ok (.putfield 38, 3) := by decide +kernel
theorem dX1_well_98 : decode cX1_well 98 = .ok (.aload_n 0, 1) := by decide +kernel
theorem dX1_well_99 : decode cX1_well 99 = .ok (.getfield 38, 3) := by decide +kernel
theorem dX1_well_102 : decode cX1_well 102 = .ok (.iconst 1, 1) := by decide +kernel
theorem dX1_well_103 : decode cX1_well 103 = .ok (.isub, 1) := by decide +kernel
theorem dX1_well_104 : decode cX1_well 104 = .ok (.ireturn, 1) := by decide +kernel
set_option maxRecDepth 20000 in
theorem ggX1_watch_X1_isIn : GoodIn wsX1_watch wsX1_isIn := goodIn_r _ [7] (by decide +kernel) (by decide +kernel)
set_option maxRecDepth 20000 in
theorem gX1_watch_X1_isIn : GoodIn wsX1_watch (va_wsS RX1 41 yX1_isIn wsX1_isIn) := goodIn_app (goodIn_of _ (by decide +kernel)) ggX1_watch_X1_isIn
set_option maxRecDepth 20000 in
theorem ggX1_watch_X1_mayBoth : GoodIn wsX1_watch wsX1_mayBoth := goodIn_r _ [11, 12, 13, 14, 15, 16, 17, 18, 19, 20, 21, 22, 23] (by decide +kernel) (by decide +kernel)
set_option maxRecDepth 20000 in
theorem gX1_watch_X1_mayBoth : GoodIn wsX1_watch (wsV RX1 48 RX1 yX1_mayBoth wsX1_mayBoth) := goodIn_app (goodIn_of _ (by decide +kernel)) ggX1_watch_X1_mayBoth
theorem dX1_watch_0 : decode cX1_watch 0 = .ok (.aload_n 0, 1) := by decide +kernel
theorem dX1_watch_1 : decode cX1_watch 1 = .ok (.iload_n 1, 1) := by decide +kernel
theorem dX1_watch_2 : decode cX1_watch 2 = .ok (.iconst 0, 1) := by decide +kernel
theorem dX1_watch_3 : decode cX1_watch 3 = .ok (.bipush 99, 2) := by decide +kernel
theorem dX1_watch_5 : decode cX1_watch 5 = .ok (.invokestatic 41, 3) := by decide +kernel
theorem dX1_watch_8 : decode cX1_watch 8 = .ok (.ifCond .eq 18, 3) := by decide +kernel
theorem dX1_watch_11 : decode cX1_watch 11 = .ok (.iload_n 2, 1) := by decide +kernel
theorem dX1_watch_12 : decode cX1_watch 12 = .ok (.iconst 0, 1) := by decide +kernel
theorem dX1_watch_13 : decode cX1_watch 13 = .ok (.sipush 10000, 3) := by decide +kernel
theorem dX1_watch_16 : decode cX1_watch 16 = .ok (.invokestatic 41, 3) := by decide +kernel
theorem dX1_watch_19 : decode cX1_watch 19 = .ok (.ifCond .eq 7, 3) := by decide +kernel
theorem dX1_watch_22 : decode cX1_watch 22 = .ok (.iconst 1, 1) := by decide +kernel
theorem dX1_watch_23 : decode cX1_watch 23 = .ok (.goto 4, 3) := by decide +kernel
theorem dX1_watch_26 : decode cX1_watch 26 = .ok (.iconst 0, 1) := by decide +kernel
theorem dX1_watch_27 : decode cX1_watch 27 = .ok (.aload_n 0, 1) := by decide +kernel
theorem dX1_watch_28 : decode cX1_watch 28 = .ok (.getfield 45, 3) := by decide +kernel
theorem dX1_watch_31 : decode cX1_watch 31 = .ok (.iconst 4, 1) := by decide +kernel
theorem dX1_watch_32 : decode cX1_watch 32 = .ok (.if_icmp .ge 7, 3) := by decide +kernel
theorem dX1_watch_35 : decode cX1_watch 35 = .ok (.iconst 1, 1) := by decide +kernel
theorem dX1_watch_36 : decode cX1_watch 36 = .ok (.goto 4, 3) := by decide +kernel
theorem dX1_watch_39 : decode cX1_watch 39 = .ok (.iconst 0, 1) := by decide +kernel
theorem dX1_watch_40 : decode cX1_watch 40 = .ok (.invokevirtual 48, 3) := by decide +kernel
theorem dX1_watch_43 : decode cX1_watch 43 = .ok (.ifCond .ne 5, 3) := by decide +kernel
theorem dX1_watch_46 : decode cX1_watch 46 = .ok (.iconst 0, 1) := by decide +kernel
theorem dX1_watch_47 : decode cX1_watch 47 = .ok (.ireturn, 1) := by decide +kernel
theorem dX1_watch_48 : decode cX1_watch 48 = .ok (.aload_n 0, 1) := by decide +kernel
theorem dX1_watch_49 : decode cX1_watch 49 = .ok (.getfield 22, 3) := by decide +kernel
theorem dX1_watch_52 : decode cX1_watch 52 = .ok (.aload_n 0, 1) := by decide +kernel
theorem dX1_watch_53 : decode cX1_watch 53 = .ok (.getfield 45, 3) := by decide +kernel
theorem dX1_watch_56 : decode cX1_watch 56 = .ok (.iload_n 1, 1) := by decide +kernel
theorem dX1_watch_57 : decode cX1_watch 57 = .ok (.iastore, 1) := by decide +kernel
theorem dX1_watch_58 : decode cX1_watch 58 = .ok (.aload_n 0, 1) := by decide +kernel
theorem dX1_watch_59 : decode cX1_watch 59 = .ok (.getfield 25, 3) := by decide +kernel
theorem dX1_watch_62 : decode cX1_watch 62 = .ok (.aload_n 0, 1) := by decide +kernel
theorem dX1_watch_63 : decode cX1_watch 63 = .ok (.getfield 45, 3) := by decide +kernel
theorem dX1_watch_66 : decode cX1_watch 66 = .ok (.iload_n 2, 1) := by decide +kernel
theorem dX1_watch_67 : decode cX1_watch 67 = .ok (.iastore, 1) := by decide +kernel
theorem dX1_watch_68 : decode cX1_watch 68 = .ok (.aload_n 0, 1) := by decide +kernel
theorem dX1_watch_69 : decode cX1_watch 69 = .ok (.dup, 1) := by decide +kernel
theorem dX1_watch_70 : decode cX1_watch 70 = .ok (.getfield 45, 3) := by decide +kernel
theorem dX1_watch_73 : decode cX1_watch 73 = .ok (.iconst 1, 1) := by decide +kernel
theorem dX1_watch_74 : decode cX1_watch 74 = .ok (.iadd, 1) := by decide +kernel
theorem dX1_watch_75 : decode cX1_watch 75 = .ok (.putfield 45, 3) := by decide +kernel
theorem dX1_watch_78 : decode cX1_watch 78 = .ok (.aload_n 0, 1) := by decide +kernel
theorem dX1_watch_79 : decode cX1_watch 79 = .ok (.getfield 45, 3) := by decide +kernel
theorem dX1_watch_82 : decode cX1_watch 82 = .ok (.iconst 1, 1) := by decide +kernel
theorem dX1_watch_83 : decode cX1_watch 83 = .ok (.isub, 1) := by decide +kernel
theorem dX1_watch_84 : decode cX1_watch 84 = .ok (.ireturn, 1) := by decide +kernel
set_option maxRecDepth 20000 in
theorem ggX1_response_X1_isIn : GoodIn wsX1_response wsX1_isIn := goodIn_r _ [5] (by decide +kernel) (by decide +kernel)
set_option maxRecDepth 20000 in
theorem gX1_response_X1_isIn : GoodIn wsX1_response (va_wsS RX1 41 yX1_isIn wsX1_isIn) := goodIn_app (goodIn_of _ (by decide +kernel)) ggX1_response_X1_isIn
set_option maxRecDepth 20000 in
theorem ggX1_response_X1_mayBoth : GoodIn wsX1_response wsX1_mayBoth := goodIn_r _ [9, 10, 11, 12, 13, 14, 15, 16, 17, 18, 19, 20, 21] (by decide +kernel) (by decide +kernel)
set_option maxRecDepth 20000 in
theorem gX1_response_X1_mayBoth : GoodIn wsX1_response (wsV RX1 48 RX1 yX1_mayBoth wsX1_mayBoth) := goodIn_app (goodIn_of _ (by decide +kernel)) ggX1_response_X1_mayBoth
theorem dX1_response_0 : decode cX1_response 0 = .ok (.aload_n 0, 1) := by decide +kernel
theorem dX1_response_1 : decode cX1_response 1 = .ok (.iload_n 1, 1) := by decide +kernel
theorem dX1_response_2 : decode cX1_response 2 = .ok (.iconst 0, 1) := by decide +kernel
theorem dX1_response_3 : decode cX1_response 3 = .ok (.iconst 4, 1) := by decide +kernel
theorem dX1_response_4 : decode cX1_response 4 = .ok (.invokestatic 41, 3) := by decide +kernel
theorem dX1_response_7 : decode cX1_response 7 = .ok (.ifCond .eq 17, 3) := by decide +kernel
theorem dX1_response_10 : decode cX1_response 10 = .ok (.iload_n 2, 1) := by decide +kernel
theorem dX1_response_11 : decode cX1_response 11 = .ok (.iconst 0, 1) := by decide +kernel
theorem dX1_response_12 : decode cX1_response 12 = .ok (.bipush 11, 2) := by decide +kernel
theorem dX1_response_14 : decode cX1_response 14 = .ok (.invokestatic 41, 3) := by decide +kernel
theorem dX1_response_17 : decode cX1_response 17 = .ok (.ifCond .eq 7, 3) := by decide +kernel
theorem dX1_response_20 : decode cX1_response 20 = .ok (.iconst 1, 1) := by decide +kernel
theorem dX1_response_21 : decode cX1_response 21 = .ok (.goto 4, 3) := by decide +kernel
theorem dX1_response_24 : decode cX1_response 24 = .ok (.iconst 0, 1) := by decide +kernel
theorem dX1_response_25 : decode cX1_response 25 = .ok (.iload_n 3, 1) := by decide +kernel
theorem dX1_response_26 : decode cX1_response 26 = .ok (.iconst 0, 1) := by decide +kernel
theorem dX1_response_27 : decode cX1_response 27 = .ok (.sipush 1000, 3) := by decide +kernel
theorem dX1_response_30 : decode cX1_response 30 = .ok (.invokestatic 41, 3) := by decide +kernel
theorem dX1_response_33 : decode cX1_response 33 = .ok (.invokevirtual 48, 3) := by decide +kernel
theorem dX1_response_36 : decode cX1_response 36 = .ok (.ifCond .ne 5, 3) := by decide +kernel
theorem dX1_response_39 : decode cX1_response 39 = .ok (.iconst 0, 1) := by decide +kernel
theorem dX1_response_40 : decode cX1_response 40 = .ok (.ireturn, 1) := by decide +kernel
theorem dX1_response_41 : decode cX1_response 41 = .ok (.aload_n 0, 1) := by decide +kernel
theorem dX1_response_42 : decode cX1_response 42 = .ok (.getfield 28, 3) := by decide +kernel
theorem dX1_response_45 : decode cX1_response 45 = .ok (.bipush 12, 2) := by decide +kernel
theorem dX1_response_47 : decode cX1_response 47 = .ok (.iload_n 1, 1) := by decide +kernel
theorem dX1_response_48 : decode cX1_response 48 = .ok (.imul, 1) := by decide +kernel
theorem dX1_response_49 : decode cX1_response 49 = .ok (.iload_n 2, 1) := by decide +kernel
theorem dX1_response_50 : decode cX1_response 50 = .ok (.iadd, 1) := by decide +kernel
theorem dX1_response_51 : decode cX1_response 51 = .ok (.iaload, 1) := by decide +kernel
theorem dX1_response_52 : decode cX1_response 52 = .ok (.istore 4, 2) := by decide +kernel
theorem dX1_response_54 : decode cX1_response 54 = .ok (.aload_n 0, 1) := by decide +kernel
theorem dX1_response_55 : decode cX1_response 55 = .ok (.getfield 28, 3) := by decide +kernel
theorem dX1_response_58 : decode cX1_response 58 = .ok (.bipush 12, 2) := by decide +kernel
theorem dX1_response_60 : decode cX1_response 60 = .ok (.iload_n 1, 1) := by decide +kernel
theorem dX1_response_61 : decode cX1_response 61 = .ok (.imul, 1) := by decide +kernel
theorem dX1_response_62 : decode cX1_response 62 = .ok (.iload_n 2, 1) := by decide +kernel
theorem dX1_response_63 : decode cX1_response 63 = .ok (.iadd, 1) := by decide +kernel
theorem dX1_response_64 : decode cX1_response 64 = .ok (.iload_n 3, 1) := by decide +kernel
theorem dX1_response_65 : decode cX1_response 65 = .ok (.iastore, 1) := by decide +kernel
theorem dX1_response_66 : decode cX1_response 66 = .ok (.iload 4, 2) := by decide +kernel
theorem dX1_response_68 : decode cX1_response 68 = .ok (.ireturn, 1) := by decide +kernel
theorem dX1_wells_0 : decode cX1_wells 0 = .ok (.aload_n 0, 1) := by decide +kernel
theorem dX1_wells_1 : decode cX1_wells 1 = .ok (.iconst 0, 1) := by decide +kernel
theorem dX1_wells_2 : decode cX1_wells 2 = .ok (.putfield 34, 3) := by decide +kernel
theorem dX1_wells_5 : decode cX1_wells 5 = .ok (.aload_n 0, 1) := by decide +kernel
theorem dX1_wells_6 : decode cX1_wells 6 = .ok (.getfield 38, 3) := by decide +kernel
theorem dX1_wells_9 : decode cX1_wells 9 = .ok (.ireturn, 1) := by decide +kernel
theorem dX1_watches_0 : decode cX1_watches 0 = .ok (.aload_n 0, 1) := by decide +kernel
theorem dX1_watches_1 : decode cX1_watches 1 = .ok (.iconst 0, 1) := by decide +kernel
theorem dX1_watches_2 : decode cX1_watches 2 = .ok (.putfield 34, 3) := by decide +kernel
theorem dX1_watches_5 : decode cX1_watches 5 = .ok (.aload_n 0, 1) := by decide +kernel
theorem dX1_watches_6 : decode cX1_watches 6 = .ok (.getfield 45, 3) := by decide +kernel
theorem dX1_watches_9 : decode cX1_watches 9 = .ok (.ireturn, 1) := by decide +kernel
set_option maxRecDepth 20000 in
theorem ggX1_pump_X1_isWell : GoodIn wsX1_pump wsX1_isWell := goodIn_r _ [6, 7, 8, 9, 5, 10, 19, 20, 21, 22, 23, 24, 25, 26, 27, 28, 29] (by decide +kernel) (by decide +kernel)
set_option maxRecDepth 20000 in
theorem gX1_pump_X1_isWell : GoodIn wsX1_pump (wsV RX1 52 RX1 yX1_isWell wsX1_isWell) := goodIn_app (goodIn_of _ (by decide +kernel)) ggX1_pump_X1_isWell
set_option maxRecDepth 20000 in
theorem ggX1_pump_X1_isMonth : GoodIn wsX1_pump wsX1_isMonth := goodIn_r _ [13, 8, 9, 5, 10] (by decide +kernel) (by decide +kernel)
set_option maxRecDepth 20000 in
theorem gX1_pump_X1_isMonth : GoodIn wsX1_pump (va_wsS RX1 56 yX1_isMonth wsX1_isMonth) := goodIn_app (goodIn_of _ (by decide +kernel)) ggX1_pump_X1_isMonth
set_option maxRecDepth 20000 in
theorem ggX1_pump_X1_isIn : GoodIn wsX1_pump wsX1_isIn := goodIn_r _ [10] (by decide +kernel) (by decide +kernel)
set_option maxRecDepth 20000 in
theorem gX1_pump_X1_isIn : GoodIn wsX1_pump (va_wsS RX1 41 yX1_isIn wsX1_isIn) := goodIn_app (goodIn_of _ (by decide +kernel)) ggX1_pump_X1_isIn
set_option maxRecDepth 20000 in
theorem ggX1_pump_X1_mayBoth : GoodIn wsX1_pump wsX1_mayBoth := goodIn_r _ [17, 18, 19, 20, 21, 22, 23, 24, 25, 26, 27, 28, 29] (by decide +kernel) (by decide +kernel)
set_option maxRecDepth 20000 in
theorem gX1_pump_X1_mayBoth : GoodIn wsX1_pump (wsV RX1 48 RX1 yX1_mayBoth wsX1_mayBoth) := goodIn_app (goodIn_of _ (by decide +kernel)) ggX1_pump_X1_mayBoth
theorem dX1_pump_0 : decode cX1_pump 0 = .ok (.aload_n 0, 1) := by decide +kernel
theorem dX1_pump_1 : decode cX1_pump 1 = .ok (.aload_n 0, 1) := by decide +kernel
theorem dX1_pump_2 : decode cX1_pump 2 = .ok (.iload_n 1, 1) := by decide +kernel
theorem dX1_pump_3 : decode cX1_pump 3 = .ok (.invokevirtual 52, 3) := by decide +kernel
theorem dX1_pump_6 : decode cX1_pump 6 = .ok (.ifCond .eq 14, 3) := by decide +kernel
theorem dX1_pump_9 : decode cX1_pump 9 = .ok (.iload_n 2, 1) := by decide +kernel
theorem dX1_pump_10 : decode cX1_pump 10 = .ok (.invokestatic 56, 3) := by decide +kernel
theorem dX1_pump_13 : decode cX1_pump 13 = .ok (.ifCond .eq 7, 3) := by decide +kernel
theorem dX1_pump_16 : decode cX1_pump 16 = .ok (.iconst 1, 1) := by decide +kernel
theorem dX1_pump_17 : decode cX1_pump 17 = .ok (.goto 4, 3) := by decide +kernel
theorem dX1_pump_20 : decode cX1_pump 20 = .ok (.iconst 0, 1) := by decide +kernel
theorem dX1_pump_21 : decode cX1_pump 21 = .ok (.iload_n 3, 1) := by decide +kernel
theorem dX1_pump_22 : decode cX1_pump 22 = .ok (.iconst 0, 1) := by decide +kernel
theorem dX1_pump_23 : decode cX1_pump 23 = .ok (.sipush 1000, 3) := by decide +kernel
theorem dX1_pump_26 : decode cX1_pump 26 = .ok (.invokestatic 41, 3) := by decide +kernel
theorem dX1_pump_29 : decode cX1_pump 29 = .ok (.invokevirtual 48, 3) := by decide +kernel
theorem dX1_pump_32 : decode cX1_pump 32 = .ok (.ifCond .ne 5, 3) := by decide +kernel
theorem dX1_pump_35 : decode cX1_pump 35 = .ok (.iconst 0, 1) := by decide +kernel
theorem dX1_pump_36 : decode cX1_pump 36 = .ok (.ireturn, 1) := by decide +kernel
theorem dX1_pump_37 : decode cX1_pump 37 = .ok (.aload_n 0, 1) := by decide +kernel
theorem dX1_pump_38 : decode cX1_pump 38 = .ok (.getfield 19, 3) := by decide +kernel
theorem dX1_pump_41 : decode cX1_pump 41 = .ok (.bipush 36, 2) := by decide +kernel
theorem dX1_pump_43 : decode cX1_pump 43 = .ok (.iload_n 1, 1) := by decide +kernel
theorem dX1_pump_44 : decode cX1_pump 44 = .ok (.imul, 1) := by decide +kernel
theorem dX1_pump_45 : decode cX1_pump 45 = .ok (.iload_n 2, 1) := by decide +kernel
theorem dX1_pump_46 : decode cX1_pump 46 = .ok (.iadd, 1) := by decide +kernel
theorem dX1_pump_47 : decode cX1_pump 47 = .ok (.iaload, 1) := by decide +kernel
theorem dX1_pump_48 : decode cX1_pump 48 = .ok (.istore 4, 2) := by decide +kernel
theorem dX1_pump_50 : decode cX1_pump 50 = .ok (.aload_n 0, 1) := by decide +kernel
theorem dX1_pump_51 : decode cX1_pump 51 = .ok (.getfield 19, 3) := by decide +kernel
theorem dX1_pump_54 : decode cX1_pump 54 = .ok (.bipush 36, 2) := by decide +kernel
theorem dX1_pump_56 : decode cX1_pump 56 = .ok (.iload_n 1, 1) := by decide +kernel
theorem dX1_pump_57 : decode cX1_pump 57 = .ok (.imul, 1) := by decide +kernel
theorem dX1_pump_58 : decode cX1_pump 58 = .ok (.iload_n 2, 1) := by decide +kernel
theorem dX1_pump_59 : decode cX1_pump 59 = .ok (.iadd, 1) := by decide +kernel
theorem dX1_pump_60 : decode cX1_pump 60 = .ok (.iload_n 3, 1) := by decide +kernel
theorem dX1_pump_61 : decode cX1_pump 61 = .ok (.iastore, 1) := by decide +kernel
theorem dX1_pump_62 : decode cX1_pump 62 = .ok (.iload 4, 2) := by decide +kernel
theorem dX1_pump_64 : decode cX1_pump 64 = .ok (.ireturn, 1) := by decide +kernel
set_option maxRecDepth 20000 in
theorem ggX1_rest_X1_isWell : GoodIn wsX1_rest wsX1_isWell := goodIn_r _ [6, 7, 8, 9, 5, 10, 19, 20, 21, 22, 23, 24, 25, 26, 27, 28, 29] (by decide +kernel) (by decide +kernel)
set_option maxRecDepth 20000 in
theorem gX1_rest_X1_isWell : GoodIn wsX1_rest (wsV RX1 52 RX1 yX1_isWell wsX1_isWell) := goodIn_app (goodIn_of _ (by decide +kernel)) ggX1_rest_X1_isWell
set_option maxRecDepth 20000 in
theorem ggX1_rest_X1_isMonth : GoodIn wsX1_rest wsX1_isMonth := goodIn_r _ [13, 8, 9, 5, 10] (by decide +kernel) (by decide +kernel)
set_option maxRecDepth 20000 in
theorem gX1_rest_X1_isMonth : GoodIn wsX1_rest (va_wsS RX1 56 yX1_isMonth wsX1_isMonth) := goodIn_app (goodIn_of _ (by decide +kernel)) ggX1_rest_X1_isMonth
set_option maxRecDepth 20000 in
theorem ggX1_rest_X1_isIn : GoodIn wsX1_rest wsX1_isIn := goodIn_r _ [10] (by decide +kernel) (by decide +kernel)
set_option maxRecDepth 20000 in
theorem gX1_rest_X1_isIn : GoodIn wsX1_rest (va_wsS RX1 41 yX1_isIn wsX1_isIn) := goodIn_app (goodIn_of _ (by decide +kernel)) ggX1_rest_X1_isIn
set_option maxRecDepth 20000 in
theorem ggX1_rest_X1_mayBoth : GoodIn wsX1_rest wsX1_mayBoth := goodIn_r _ [17, 18, 19, 20, 21, 22, 23, 24, 25, 26, 27, 28, 29] (by decide +kernel) (by decide +kernel)
set_option maxRecDepth 20000 in
theorem gX1_rest_X1_mayBoth : GoodIn wsX1_rest (wsV RX1 48 RX1 yX1_mayBoth wsX1_mayBoth) := goodIn_app (goodIn_of _ (by decide +kernel)) ggX1_rest_X1_mayBoth
theorem dX1_rest_0 : decode cX1_rest 0 = .ok (.aload_n 0, 1) := by decide +kernel
theorem dX1_rest_1 : decode cX1_rest 1 = .ok (.aload_n 0, 1) := by decide +kernel
theorem dX1_rest_2 : decode cX1_rest 2 = .ok (.iload_n 1, 1) := by decide +kernel
theorem dX1_rest_3 : decode cX1_rest 3 = .ok (.invokevirtual 52, 3) := by decide +kernel
theorem dX1_rest_6 : decode cX1_rest 6 = .ok (.ifCond .eq 14, 3) := by decide +kernel
theorem dX1_rest_9 : decode cX1_rest 9 = .ok (.iload_n 2, 1) := by decide +kernel
theorem dX1_rest_10 : decode cX1_rest 10 = .ok (.invokestatic 56, 3) := by decide +kernel
theorem dX1_rest_13 : decode cX1_rest 13 = .ok (.ifCond .eq 7, 3) := by decide +kernel
theorem dX1_rest_16 : decode cX1_rest 16 = .ok (.iconst 1, 1) := by decide +kernel
theorem dX1_rest_17 : decode cX1_rest 17 = .ok (.goto 4, 3) := by decide +kernel
theorem dX1_rest_20 : decode cX1_rest 20 = .ok (.iconst 0, 1) := by decide +kernel
theorem dX1_rest_21 : decode cX1_rest 21 = .ok (.iload_n 3, 1) := by decide +kernel
theorem dX1_rest_22 : decode cX1_rest 22 = .ok (.iconst 1, 1) := by decide +kernel
theorem dX1_rest_23 : decode cX1_rest 23 = .ok (.bipush 36, 2) := by decide +kernel
theorem dX1_rest_25 : decode cX1_rest 25 = .ok (.invokestatic 41, 3) := by decide +kernel
theorem dX1_rest_28 : decode cX1_rest 28 = .ok (.invokevirtual 48, 3) := by decide +kernel
theorem dX1_rest_31 : decode cX1_rest 31 = .ok (.ifCond .ne 5, 3) := by decide +kernel
theorem dX1_rest_34 : decode cX1_rest 34 = .ok (.iconst 0, 1) := by decide +kernel
theorem dX1_rest_35 : decode cX1_rest 35 = .ok (.ireturn, 1) := by decide +kernel
theorem dX1_rest_36 : decode cX1_rest 36 = .ok (.iconst 0, 1) := by decide +kernel
theorem dX1_rest_37 : decode cX1_rest 37 = .ok (.istore 4, 2) := by decide +kernel
theorem dX1_rest_39 : decode cX1_rest 39 = .ok (.iload_n 2, 1) := by decide +kernel
theorem dX1_rest_40 : decode cX1_rest 40 = .ok (.istore 5, 2) := by decide +kernel
theorem dX1_rest_42 : decode cX1_rest 42 = .ok (.iload 5, 2) := by decide +kernel
theorem dX1_rest_44 : decode cX1_rest 44 = .ok (.iload_n 2, 1) := by decide +kernel
theorem dX1_rest_45 : decode cX1_rest 45 = .ok (.iload_n 3, 1) := by decide +kernel
theorem dX1_rest_46 : decode cX1_rest 46 = .ok (.iadd, 1) := by decide +kernel
theorem dX1_rest_47 : decode cX1_rest 47 = .ok (.if_icmp .ge 46, 3) := by decide +kernel
theorem dX1_rest_50 : decode cX1_rest 50 = .ok (.iload 5, 2) := by decide +kernel
theorem dX1_rest_52 : decode cX1_rest 52 = .ok (.bipush 36, 2) := by decide +kernel
theorem dX1_rest_54 : decode cX1_rest 54 = .ok (.if_icmp .ge 39, 3) := by decide +kernel
theorem dX1_rest_57 : decode cX1_rest 57 = .ok (.iload 4, 2) := by decide +kernel
theorem dX1_rest_59 : decode cX1_rest 59 = .ok (.aload_n 0, 1) := by decide +kernel
theorem dX1_rest_60 : decode cX1_rest 60 = .ok (.getfield 19, 3) := by decide +kernel
theorem dX1_rest_63 : decode cX1_rest 63 = .ok (.bipush 36, 2) := by decide +kernel
theorem dX1_rest_65 : decode cX1_rest 65 = .ok (.iload_n 1, 1) := by decide +kernel
theorem dX1_rest_66 : decode cX1_rest 66 = .ok (.imul, 1) := by decide +kernel
theorem dX1_rest_67 : decode cX1_rest 67 = .ok (.iload 5, 2) := by decide +kernel
theorem dX1_rest_69 : decode cX1_rest 69 = .ok (.iadd, 1) := by decide +kernel
theorem dX1_rest_70 : decode cX1_rest 70 = .ok (.iaload, 1) := by decide +kernel
theorem dX1_rest_71 : decode cX1_rest 71 = .ok (.iadd, 1) := by decide +kernel
theorem dX1_rest_72 : decode cX1_rest 72 = .ok (.istore 4, 2) := by decide +kernel
theorem dX1_rest_74 : decode cX1_rest 74 = .ok (.aload_n 0, 1) := by decide +kernel
theorem dX1_rest_75 : decode cX1_rest 75 = .ok (.getfield 19, 3) := by decide +kernel
theorem dX1_rest_78 : decode cX1_rest 78 = .ok (.bipush 36, 2) := by decide +kernel
theorem dX1_rest_80 : decode cX1_rest 80 = .ok (.iload_n 1, 1) := by decide +kernel
theorem dX1_rest_81 : decode cX1_rest 81 = .ok (.imul, 1) := by decide +kernel
theorem dX1_rest_82 : decode cX1_rest 82 = .ok (.iload 5, 2) := by decide +kernel
theorem dX1_rest_84 : decode cX1_rest 84 = .ok (.iadd, 1) := by decide +kernel
theorem dX1_rest_85 : decode cX1_rest 85 = .ok (.iconst 0, 1) := by decide +kernel
theorem dX1_rest_86 : decode cX1_rest 86 = .ok (.iastore, 1) := by decide +kernel
theorem dX1_rest_87 : decode cX1_rest 87 = .ok (.iinc 5 1, 3) := by decide +kernel
theorem dX1_rest_90 : decode cX1_rest 90 = .ok (.goto (-48), 3) := by decide +kernel
theorem dX1_rest_93 : decode cX1_rest 93 = .ok (.iload 4, 2) := by decide +kernel
theorem dX1_rest_95 : decode cX1_rest 95 = .ok (.ireturn, 1) := by decide +kernel
theorem dX1_pumpedIn_0 : decode cX1_pumpedIn 0 = .ok (.iconst 0, 1) := by decide +kernel
theorem dX1_pumpedIn_1 : decode cX1_pumpedIn 1 = .ok (.istore_n 3, 1) := by decide +kernel
theorem dX1_pumpedIn_2 : decode cX1_pumpedIn 2 = .ok (.bipush 12, 2) := by decide +kernel
theorem dX1_pumpedIn_4 : decode cX1_pumpedIn 4 = .ok (.iload_n 2, 1) := by decide +kernel
theorem dX1_pumpedIn_5 : decode cX1_pumpedIn 5 = .ok (.imul, 1) := by decide +kernel
theorem dX1_pumpedIn_6 : decode cX1_pumpedIn 6 = .ok (.istore 4, 2) := by decide +kernel
theorem dX1_pumpedIn_8 : decode cX1_pumpedIn 8 = .ok (.iload 4, 2) := by decide +kernel
theorem dX1_pumpedIn_10 : decode cX1_pumpedIn 10 = .ok (.bipush 12, 2) := by decide +kernel
theorem dX1_pumpedIn_12 : decode cX1_pumpedIn 12 = .ok (.iload_n 2, 1) := by decide +kernel
theorem dX1_pumpedIn_13 : decode cX1_pumpedIn 13 = .ok (.imul, 1) := by decide +kernel
theorem dX1_pumpedIn_14 : decode cX1_pumpedIn 14 = .ok (.bipush 12, 2) := by decide +kernel
theorem dX1_pumpedIn_16 : decode cX1_pumpedIn 16 = .ok (.iadd, 1) := by decide +kernel
theorem dX1_pumpedIn_17 : decode cX1_pumpedIn 17 = .ok (.if_icmp .ge 24, 3) := by decide +kernel
theorem dX1_pumpedIn_20 : decode cX1_pumpedIn 20 = .ok (.iload_n 3, 1) := by decide +kernel
theorem dX1_pumpedIn_21 : decode cX1_pumpedIn 21 = .ok (.aload_n 0, 1) := by decide +kernel
theorem dX1_pumpedIn_22 : decode cX1_pumpedIn 22 = .ok (.getfield 19, 3) := by decide +kernel
theorem dX1_pumpedIn_25 : decode cX1_pumpedIn 25 = .ok (.bipush 36, 2) := by decide +kernel
theorem dX1_pumpedIn_27 : decode cX1_pumpedIn 27 = .ok (.iload_n 1, 1) := by decide +kernel
theorem dX1_pumpedIn_28 : decode cX1_pumpedIn 28 = .ok (.imul, 1) := by decide +kernel
theorem dX1_pumpedIn_29 : decode cX1_pumpedIn 29 = .ok (.iload 4, 2) := by decide +kernel
theorem dX1_pumpedIn_31 : decode cX1_pumpedIn 31 = .ok (.iadd, 1) := by decide +kernel
theorem dX1_pumpedIn_32 : decode cX1_pumpedIn 32 = .ok (.iaload, 1) := by decide +kernel
theorem dX1_pumpedIn_33 : decode cX1_pumpedIn 33 = .ok (.iadd, 1) := by decide +kernel
theorem dX1_pumpedIn_34 : decode cX1_pumpedIn 34 = .ok (.istore_n 3, 1) := by decide +kernel
theorem dX1_pumpedIn_35 : decode cX1_pumpedIn 35 = .ok (.iinc 4 1, 3) := by decide +kernel
theorem dX1_pumpedIn_38 : decode cX1_pumpedIn 38 = .ok (.goto (-30), 3) := by decide +kernel
theorem dX1_pumpedIn_41 : decode cX1_pumpedIn 41 = .ok (.iload_n 3, 1) := by decide +kernel
theorem dX1_pumpedIn_42 : decode cX1_pumpedIn 42 = .ok (.ireturn, 1) := by decide +kernel
set_option maxRecDepth 20000 in
theorem ggX1_pumped_X1_isWell : GoodIn wsX1_pumped wsX1_isWell := goodIn_r _ [5, 6, 7, 8, 4, 9, 23, 24, 25, 26, 27, 28, 29, 30, 31, 32, 33] (by decide +kernel) (by decide +kernel)
set_option maxRecDepth 20000 in
theorem gX1_pumped_X1_isWell : GoodIn wsX1_pumped (wsV RX1 52 RX1 yX1_isWell wsX1_isWell) := goodIn_app (goodIn_of _ (by decide +kernel)) ggX1_pumped_X1_isWell
set_option maxRecDepth 20000 in
theorem ggX1_pumped_X1_isYear : GoodIn wsX1_pumped wsX1_isYear := goodIn_r _ [12, 7, 8, 4, 9] (by decide +kernel) (by decide +kernel)
set_option maxRecDepth 20000 in
theorem gX1_pumped_X1_isYear : GoodIn wsX1_pumped (va_wsS RX1 59 yX1_isYear wsX1_isYear) := goodIn_app (goodIn_of _ (by decide +kernel)) ggX1_pumped_X1_isYear
set_option maxRecDepth 20000 in
theorem ggX1_pumped_X1_may : GoodIn wsX1_pumped wsX1_may := goodIn_r _ [16, 17, 23, 24, 25, 26, 27, 28, 29, 30, 31, 32, 33] (by decide +kernel) (by decide +kernel)
set_option maxRecDepth 20000 in
theorem gX1_pumped_X1_may : GoodIn wsX1_pumped (wsV RX1 62 RX1 yX1_may wsX1_may) := goodIn_app (goodIn_of _ (by decide +kernel)) ggX1_pumped_X1_may
set_option maxRecDepth 20000 in
theorem ggX1_pumped_X1_pumpedIn : GoodIn wsX1_pumped wsX1_pumpedIn := goodIn_r _ [21, 22, 23, 24, 25, 26, 27, 28, 29, 30, 31, 32, 33] (by decide +kernel) (by decide +kernel)
set_option maxRecDepth 20000 in
theorem gX1_pumped_X1_pumpedIn : GoodIn wsX1_pumped (wsV RX1 66 RX1 yX1_pumpedIn wsX1_pumpedIn) := goodIn_app (goodIn_of _ (by decide +kernel)) ggX1_pumped_X1_pumpedIn
theorem dX1_pumped_0 : decode cX1_pumped 0 = .ok (.aload_n 0, 1) := by decide +kernel
theorem dX1_pumped_1 : decode cX1_pumped 1 = .ok (.aload_n 0, 1) := by decide +kernel
theorem dX1_pumped_2 : decode cX1_pumped 2 = .ok (.iload_n 1, 1) := by decide +kernel
theorem dX1_pumped_3 : decode cX1_pumped 3 = .ok (.invokevirtual 52, 3) := by decide +kernel
theorem dX1_pumped_6 : decode cX1_pumped 6 = .ok (.ifCond .eq 14, 3) := by decide +kernel
theorem dX1_pumped_9 : decode cX1_pumped 9 = .ok (.iload_n 2, 1) := by decide +kernel
theorem dX1_pumped_10 : decode cX1_pumped 10 = .ok (.invokestatic 59, 3) := by decide +kernel
theorem dX1_pumped_13 : decode cX1_pumped 13 = .ok (.ifCond .eq 7, 3) := by decide +kernel
theorem dX1_pumped_16 : decode cX1_pumped 16 = .ok (.iconst 1, 1) := by decide +kernel
theorem dX1_pumped_17 : decode cX1_pumped 17 = .ok (.goto 4, 3) := by decide +kernel
theorem dX1_pumped_20 : decode cX1_pumped 20 = .ok (.iconst 0, 1) := by decide +kernel
theorem dX1_pumped_21 : decode cX1_pumped 21 = .ok (.invokevirtual 62, 3) := by decide +kernel
theorem dX1_pumped_24 : decode cX1_pumped 24 = .ok (.ifCond .eq 12, 3) := by decide +kernel
theorem dX1_pumped_27 : decode cX1_pumped 27 = .ok (.aload_n 0, 1) := by decide +kernel
theorem dX1_pumped_28 : decode cX1_pumped 28 = .ok (.iload_n 1, 1) := by decide +kernel
theorem dX1_pumped_29 : decode cX1_pumped 29 = .ok (.iload_n 2, 1) := by decide +kernel
theorem dX1_pumped_30 : decode cX1_pumped 30 = .ok (.invokevirtual 66, 3) := by decide +kernel
theorem dX1_pumped_33 : decode cX1_pumped 33 = .ok (.goto 4, 3) := by decide +kernel
theorem dX1_pumped_36 : decode cX1_pumped 36 = .ok (.iconst 0, 1) := by decide +kernel
theorem dX1_pumped_37 : decode cX1_pumped 37 = .ok (.ireturn, 1) := by decide +kernel
set_option maxRecDepth 20000 in
theorem ggX1_beyond_X1_isYear : GoodIn wsX1_beyond wsX1_isYear := goodIn_r _ [6, 7, 8, 5, 9] (by decide +kernel) (by decide +kernel)
set_option maxRecDepth 20000 in
theorem gX1_beyond_X1_isYear : GoodIn wsX1_beyond (va_wsS RX1 59 yX1_isYear wsX1_isYear) := goodIn_app (goodIn_of _ (by decide +kernel)) ggX1_beyond_X1_isYear
set_option maxRecDepth 20000 in
theorem ggX1_beyond_X1_may : GoodIn wsX1_beyond wsX1_may := goodIn_r _ [13, 14, 20, 21, 22, 23, 24, 25, 26, 27, 28, 29, 30] (by decide +kernel) (by decide +kernel)
set_option maxRecDepth 20000 in
theorem gX1_beyond_X1_may : GoodIn wsX1_beyond (wsV RX1 62 RX1 yX1_may wsX1_may) := goodIn_app (goodIn_of _ (by decide +kernel)) ggX1_beyond_X1_may
set_option maxRecDepth 20000 in
theorem ggX1_beyond_X1_pumpedIn : GoodIn wsX1_beyond wsX1_pumpedIn := goodIn_r _ [18, 19, 20, 21, 22, 23, 24, 25, 26, 27, 28, 29, 30] (by decide +kernel) (by decide +kernel)
set_option maxRecDepth 20000 in
theorem gX1_beyond_X1_pumpedIn : GoodIn wsX1_beyond (wsV RX1 66 RX1 yX1_pumpedIn wsX1_pumpedIn) := goodIn_app (goodIn_of _ (by decide +kernel)) ggX1_beyond_X1_pumpedIn
theorem dX1_beyond_0 : decode cX1_beyond 0 = .ok (.aload_n 0, 1) := by decide +kernel
theorem dX1_beyond_1 : decode cX1_beyond 1 = .ok (.iload_n 1, 1) := by decide +kernel
theorem dX1_beyond_2 : decode cX1_beyond 2 = .ok (.invokestatic 59, 3) := by decide +kernel
theorem dX1_beyond_5 : decode cX1_beyond 5 = .ok (.invokevirtual 62, 3) := by decide +kernel
theorem dX1_beyond_8 : decode cX1_beyond 8 = .ok (.ifCond .ne 5, 3) := by decide +kernel
theorem dX1_beyond_11 : decode cX1_beyond 11 = .ok (.iconst 0, 1) := by decide +kernel
theorem dX1_beyond_12 : decode cX1_beyond 12 = .ok (.ireturn, 1) := by decide +kernel
theorem dX1_beyond_13 : decode cX1_beyond 13 = .ok (.iconst 0, 1) := by decide +kernel
theorem dX1_beyond_14 : decode cX1_beyond 14 = .ok (.istore_n 2, 1) := by decide +kernel
theorem dX1_beyond_15 : decode cX1_beyond 15 = .ok (.iconst 0, 1) := by decide +kernel
theorem dX1_beyond_16 : decode cX1_beyond 16 = .ok (.istore_n 3, 1) := by decide +kernel
theorem dX1_beyond_17 : decode cX1_beyond 17 = .ok (.iload_n 3, 1) := by decide +kernel
theorem dX1_beyond_18 : decode cX1_beyond 18 = .ok (.aload_n 0, 1) := by decide +kernel
theorem dX1_beyond_19 : decode cX1_beyond 19 = .ok (.getfield 38, 3) := by decide +kernel
theorem dX1_beyond_22 : decode cX1_beyond 22 = .ok (.if_icmp .ge 38, 3) := by decide +kernel
theorem dX1_beyond_25 : decode cX1_beyond 25 = .ok (.aload_n 0, 1) := by decide +kernel
theorem dX1_beyond_26 : decode cX1_beyond 26 = .ok (.iload_n 3, 1) := by decide +kernel
theorem dX1_beyond_27 : decode cX1_beyond 27 = .ok (.iload_n 1, 1) := by decide +kernel
theorem dX1_beyond_28 : decode cX1_beyond 28 = .ok (.invokevirtual 66, 3) := by decide +kernel
theorem dX1_beyond_31 : decode cX1_beyond 31 = .ok (.aload_n 0, 1) := by decide +kernel
theorem dX1_beyond_32 : decode cX1_beyond 32 = .ok (.getfield 16, 3) := by decide +kernel
theorem dX1_beyond_35 : decode cX1_beyond 35 = .ok (.iload_n 3, 1) := by decide +kernel
theorem dX1_beyond_36 : decode cX1_beyond 36 = .ok (.iaload, 1) := by decide +kernel
theorem dX1_beyond_37 : decode cX1_beyond 37 = .ok (.isub, 1) := by decide +kernel
theorem dX1_beyond_38 : decode cX1_beyond 38 = .ok (.istore 4, 2) := by decide +kernel
theorem dX1_beyond_40 : decode cX1_beyond 40 = .ok (.iload_n 2, 1) := by decide +kernel
theorem dX1_beyond_41 : decode cX1_beyond 41 = .ok (.iload 4, 2) := by decide +kernel
theorem dX1_beyond_43 : decode cX1_beyond 43 = .ok (.ifCond .le 8, 3) := by decide +kernel
theorem dX1_beyond_46 : decode cX1_beyond 46 = .ok (.iload 4, 2) := by decide +kernel
theorem dX1_beyond_48 : decode cX1_beyond 48 = .ok (.goto 4, 3) := by decide +kernel
theorem dX1_beyond_51 : decode cX1_beyond 51 = .ok (.iconst 0, 1) := by decide +kernel
theorem dX1_beyond_52 : decode cX1_beyond 52 = .ok (.iadd, 1) := by decide +kernel
theorem dX1_beyond_53 : decode cX1_beyond 53 = .ok (.istore_n 2, 1) := by decide +kernel
theorem dX1_beyond_54 : decode cX1_beyond 54 = .ok (.iinc 3 1, 3) := by decide +kernel
theorem dX1_beyond_57 : decode cX1_beyond 57 = .ok (.goto (-40), 3) := by decide +kernel
theorem dX1_beyond_60 : decode cX1_beyond 60 = .ok (.iload_n 2, 1) := by decide +kernel
theorem dX1_beyond_61 : decode cX1_beyond 61 = .ok (.ireturn, 1) := by decide +kernel
theorem dX1_answer_0 : decode cX1_answer 0 = .ok (.aload_n 0, 1) := by decide +kernel
theorem dX1_answer_1 : decode cX1_answer 1 = .ok (.getfield 7, 3) := by decide +kernel
theorem dX1_answer_4 : decode cX1_answer 4 = .ok (.iload_n 1, 1) := by decide +kernel
theorem dX1_answer_5 : decode cX1_answer 5 = .ok (.iaload, 1) := by decide +kernel
theorem dX1_answer_6 : decode cX1_answer 6 = .ok (.aload_n 0, 1) := by decide +kernel
theorem dX1_answer_7 : decode cX1_answer 7 = .ok (.getfield 22, 3) := by decide +kernel
theorem dX1_answer_10 : decode cX1_answer 10 = .ok (.iload_n 2, 1) := by decide +kernel
theorem dX1_answer_11 : decode cX1_answer 11 = .ok (.iaload, 1) := by decide +kernel
theorem dX1_answer_12 : decode cX1_answer 12 = .ok (.isub, 1) := by decide +kernel
theorem dX1_answer_13 : decode cX1_answer 13 = .ok (.istore 4, 2) := by decide +kernel
theorem dX1_answer_15 : decode cX1_answer 15 = .ok (.iload 4, 2) := by decide +kernel
theorem dX1_answer_17 : decode cX1_answer 17 = .ok (.ifCond .ge 9, 3) := by decide +kernel
theorem dX1_answer_20 : decode cX1_answer 20 = .ok (.iload 4, 2) := by decide +kernel
theorem dX1_answer_22 : decode cX1_answer 22 = .ok (.ineg, 1) := by decide +kernel
theorem dX1_answer_23 : decode cX1_answer 23 = .ok (.goto 5, 3) := by decide +kernel
theorem dX1_answer_26 : decode cX1_answer 26 = .ok (.iload 4, 2) := by decide +kernel
theorem dX1_answer_28 : decode cX1_answer 28 = .ok (.bipush 10, 2) := by decide +kernel
theorem dX1_answer_30 : decode cX1_answer 30 = .ok (.idiv, 1) := by decide +kernel
theorem dX1_answer_31 : decode cX1_answer 31 = .ok (.istore 5, 2) := by decide +kernel
theorem dX1_answer_33 : decode cX1_answer 33 = .ok (.iload 5, 2) := by decide +kernel
theorem dX1_answer_35 : decode cX1_answer 35 = .ok (.iconst 5, 1) := by decide +kernel
theorem dX1_answer_36 : decode cX1_answer 36 = .ok (.if_icmp .ge 28, 3) := by decide +kernel
theorem dX1_answer_39 : decode cX1_answer 39 = .ok (.iload_n 3, 1) := by decide +kernel
theorem dX1_answer_40 : decode cX1_answer 40 = .ok (.ifCond .lt 24, 3) := by decide +kernel
theorem dX1_answer_43 : decode cX1_answer 43 = .ok (.iload_n 3, 1) := by decide +kernel
theorem dX1_answer_44 : decode cX1_answer 44 = .ok (.bipush 12, 2) := by decide +kernel
theorem dX1_answer_46 : decode cX1_answer 46 = .ok (.if_icmp .ge 18, 3) := by decide +kernel
theorem dX1_answer_49 : decode cX1_answer 49 = .ok (.aload_n 0, 1) := by decide +kernel
theorem dX1_answer_50 : decode cX1_answer 50 = .ok (.getfield 28, 3) := by decide +kernel
theorem dX1_answer_53 : decode cX1_answer 53 = .ok (.bipush 12, 2) := by decide +kernel
theorem dX1_answer_55 : decode cX1_answer 55 = .ok (.iload 5, 2) := by decide +kernel
theorem dX1_answer_57 : decode cX1_answer 57 = .ok (.imul, 1) := by decide +kernel
theorem dX1_answer_58 : decode cX1_answer 58 = .ok (.iload_n 3, 1) := by decide +kernel
theorem dX1_answer_59 : decode cX1_answer 59 = .ok (.iadd, 1) := by decide +kernel
theorem dX1_answer_60 : decode cX1_answer 60 = .ok (.iaload, 1) := by decide +kernel
theorem dX1_answer_61 : decode cX1_answer 61 = .ok (.goto 4, 3) := by decide +kernel
theorem dX1_answer_64 : decode cX1_answer 64 = .ok (.iconst 0, 1) := by decide +kernel
theorem dX1_answer_65 : decode cX1_answer 65 = .ok (.ireturn, 1) := by decide +kernel
set_option maxRecDepth 20000 in
theorem ggX1_drawdownOf_X1_answer : GoodIn wsX1_drawdownOf wsX1_answer := goodIn_r _ [7, 8, 9, 10, 11, 12, 13, 14, 15, 16, 17, 18, 19, 20, 21] (by decide +kernel) (by decide +kernel)
set_option maxRecDepth 20000 in
theorem gX1_drawdownOf_X1_answer : GoodIn wsX1_drawdownOf (wsV RX1 70 RX1 yX1_answer wsX1_answer) := goodIn_app (goodIn_of _ (by decide +kernel)) ggX1_drawdownOf_X1_answer
theorem dX1_drawdownOf_0 : decode cX1_drawdownOf 0 = .ok (.lconst 0, 1) := by decide +kernel
theorem dX1_drawdownOf_1 : decode cX1_drawdownOf 1 = .ok (.lstore_n 3, 1) := by decide +kernel
theorem dX1_drawdownOf_2 : decode cX1_drawdownOf 2 = .ok (.iconst 0, 1) := by decide +kernel
theorem dX1_drawdownOf_3 : decode cX1_drawdownOf 3 = .ok (.istore 5, 2) := by decide +kernel
theorem dX1_drawdownOf_5 : decode cX1_drawdownOf 5 = .ok (.iload 5, 2) := by decide +kernel
theorem dX1_drawdownOf_7 : decode cX1_drawdownOf 7 = .ok (.aload_n 0, 1) := by decide +kernel
theorem dX1_drawdownOf_8 : decode cX1_drawdownOf 8 = .ok (.getfield 38, 3) := by decide +kernel
theorem dX1_drawdownOf_11 : decode cX1_drawdownOf 11 = .ok (.if_icmp .ge 54, 3) := by decide +kernel
theorem dX1_drawdownOf_14 : decode cX1_drawdownOf 14 = .ok (.iconst 0, 1) := by decide +kernel
theorem dX1_drawdownOf_15 : decode cX1_drawdownOf 15 = .ok (.istore 6, 2) := by decide +kernel
theorem dX1_drawdownOf_17 : decode cX1_drawdownOf 17 = .ok (.iload 6, 2) := by decide +kernel
theorem dX1_drawdownOf_19 : decode cX1_drawdownOf 19 = .ok (.iload_n 2, 1) := by decide +kernel
theorem dX1_drawdownOf_20 : decode cX1_drawdownOf 20 = .ok (.if_icmp .gt 39, 3) := by decide +kernel
theorem dX1_drawdownOf_23 : decode cX1_drawdownOf 23 = .ok (.lload_n 3, 1) := by decide +kernel
theorem dX1_drawdownOf_24 : decode cX1_drawdownOf 24 = .ok (.aload_n 0, 1) := by decide +kernel
theorem dX1_drawdownOf_25 : decode cX1_drawdownOf 25 = .ok (.getfield 19, 3) := by decide +kernel
theorem dX1_drawdownOf_28 : decode cX1_drawdownOf 28 = .ok (.bipush 36, 2) := by decide +kernel
theorem dX1_drawdownOf_30 : decode cX1_drawdownOf 30 = .ok (.iload 5, 2) := by decide +kernel
theorem dX1_drawdownOf_32 : decode cX1_drawdownOf 32 = .ok (.imul, 1) := by decide +kernel
theorem dX1_drawdownOf_33 : decode cX1_drawdownOf 33 = .ok (.iload 6, 2) := by decide +kernel
theorem dX1_drawdownOf_35 : decode cX1_drawdownOf 35 = .ok (.iadd, 1) := by decide +kernel
theorem dX1_drawdownOf_36 : decode cX1_drawdownOf 36 = .ok (.iaload, 1) := by decide +kernel
theorem dX1_drawdownOf_37 : decode cX1_drawdownOf 37 = .ok (.i2l, 1) := by decide +kernel
theorem dX1_drawdownOf_38 : decode cX1_drawdownOf 38 = .ok (.aload_n 0, 1) := by decide +kernel
theorem dX1_drawdownOf_39 : decode cX1_drawdownOf 39 = .ok (.iload 5, 2) := by decide +kernel
theorem dX1_drawdownOf_41 : decode cX1_drawdownOf 41 = .ok (.iload_n 1, 1) := by decide +kernel
theorem dX1_drawdownOf_42 : decode cX1_drawdownOf 42 = .ok (.iload_n 2, 1) := by decide +kernel
theorem dX1_drawdownOf_43 : decode cX1_drawdownOf 43 = .ok (.iload 6, 2) := by decide +kernel
theorem dX1_drawdownOf_45 : decode cX1_drawdownOf 45 = .ok (.isub, 1) := by decide +kernel
theorem dX1_drawdownOf_46 : decode cX1_drawdownOf 46 = .ok (.invokevirtual 70, 3) := by decide +kernel
theorem dX1_drawdownOf_49 : decode cX1_drawdownOf 49 = .ok (.i2l, 1) := by decide +kernel
theorem dX1_drawdownOf_50 : decode cX1_drawdownOf 50 = .ok (.lmul, 1) := by decide +kernel
theorem dX1_drawdownOf_51 : decode cX1_drawdownOf 51 = .ok (.ladd, 1) := by decide +kernel
theorem dX1_drawdownOf_52 : decode cX1_drawdownOf 52 = .ok (.lstore_n 3, 1) := by decide +kernel
theorem dX1_drawdownOf_53 : decode cX1_drawdownOf 53 = .ok (.iinc 6 1, 3) := by decide +kernel
theorem dX1_drawdownOf_56 : decode cX1_drawdownOf 56 = .ok (.goto (-39), 3) := by decide +kernel
theorem dX1_drawdownOf_59 : decode cX1_drawdownOf 59 = .ok (.iinc 5 1, 3) := by decide +kernel
theorem dX1_drawdownOf_62 : decode cX1_drawdownOf 62 = .ok (.goto (-57), 3) := by decide +kernel
theorem dX1_drawdownOf_65 : decode cX1_drawdownOf 65 = .ok (.lload_n 3, 1) := by decide +kernel
theorem dX1_drawdownOf_66 : decode cX1_drawdownOf 66 = .ok (.lreturn, 1) := by decide +kernel
set_option maxRecDepth 20000 in
theorem ggX1_drawdown_X1_isWatch : GoodIn wsX1_drawdown wsX1_isWatch := goodIn_r _ [5, 6, 7, 8, 4, 9, 31, 32, 33, 34, 35, 36, 37, 38, 39, 40, 41] (by decide +kernel) (by decide +kernel)
set_option maxRecDepth 20000 in
theorem gX1_drawdown_X1_isWatch : GoodIn wsX1_drawdown (wsV RX1 74 RX1 yX1_isWatch wsX1_isWatch) := goodIn_app (goodIn_of _ (by decide +kernel)) ggX1_drawdown_X1_isWatch
set_option maxRecDepth 20000 in
theorem ggX1_drawdown_X1_isMonth : GoodIn wsX1_drawdown wsX1_isMonth := goodIn_r _ [12, 7, 8, 4, 9] (by decide +kernel) (by decide +kernel)
set_option maxRecDepth 20000 in
theorem gX1_drawdown_X1_isMonth : GoodIn wsX1_drawdown (va_wsS RX1 56 yX1_isMonth wsX1_isMonth) := goodIn_app (goodIn_of _ (by decide +kernel)) ggX1_drawdown_X1_isMonth
set_option maxRecDepth 20000 in
theorem ggX1_drawdown_X1_may : GoodIn wsX1_drawdown wsX1_may := goodIn_r _ [16, 17, 31, 32, 33, 34, 35, 36, 37, 38, 39, 40, 41] (by decide +kernel) (by decide +kernel)
set_option maxRecDepth 20000 in
theorem gX1_drawdown_X1_may : GoodIn wsX1_drawdown (wsV RX1 62 RX1 yX1_may wsX1_may) := goodIn_app (goodIn_of _ (by decide +kernel)) ggX1_drawdown_X1_may
set_option maxRecDepth 20000 in
theorem ggX1_drawdown_X1_drawdownOf : GoodIn wsX1_drawdown wsX1_drawdownOf := goodIn_r _ [21, 22, 23, 24, 25, 26, 4, 27, 28, 29, 30, 31, 32, 33, 34, 35, 36, 37, 38, 39, 40, 41] (by decide +kernel) (by decide +kernel)
set_option maxRecDepth 20000 in
theorem gX1_drawdown_X1_drawdownOf : GoodIn wsX1_drawdown (wsV RX1 77 RX1 yX1_drawdownOf wsX1_drawdownOf) := goodIn_app (goodIn_of _ (by decide +kernel)) ggX1_drawdown_X1_drawdownOf
theorem dX1_drawdown_0 : decode cX1_drawdown 0 = .ok (.aload_n 0, 1) := by decide +kernel
theorem dX1_drawdown_1 : decode cX1_drawdown 1 = .ok (.aload_n 0, 1) := by decide +kernel
theorem dX1_drawdown_2 : decode cX1_drawdown 2 = .ok (.iload_n 1, 1) := by decide +kernel
theorem dX1_drawdown_3 : decode cX1_drawdown 3 = .ok (.invokevirtual 74, 3) := by decide +kernel
theorem dX1_drawdown_6 : decode cX1_drawdown 6 = .ok (.ifCond .eq 14, 3) := by decide +kernel
theorem dX1_drawdown_9 : decode cX1_drawdown 9 = .ok (.iload_n 2, 1) := by decide +kernel
theorem dX1_drawdown_10 : decode cX1_drawdown 10 = .ok (.invokestatic 56, 3) := by decide +kernel
theorem dX1_drawdown_13 : decode cX1_drawdown 13 = .ok (.ifCond .eq 7, 3) := by decide +kernel
theorem dX1_drawdown_16 : decode cX1_drawdown 16 = .ok (.iconst 1, 1) := by decide +kernel
theorem dX1_drawdown_17 : decode cX1_drawdown 17 = .ok (.goto 4, 3) := by decide +kernel
theorem dX1_drawdown_20 : decode cX1_drawdown 20 = .ok (.iconst 0, 1) := by decide +kernel
theorem dX1_drawdown_21 : decode cX1_drawdown 21 = .ok (.invokevirtual 62, 3) := by decide +kernel
theorem dX1_drawdown_24 : decode cX1_drawdown 24 = .ok (.ifCond .eq 12, 3) := by decide +kernel
theorem dX1_drawdown_27 : decode cX1_drawdown 27 = .ok (.aload_n 0, 1) := by decide +kernel
theorem dX1_drawdown_28 : decode cX1_drawdown 28 = .ok (.iload_n 1, 1) := by decide +kernel
theorem dX1_drawdown_29 : decode cX1_drawdown 29 = .ok (.iload_n 2, 1) := by decide +kernel
theorem dX1_drawdown_30 : decode cX1_drawdown 30 = .ok (.invokevirtual 77, 3) := by decide +kernel
theorem dX1_drawdown_33 : decode cX1_drawdown 33 = .ok (.goto 4, 3) := by decide +kernel
theorem dX1_drawdown_36 : decode cX1_drawdown 36 = .ok (.lconst 0, 1) := by decide +kernel
theorem dX1_drawdown_37 : decode cX1_drawdown 37 = .ok (.lreturn, 1) := by decide +kernel
set_option maxRecDepth 20000 in
theorem ggX1_drawdownByPulses_X1_drawdown : GoodIn wsX1_drawdownByPulses wsX1_drawdown := goodIn_r _ [5, 6, 7, 8, 4, 9, 10, 11, 12, 13, 14, 15, 16, 17, 18, 19, 20, 21, 22, 23, 24, 25, 26, 27, 28, 29, 30, 31, 32, 33, 34, 35, 36, 37, 38, 39, 40, 41, 42, 43, 44, 45] (by decide +kernel) (by decide +kernel)
set_option maxRecDepth 20000 in
theorem gX1_drawdownByPulses_X1_drawdown : GoodIn wsX1_drawdownByPulses (wsV RX1 81 RX1 yX1_drawdown wsX1_drawdown) := goodIn_app (goodIn_of _ (by decide +kernel)) ggX1_drawdownByPulses_X1_drawdown
theorem dX1_drawdownByPulses_0 : decode cX1_drawdownByPulses 0 = .ok (.aload_n 0, 1) := by decide +kernel
theorem dX1_drawdownByPulses_1 : decode cX1_drawdownByPulses 1 = .ok (.iload_n 1, 1) := by decide +kernel
theorem dX1_drawdownByPulses_2 : decode cX1_drawdownByPulses 2 = .ok (.iload_n 2, 1) := by decide +kernel
theorem dX1_drawdownByPulses_3 : decode cX1_drawdownByPulses 3 = .ok (.invokevirtual 81, 3) := by decide +kernel
theorem dX1_drawdownByPulses_6 : decode cX1_drawdownByPulses 6 = .ok (.lreturn, 1) := by decide +kernel
set_option maxRecDepth 20000 in
theorem ggX1_worstMonth_X1_isWatch : GoodIn wsX1_worstMonth wsX1_isWatch := goodIn_r _ [5, 6, 7, 8, 4, 9, 28, 29, 30, 31, 32, 33, 34, 35, 36, 37, 38] (by decide +kernel) (by decide +kernel)
set_option maxRecDepth 20000 in
theorem gX1_worstMonth_X1_isWatch : GoodIn wsX1_worstMonth (wsV RX1 74 RX1 yX1_isWatch wsX1_isWatch) := goodIn_app (goodIn_of _ (by decide +kernel)) ggX1_worstMonth_X1_isWatch
set_option maxRecDepth 20000 in
theorem ggX1_worstMonth_X1_may : GoodIn wsX1_worstMonth wsX1_may := goodIn_r _ [13, 14, 28, 29, 30, 31, 32, 33, 34, 35, 36, 37, 38] (by decide +kernel) (by decide +kernel)
set_option maxRecDepth 20000 in
theorem gX1_worstMonth_X1_may : GoodIn wsX1_worstMonth (wsV RX1 62 RX1 yX1_may wsX1_may) := goodIn_app (goodIn_of _ (by decide +kernel)) ggX1_worstMonth_X1_may
set_option maxRecDepth 20000 in
theorem ggX1_worstMonth_X1_drawdownOf : GoodIn wsX1_worstMonth wsX1_drawdownOf := goodIn_r _ [18, 19, 20, 21, 22, 23, 4, 24, 25, 26, 27, 28, 29, 30, 31, 32, 33, 34, 35, 36, 37, 38] (by decide +kernel) (by decide +kernel)
set_option maxRecDepth 20000 in
theorem gX1_worstMonth_X1_drawdownOf : GoodIn wsX1_worstMonth (wsV RX1 77 RX1 yX1_drawdownOf wsX1_drawdownOf) := goodIn_app (goodIn_of _ (by decide +kernel)) ggX1_worstMonth_X1_drawdownOf
theorem dX1_worstMonth_0 : decode cX1_worstMonth 0 = .ok (.aload_n 0, 1) := by decide +kernel
theorem dX1_worstMonth_1 : decode cX1_worstMonth 1 = .ok (.aload_n 0, 1) := by decide +kernel
theorem dX1_worstMonth_2 : decode cX1_worstMonth 2 = .ok (.iload_n 1, 1) := by decide +kernel
theorem dX1_worstMonth_3 : decode cX1_worstMonth 3 = .ok (.invokevirtual 74, 3) := by decide +kernel
theorem dX1_worstMonth_6 : decode cX1_worstMonth 6 = .ok (.invokevirtual 62, 3) := by decide +kernel
theorem dX1_worstMonth_9 : decode cX1_worstMonth 9 = .ok (.ifCond .ne 5, 3) := by decide +kernel
theorem dX1_worstMonth_12 : decode cX1_worstMonth 12 = .ok (.iconst 0, 1) := by decide +kernel
theorem dX1_worstMonth_13 : decode cX1_worstMonth 13 = .ok (.ireturn, 1) := by decide +kernel
theorem dX1_worstMonth_14 : decode cX1_worstMonth 14 = .ok (.iconst 0, 1) := by decide +kernel
theorem dX1_worstMonth_15 : decode cX1_worstMonth 15 = .ok (.istore_n 2, 1) := by decide +kernel
theorem dX1_worstMonth_16 : decode cX1_worstMonth 16 = .ok (.iconst 1, 1) := by decide +kernel
theorem dX1_worstMonth_17 : decode cX1_worstMonth 17 = .ok (.istore_n 3, 1) := by decide +kernel
theorem dX1_worstMonth_18 : decode cX1_worstMonth 18 = .ok (.iload_n 3, 1) := by decide +kernel
theorem dX1_worstMonth_19 : decode cX1_worstMonth 19 = .ok (.bipush 36, 2) := by decide +kernel
theorem dX1_worstMonth_21 : decode cX1_worstMonth 21 = .ok (.if_icmp .ge 31, 3) := by decide +kernel
theorem dX1_worstMonth_24 : decode cX1_worstMonth 24 = .ok (.aload_n 0, 1) := by decide +kernel
theorem dX1_worstMonth_25 : decode cX1_worstMonth 25 = .ok (.iload_n 1, 1) := by decide +kernel
theorem dX1_worstMonth_26 : decode cX1_worstMonth 26 = .ok (.iload_n 3, 1) := by decide +kernel
theorem dX1_worstMonth_27 : decode cX1_worstMonth 27 = .ok (.invokevirtual 77, 3) := by decide +kernel
theorem dX1_worstMonth_30 : decode cX1_worstMonth 30 = .ok (.aload_n 0, 1) := by decide +kernel
theorem dX1_worstMonth_31 : decode cX1_worstMonth 31 = .ok (.iload_n 1, 1) := by decide +kernel
theorem dX1_worstMonth_32 : decode cX1_worstMonth 32 = .ok (.iload_n 2, 1) := by decide +kernel
theorem dX1_worstMonth_33 : decode cX1_worstMonth 33 = .ok (.invokevirtual 77, 3) := by decide +kernel
theorem dX1_worstMonth_36 : decode cX1_worstMonth 36 = .ok (.lcmp, 1) := by decide +kernel
theorem dX1_worstMonth_37 : decode cX1_worstMonth 37 = .ok (.ifCond .le 7, 3) := by decide +kernel
theorem dX1_worstMonth_40 : decode cX1_worstMonth 40 = .ok (.iload_n 3, 1) := by decide +kernel
theorem dX1_worstMonth_41 : decode cX1_worstMonth 41 = .ok (.goto 4, 3) := by decide +kernel
theorem dX1_worstMonth_44 : decode cX1_worstMonth 44 = .ok (.iload_n 2, 1) := by decide +kernel
theorem dX1_worstMonth_45 : decode cX1_worstMonth 45 = .ok (.istore_n 2, 1) := by decide +kernel
theorem dX1_worstMonth_46 : decode cX1_worstMonth 46 = .ok (.iinc 3 1, 3) := by decide +kernel
theorem dX1_worstMonth_49 : decode cX1_worstMonth 49 = .ok (.goto (-31), 3) := by decide +kernel
theorem dX1_worstMonth_52 : decode cX1_worstMonth 52 = .ok (.iload_n 2, 1) := by decide +kernel
theorem dX1_worstMonth_53 : decode cX1_worstMonth 53 = .ok (.ireturn, 1) := by decide +kernel
set_option maxRecDepth 20000 in
theorem ggX1_over_X1_isWatch : GoodIn wsX1_over wsX1_isWatch := goodIn_r _ [7, 8, 9, 10, 6, 11, 30, 31, 32, 33, 34, 35, 36, 37, 38, 39, 40] (by decide +kernel) (by decide +kernel)
set_option maxRecDepth 20000 in
theorem gX1_over_X1_isWatch : GoodIn wsX1_over (wsV RX1 74 RX1 yX1_isWatch wsX1_isWatch) := goodIn_app (goodIn_of _ (by decide +kernel)) ggX1_over_X1_isWatch
set_option maxRecDepth 20000 in
theorem ggX1_over_X1_may : GoodIn wsX1_over wsX1_may := goodIn_r _ [15, 16, 30, 31, 32, 33, 34, 35, 36, 37, 38, 39, 40] (by decide +kernel) (by decide +kernel)
set_option maxRecDepth 20000 in
theorem gX1_over_X1_may : GoodIn wsX1_over (wsV RX1 62 RX1 yX1_may wsX1_may) := goodIn_app (goodIn_of _ (by decide +kernel)) ggX1_over_X1_may
set_option maxRecDepth 20000 in
theorem ggX1_over_X1_drawdownOf : GoodIn wsX1_over wsX1_drawdownOf := goodIn_r _ [20, 21, 22, 23, 24, 25, 6, 26, 27, 28, 29, 30, 31, 32, 33, 34, 35, 36, 37, 38, 39, 40] (by decide +kernel) (by decide +kernel)
set_option maxRecDepth 20000 in
theorem gX1_over_X1_drawdownOf : GoodIn wsX1_over (wsV RX1 77 RX1 yX1_drawdownOf wsX1_drawdownOf) := goodIn_app (goodIn_of _ (by decide +kernel)) ggX1_over_X1_drawdownOf
theorem dX1_over_0 : decode cX1_over 0 = .ok (.aload_n 0, 1) := by decide +kernel
theorem dX1_over_1 : decode cX1_over 1 = .ok (.aload_n 0, 1) := by decide +kernel
theorem dX1_over_2 : decode cX1_over 2 = .ok (.iload_n 1, 1) := by decide +kernel
theorem dX1_over_3 : decode cX1_over 3 = .ok (.invokevirtual 74, 3) := by decide +kernel
theorem dX1_over_6 : decode cX1_over 6 = .ok (.invokevirtual 62, 3) := by decide +kernel
theorem dX1_over_9 : decode cX1_over 9 = .ok (.ifCond .ne 5, 3) := by decide +kernel
theorem dX1_over_12 : decode cX1_over 12 = .ok (.iconst 0, 1) := by decide +kernel
theorem dX1_over_13 : decode cX1_over 13 = .ok (.ireturn, 1) := by decide +kernel
theorem dX1_over_14 : decode cX1_over 14 = .ok (.iconst 0, 1) := by decide +kernel
theorem dX1_over_15 : decode cX1_over 15 = .ok (.istore_n 2, 1) := by decide +kernel
theorem dX1_over_16 : decode cX1_over 16 = .ok (.iconst 0, 1) := by decide +kernel
theorem dX1_over_17 : decode cX1_over 17 = .ok (.istore_n 3, 1) := by decide +kernel
theorem dX1_over_18 : decode cX1_over 18 = .ok (.iload_n 3, 1) := by decide +kernel
theorem dX1_over_19 : decode cX1_over 19 = .ok (.bipush 36, 2) := by decide +kernel
theorem dX1_over_21 : decode cX1_over 21 = .ok (.if_icmp .ge 38, 3) := by decide +kernel
theorem dX1_over_24 : decode cX1_over 24 = .ok (.iload_n 2, 1) := by decide +kernel
theorem dX1_over_25 : decode cX1_over 25 = .ok (.aload_n 0, 1) := by decide +kernel
theorem dX1_over_26 : decode cX1_over 26 = .ok (.iload_n 1, 1) := by decide +kernel
theorem dX1_over_27 : decode cX1_over 27 = .ok (.iload_n 3, 1) := by decide +kernel
theorem dX1_over_28 : decode cX1_over 28 = .ok (.invokevirtual 77, 3) := by decide +kernel
theorem dX1_over_31 : decode cX1_over 31 = .ok (.ldc2_w 84, 3) := by decide +kernel
theorem dX1_over_34 : decode cX1_over 34 = .ok (.aload_n 0, 1) := by decide +kernel
theorem dX1_over_35 : decode cX1_over 35 = .ok (.getfield 25, 3) := by decide +kernel
theorem dX1_over_38 : decode cX1_over 38 = .ok (.iload_n 1, 1) := by decide +kernel
theorem dX1_over_39 : decode cX1_over 39 = .ok (.iaload, 1) := by decide +kernel
theorem dX1_over_40 : decode cX1_over 40 = .ok (.i2l, 1) := by decide +kernel
theorem dX1_over_41 : decode cX1_over 41 = .ok (.lmul, 1) := by decide +kernel
theorem dX1_over_42 : decode cX1_over 42 = .ok (.lcmp, 1) := by decide +kernel
theorem dX1_over_43 : decode cX1_over 43 = .ok (.ifCond .le 7, 3) := by decide +kernel
theorem dX1_over_46 : decode cX1_over 46 = .ok (.iconst 1, 1) := by decide +kernel
theorem dX1_over_47 : decode cX1_over 47 = .ok (.goto 4, 3) := by decide +kernel
theorem dX1_over_50 : decode cX1_over 50 = .ok (.iconst 0, 1) := by decide +kernel
theorem dX1_over_51 : decode cX1_over 51 = .ok (.iadd, 1) := by decide +kernel
theorem dX1_over_52 : decode cX1_over 52 = .ok (.istore_n 2, 1) := by decide +kernel
theorem dX1_over_53 : decode cX1_over 53 = .ok (.iinc 3 1, 3) := by decide +kernel
theorem dX1_over_56 : decode cX1_over 56 = .ok (.goto (-38), 3) := by decide +kernel
theorem dX1_over_59 : decode cX1_over 59 = .ok (.iload_n 2, 1) := by decide +kernel
theorem dX1_over_60 : decode cX1_over 60 = .ok (.ireturn, 1) := by decide +kernel
set_option maxRecDepth 20000 in
theorem ggX1_headroom_X1_isWell : GoodIn wsX1_headroom wsX1_isWell := goodIn_r _ [9, 10, 11, 12, 8, 13, 33, 34, 35, 36, 37, 38, 39, 40, 41, 42, 43] (by decide +kernel) (by decide +kernel)
set_option maxRecDepth 20000 in
theorem gX1_headroom_X1_isWell : GoodIn wsX1_headroom (wsV RX1 52 RX1 yX1_isWell wsX1_isWell) := goodIn_app (goodIn_of _ (by decide +kernel)) ggX1_headroom_X1_isWell
set_option maxRecDepth 20000 in
theorem ggX1_headroom_X1_isMonth : GoodIn wsX1_headroom wsX1_isMonth := goodIn_r _ [16, 11, 12, 8, 13] (by decide +kernel) (by decide +kernel)
set_option maxRecDepth 20000 in
theorem gX1_headroom_X1_isMonth : GoodIn wsX1_headroom (va_wsS RX1 56 yX1_isMonth wsX1_isMonth) := goodIn_app (goodIn_of _ (by decide +kernel)) ggX1_headroom_X1_isMonth
set_option maxRecDepth 20000 in
theorem ggX1_headroom_X1_may : GoodIn wsX1_headroom wsX1_may := goodIn_r _ [20, 21, 33, 34, 35, 36, 37, 38, 39, 40, 41, 42, 43] (by decide +kernel) (by decide +kernel)
set_option maxRecDepth 20000 in
theorem gX1_headroom_X1_may : GoodIn wsX1_headroom (wsV RX1 62 RX1 yX1_may wsX1_may) := goodIn_app (goodIn_of _ (by decide +kernel)) ggX1_headroom_X1_may
set_option maxRecDepth 20000 in
theorem ggX1_headroom_X1_answer : GoodIn wsX1_headroom wsX1_answer := goodIn_r _ [25, 26, 27, 28, 33, 34, 35, 36, 37, 38, 39, 40, 41, 42, 43] (by decide +kernel) (by decide +kernel)
set_option maxRecDepth 20000 in
theorem gX1_headroom_X1_answer : GoodIn wsX1_headroom (wsV RX1 70 RX1 yX1_answer wsX1_answer) := goodIn_app (goodIn_of _ (by decide +kernel)) ggX1_headroom_X1_answer
set_option maxRecDepth 20000 in
theorem ggX1_headroom_X1_drawdownOf : GoodIn wsX1_headroom wsX1_drawdownOf := goodIn_r _ [32, 10, 1, 22, 23, 24, 8, 25, 26, 27, 28, 33, 34, 35, 36, 37, 38, 39, 40, 41, 42, 43] (by decide +kernel) (by decide +kernel)
set_option maxRecDepth 20000 in
theorem gX1_headroom_X1_drawdownOf : GoodIn wsX1_headroom (wsV RX1 77 RX1 yX1_drawdownOf wsX1_drawdownOf) := goodIn_app (goodIn_of _ (by decide +kernel)) ggX1_headroom_X1_drawdownOf
theorem dX1_headroom_0 : decode cX1_headroom 0 = .ok (.aload_n 0, 1) := by decide +kernel
theorem dX1_headroom_1 : decode cX1_headroom 1 = .ok (.aload_n 0, 1) := by decide +kernel
theorem dX1_headroom_2 : decode cX1_headroom 2 = .ok (.iload_n 1, 1) := by decide +kernel
theorem dX1_headroom_3 : decode cX1_headroom 3 = .ok (.invokevirtual 52, 3) := by decide +kernel
theorem dX1_headroom_6 : decode cX1_headroom 6 = .ok (.ifCond .eq 14, 3) := by decide +kernel
theorem dX1_headroom_9 : decode cX1_headroom 9 = .ok (.iload_n 2, 1) := by decide +kernel
theorem dX1_headroom_10 : decode cX1_headroom 10 = .ok (.invokestatic 56, 3) := by decide +kernel
theorem dX1_headroom_13 : decode cX1_headroom 13 = .ok (.ifCond .eq 7, 3) := by decide +kernel
theorem dX1_headroom_16 : decode cX1_headroom 16 = .ok (.iconst 1, 1) := by decide +kernel
theorem dX1_headroom_17 : decode cX1_headroom 17 = .ok (.goto 4, 3) := by decide +kernel
theorem dX1_headroom_20 : decode cX1_headroom 20 = .ok (.iconst 0, 1) := by decide +kernel
theorem dX1_headroom_21 : decode cX1_headroom 21 = .ok (.invokevirtual 62, 3) := by decide +kernel
theorem dX1_headroom_24 : decode cX1_headroom 24 = .ok (.ifCond .ne 5, 3) := by decide +kernel
theorem dX1_headroom_27 : decode cX1_headroom 27 = .ok (.iconst 0, 1) := by decide +kernel
theorem dX1_headroom_28 : decode cX1_headroom 28 = .ok (.ireturn, 1) := by decide +kernel
theorem dX1_headroom_29 : decode cX1_headroom 29 = .ok (.sipush 1000, 3) := by decide +kernel
theorem dX1_headroom_32 : decode cX1_headroom 32 = .ok (.aload_n 0, 1) := by decide +kernel
theorem dX1_headroom_33 : decode cX1_headroom 33 = .ok (.getfield 19, 3) := by decide +kernel
theorem dX1_headroom_36 : decode cX1_headroom 36 = .ok (.bipush 36, 2) := by decide +kernel
theorem dX1_headroom_38 : decode cX1_headroom 38 = .ok (.iload_n 1, 1) := by decide +kernel
theorem dX1_headroom_39 : decode cX1_headroom 39 = .ok (.imul, 1) := by decide +kernel
theorem dX1_headroom_40 : decode cX1_headroom 40 = .ok (.iload_n 2, 1) := by decide +kernel
theorem dX1_headroom_41 : decode cX1_headroom 41 = .ok (.iadd, 1) := by decide +kernel
theorem dX1_headroom_42 : decode cX1_headroom 42 = .ok (.iaload, 1) := by decide +kernel
theorem dX1_headroom_43 : decode cX1_headroom 43 = .ok (.isub, 1) := by decide +kernel
theorem dX1_headroom_44 : decode cX1_headroom 44 = .ok (.i2l, 1) := by decide +kernel
theorem dX1_headroom_45 : decode cX1_headroom 45 = .ok (.lstore_n 3, 1) := by decide +kernel
theorem dX1_headroom_46 : decode cX1_headroom 46 = .ok (.iconst 0, 1) := by decide +kernel
theorem dX1_headroom_47 : decode cX1_headroom 47 = .ok (.istore 5, 2) := by decide +kernel
theorem dX1_headroom_49 : decode cX1_headroom 49 = .ok (.iload 5, 2) := by decide +kernel
theorem dX1_headroom_51 : decode cX1_headroom 51 = .ok (.aload_n 0, 1) := by decide +kernel
theorem dX1_headroom_52 : decode cX1_headroom 52 = .ok (.getfield 45, 3) := by decide +kernel
theorem dX1_headroom_55 : decode cX1_headroom 55 = .ok (.if_icmp .ge 108, 3) := by decide +kernel
theorem dX1_headroom_58 : decode cX1_headroom 58 = .ok (.iconst 0, 1) := by decide +kernel
theorem dX1_headroom_59 : decode cX1_headroom 59 = .ok (.istore 6, 2) := by decide +kernel
theorem dX1_headroom_61 : decode cX1_headroom 61 = .ok (.iload 6, 2) := by decide +kernel
theorem dX1_headroom_63 : decode cX1_headroom 63 = .ok (.bipush 12, 2) := by decide +kernel
theorem dX1_headroom_65 : decode cX1_headroom 65 = .ok (.if_icmp .ge 92, 3) := by decide +kernel
theorem dX1_headroom_68 : decode cX1_headroom 68 = .ok (.iload_n 2, 1) := by decide +kernel
theorem dX1_headroom_69 : decode cX1_headroom 69 = .ok (.iload 6, 2) := by decide +kernel
theorem dX1_headroom_71 : decode cX1_headroom 71 = .ok (.iadd, 1) := by decide +kernel
theorem dX1_headroom_72 : decode cX1_headroom 72 = .ok (.bipush 36, 2) := by decide +kernel
theorem dX1_headroom_74 : decode cX1_headroom 74 = .ok (.if_icmp .ge 83, 3) := by decide +kernel
theorem dX1_headroom_77 : decode cX1_headroom 77 = .ok (.aload_n 0, 1) := by decide +kernel
theorem dX1_headroom_78 : decode cX1_headroom 78 = .ok (.iload_n 1, 1) := by decide +kernel
theorem dX1_headroom_79 : decode cX1_headroom 79 = .ok (.iload 5, 2) := by decide +kernel
theorem dX1_headroom_81 : decode cX1_headroom 81 = .ok (.iload 6, 2) := by decide +kernel
theorem dX1_headroom_83 : decode cX1_headroom 83 = .ok (.invokevirtual 70, 3) := by decide +kernel
theorem dX1_headroom_86 : decode cX1_headroom 86 = .ok (.istore 7, 2) := by decide +kernel
theorem dX1_headroom_88 : decode cX1_headroom 88 = .ok (.iload 7, 2) := by decide +kernel
theorem dX1_headroom_90 : decode cX1_headroom 90 = .ok (.ifCond .le 61, 3) := by decide +kernel
theorem dX1_headroom_93 : decode cX1_headroom 93 = .ok (.ldc2_w 84, 3) := by decide +kernel
theorem dX1_headroom_96 : decode cX1_headroom 96 = .ok (.aload_n 0, 1) := by decide +kernel
theorem dX1_headroom_97 : decode cX1_headroom 97 = .ok (.getfield 25, 3) := by decide +kernel
theorem dX1_headroom_100 : decode cX1_headroom 100 = .ok (.iload 5, 2) := by decide +kernel
theorem dX1_headroom_102 : decode cX1_headroom 102 = .ok (.iaload, 1) := by decide +kernel
theorem dX1_headroom_103 : decode cX1_headroom 103 = .ok (.i2l, 1) := by decide +kernel
theorem dX1_headroom_104 : decode cX1_headroom 104 = .ok (.lmul, 1) := by decide +kernel
theorem dX1_headroom_105 : decode cX1_headroom 105 = .ok (.aload_n 0, 1) := by decide +kernel
theorem dX1_headroom_106 : decode cX1_headroom 106 = .ok (.iload 5, 2) := by decide +kernel
theorem dX1_headroom_108 : decode cX1_headroom 108 = .ok (.iload_n 2, 1) := by decide +kernel
theorem dX1_headroom_109 : decode cX1_headroom 109 = .ok (.iload 6, 2) := by decide +kernel
theorem dX1_headroom_111 : decode cX1_headroom 111 = .ok (.iadd, 1) := by decide +kernel
theorem dX1_headroom_112 : decode cX1_headroom 112 = .ok (.invokevirtual 77, 3) := by decide +kernel
theorem dX1_headroom_115 : decode cX1_headroom 115 = .ok (.lsub, 1) := by decide +kernel
theorem dX1_headroom_116 : decode cX1_headroom 116 = .ok (.lstore 8, 2) := by decide +kernel
theorem dX1_headroom_118 : decode cX1_headroom 118 = .ok (.lload 8, 2) := by decide +kernel
theorem dX1_headroom_120 : decode cX1_headroom 120 = .ok (.lconst 0, 1) := by decide +kernel
theorem dX1_headroom_121 : decode cX1_headroom 121 = .ok (.lcmp, 1) := by decide +kernel
theorem dX1_headroom_122 : decode cX1_headroom 122 = .ok (.ifCond .ge 7, 3) := by decide +kernel
theorem dX1_headroom_125 : decode cX1_headroom 125 = .ok (.lconst 0, 1) := by decide +kernel
theorem dX1_headroom_126 : decode cX1_headroom 126 = .ok (.goto 9, 3) := by decide +kernel
theorem dX1_headroom_129 : decode cX1_headroom 129 = .ok (.lload 8, 2) := by decide +kernel
theorem dX1_headroom_131 : decode cX1_headroom 131 = .ok (.iload 7, 2) := by decide +kernel
theorem dX1_headroom_133 : decode cX1_headroom 133 = .ok (.i2l, 1) := by decide +kernel
theorem dX1_headroom_134 : decode cX1_headroom 134 = .ok (.ldiv, 1) := by decide +kernel
theorem dX1_headroom_135 : decode cX1_headroom 135 = .ok (.lstore 10, 2) := by decide +kernel
theorem dX1_headroom_137 : decode cX1_headroom 137 = .ok (.lload 10, 2) := by decide +kernel
theorem dX1_headroom_139 : decode cX1_headroom 139 = .ok (.lload_n 3, 1) := by decide +kernel
theorem dX1_headroom_140 : decode cX1_headroom 140 = .ok (.lcmp, 1) := by decide +kernel
theorem dX1_headroom_141 : decode cX1_headroom 141 = .ok (.ifCond .ge 8, 3) := by decide +kernel
theorem dX1_headroom_144 : decode cX1_headroom 144 = .ok (.lload 10, 2) := by decide +kernel
theorem dX1_headroom_146 : decode cX1_headroom 146 = .ok (.goto 4, 3) := by decide +kernel
theorem dX1_headroom_149 : decode cX1_headroom 149 = .ok (.lload_n 3, 1) := by decide +kernel
theorem dX1_headroom_150 : decode cX1_headroom 150 = .ok (.lstore_n 3, 1) := by decide +kernel
theorem dX1_headroom_151 : decode cX1_headroom 151 = .ok (.iinc 6 1, 3) := by decide +kernel
theorem dX1_headroom_154 : decode cX1_headroom 154 = .ok (.goto (-93), 3) := by decide +kernel
theorem dX1_headroom_157 : decode cX1_headroom 157 = .ok (.iinc 5 1, 3) := by decide +kernel
theorem dX1_headroom_160 : decode cX1_headroom 160 = .ok (.goto (-111), 3) := by decide +kernel
theorem dX1_headroom_163 : decode cX1_headroom 163 = .ok (.lload_n 3, 1) := by decide +kernel
theorem dX1_headroom_164 : decode cX1_headroom 164 = .ok (.l2i, 1) := by decide +kernel
theorem dX1_headroom_165 : decode cX1_headroom 165 = .ok (.ireturn, 1) := by decide +kernel
set_option maxRecDepth 20000 in
theorem ggX1_heaviest_X1_isWatch : GoodIn wsX1_heaviest wsX1_isWatch := goodIn_r _ [7, 8, 9, 10, 6, 11, 27, 28, 29, 30, 31, 32, 33, 34, 35, 36, 37] (by decide +kernel) (by decide +kernel)
set_option maxRecDepth 20000 in
theorem gX1_heaviest_X1_isWatch : GoodIn wsX1_heaviest (wsV RX1 74 RX1 yX1_isWatch wsX1_isWatch) := goodIn_app (goodIn_of _ (by decide +kernel)) ggX1_heaviest_X1_isWatch
set_option maxRecDepth 20000 in
theorem ggX1_heaviest_X1_isMonth : GoodIn wsX1_heaviest wsX1_isMonth := goodIn_r _ [14, 9, 10, 6, 11] (by decide +kernel) (by decide +kernel)
set_option maxRecDepth 20000 in
theorem gX1_heaviest_X1_isMonth : GoodIn wsX1_heaviest (va_wsS RX1 56 yX1_isMonth wsX1_isMonth) := goodIn_app (goodIn_of _ (by decide +kernel)) ggX1_heaviest_X1_isMonth
set_option maxRecDepth 20000 in
theorem ggX1_heaviest_X1_may : GoodIn wsX1_heaviest wsX1_may := goodIn_r _ [18, 19, 27, 28, 29, 30, 31, 32, 33, 34, 35, 36, 37] (by decide +kernel) (by decide +kernel)
set_option maxRecDepth 20000 in
theorem gX1_heaviest_X1_may : GoodIn wsX1_heaviest (wsV RX1 62 RX1 yX1_may wsX1_may) := goodIn_app (goodIn_of _ (by decide +kernel)) ggX1_heaviest_X1_may
set_option maxRecDepth 20000 in
theorem ggX1_heaviest_X1_answer : GoodIn wsX1_heaviest wsX1_answer := goodIn_r _ [23, 24, 25, 26, 27, 28, 29, 30, 31, 32, 33, 34, 35, 36, 37] (by decide +kernel) (by decide +kernel)
set_option maxRecDepth 20000 in
theorem gX1_heaviest_X1_answer : GoodIn wsX1_heaviest (wsV RX1 70 RX1 yX1_answer wsX1_answer) := goodIn_app (goodIn_of _ (by decide +kernel)) ggX1_heaviest_X1_answer
theorem dX1_heaviest_0 : decode cX1_heaviest 0 = .ok (.aload_n 0, 1) := by decide +kernel
theorem dX1_heaviest_1 : decode cX1_heaviest 1 = .ok (.aload_n 0, 1) := by decide +kernel
theorem dX1_heaviest_2 : decode cX1_heaviest 2 = .ok (.iload_n 1, 1) := by decide +kernel
theorem dX1_heaviest_3 : decode cX1_heaviest 3 = .ok (.invokevirtual 74, 3) := by decide +kernel
theorem dX1_heaviest_6 : decode cX1_heaviest 6 = .ok (.ifCond .eq 14, 3) := by decide +kernel
theorem dX1_heaviest_9 : decode cX1_heaviest 9 = .ok (.iload_n 2, 1) := by decide +kernel
theorem dX1_heaviest_10 : decode cX1_heaviest 10 = .ok (.invokestatic 56, 3) := by decide +kernel
theorem dX1_heaviest_13 : decode cX1_heaviest 13 = .ok (.ifCond .eq 7, 3) := by decide +kernel
theorem dX1_heaviest_16 : decode cX1_heaviest 16 = .ok (.iconst 1, 1) := by decide +kernel
theorem dX1_heaviest_17 : decode cX1_heaviest 17 = .ok (.goto 4, 3) := by decide +kernel
theorem dX1_heaviest_20 : decode cX1_heaviest 20 = .ok (.iconst 0, 1) := by decide +kernel
theorem dX1_heaviest_21 : decode cX1_heaviest 21 = .ok (.invokevirtual 62, 3) := by decide +kernel
theorem dX1_heaviest_24 : decode cX1_heaviest 24 = .ok (.ifCond .ne 5, 3) := by decide +kernel
theorem dX1_heaviest_27 : decode cX1_heaviest 27 = .ok (.iconst 0, 1) := by decide +kernel
theorem dX1_heaviest_28 : decode cX1_heaviest 28 = .ok (.ireturn, 1) := by decide +kernel
theorem dX1_heaviest_29 : decode cX1_heaviest 29 = .ok (.iconst (-1), 1) := by decide +kernel
theorem dX1_heaviest_30 : decode cX1_heaviest 30 = .ok (.istore_n 3, 1) := by decide +kernel
theorem dX1_heaviest_31 : decode cX1_heaviest 31 = .ok (.iconst 0, 1) := by decide +kernel
theorem dX1_heaviest_32 : decode cX1_heaviest 32 = .ok (.istore 4, 2) := by decide +kernel
theorem dX1_heaviest_34 : decode cX1_heaviest 34 = .ok (.iconst 0, 1) := by decide +kernel
theorem dX1_heaviest_35 : decode cX1_heaviest 35 = .ok (.istore 5, 2) := by decide +kernel
theorem dX1_heaviest_37 : decode cX1_heaviest 37 = .ok (.iload 5, 2) := by decide +kernel
theorem dX1_heaviest_39 : decode cX1_heaviest 39 = .ok (.aload_n 0, 1) := by decide +kernel
theorem dX1_heaviest_40 : decode cX1_heaviest 40 = .ok (.getfield 38, 3) := by decide +kernel
theorem dX1_heaviest_43 : decode cX1_heaviest 43 = .ok (.if_icmp .ge 78, 3) := by decide +kernel
theorem dX1_heaviest_46 : decode cX1_heaviest 46 = .ok (.iconst 0, 1) := by decide +kernel
theorem dX1_heaviest_47 : decode cX1_heaviest 47 = .ok (.istore 6, 2) := by decide +kernel
theorem dX1_heaviest_49 : decode cX1_heaviest 49 = .ok (.iconst 0, 1) := by decide +kernel
theorem dX1_heaviest_50 : decode cX1_heaviest 50 = .ok (.istore 7, 2) := by decide +kernel
theorem dX1_heaviest_52 : decode cX1_heaviest 52 = .ok (.iload 7, 2) := by decide +kernel
theorem dX1_heaviest_54 : decode cX1_heaviest 54 = .ok (.bipush 12, 2) := by decide +kernel
theorem dX1_heaviest_56 : decode cX1_heaviest 56 = .ok (.if_icmp .ge 45, 3) := by decide +kernel
theorem dX1_heaviest_59 : decode cX1_heaviest 59 = .ok (.iload_n 2, 1) := by decide +kernel
theorem dX1_heaviest_60 : decode cX1_heaviest 60 = .ok (.iload 7, 2) := by decide +kernel
theorem dX1_heaviest_62 : decode cX1_heaviest 62 = .ok (.iadd, 1) := by decide +kernel
theorem dX1_heaviest_63 : decode cX1_heaviest 63 = .ok (.bipush 36, 2) := by decide +kernel
theorem dX1_heaviest_65 : decode cX1_heaviest 65 = .ok (.if_icmp .ge 36, 3) := by decide +kernel
theorem dX1_heaviest_68 : decode cX1_heaviest 68 = .ok (.iload 6, 2) := by decide +kernel
theorem dX1_heaviest_70 : decode cX1_heaviest 70 = .ok (.aload_n 0, 1) := by decide +kernel
theorem dX1_heaviest_71 : decode cX1_heaviest 71 = .ok (.getfield 19, 3) := by decide +kernel
theorem dX1_heaviest_74 : decode cX1_heaviest 74 = .ok (.bipush 36, 2) := by decide +kernel
theorem dX1_heaviest_76 : decode cX1_heaviest 76 = .ok (.iload 5, 2) := by decide +kernel
theorem dX1_heaviest_78 : decode cX1_heaviest 78 = .ok (.imul, 1) := by decide +kernel
theorem dX1_heaviest_79 : decode cX1_heaviest 79 = .ok (.iload_n 2, 1) := by decide +kernel
theorem dX1_heaviest_80 : decode cX1_heaviest 80 = .ok (.iadd, 1) := by decide +kernel
theorem dX1_heaviest_81 : decode cX1_heaviest 81 = .ok (.iaload, 1) := by decide +kernel
theorem dX1_heaviest_82 : decode cX1_heaviest 82 = .ok (.aload_n 0, 1) := by decide +kernel
theorem dX1_heaviest_83 : decode cX1_heaviest 83 = .ok (.iload 5, 2) := by decide +kernel
theorem dX1_heaviest_85 : decode cX1_heaviest 85 = .ok (.iload_n 1, 1) := by decide +kernel
theorem dX1_heaviest_86 : decode cX1_heaviest 86 = .ok (.iload 7, 2) := by decide +kernel
theorem dX1_heaviest_88 : decode cX1_heaviest 88 = .ok (.invokevirtual 70, 3) := by decide +kernel
theorem dX1_heaviest_91 : decode cX1_heaviest 91 = .ok (.imul, 1) := by decide +kernel
theorem dX1_heaviest_92 : decode cX1_heaviest 92 = .ok (.iadd, 1) := by decide +kernel
theorem dX1_heaviest_93 : decode cX1_heaviest 93 = .ok (.istore 6, 2) := by decide +kernel
theorem dX1_heaviest_95 : decode cX1_heaviest 95 = .ok (.iinc 7 1, 3) := by decide +kernel
theorem dX1_heaviest_98 : decode cX1_heaviest 98 = .ok (.goto (-46), 3) := by decide +kernel
theorem dX1_heaviest_101 : decode cX1_heaviest 101 = .ok (.iload 6, 2) := by decide +kernel
theorem dX1_heaviest_103 : decode cX1_heaviest 103 = .ok (.iload 4, 2) := by decide +kernel
theorem dX1_heaviest_105 : decode cX1_heaviest 105 = .ok (.if_icmp .le 10, 3) := by decide +kernel
theorem dX1_heaviest_108 : decode cX1_heaviest 108 = .ok (.iload 5, 2) := by decide +kernel
theorem dX1_heaviest_110 : decode cX1_heaviest 110 = .ok (.istore_n 3, 1) := by decide +kernel
theorem dX1_heaviest_111 : decode cX1_heaviest 111 = .ok (.iload 6, 2) := by decide +kernel
theorem dX1_heaviest_113 : decode cX1_heaviest 113 = .ok (.istore 4, 2) := by decide +kernel
theorem dX1_heaviest_115 : decode cX1_heaviest 115 = .ok (.iinc 5 1, 3) := by decide +kernel
theorem dX1_heaviest_118 : decode cX1_heaviest 118 = .ok (.goto (-81), 3) := by decide +kernel
theorem dX1_heaviest_121 : decode cX1_heaviest 121 = .ok (.iload_n 3, 1) := by decide +kernel
theorem dX1_heaviest_122 : decode cX1_heaviest 122 = .ok (.ireturn, 1) := by decide +kernel
theorem dX1_takenBy_0 : decode cX1_takenBy 0 = .ok (.iconst 0, 1) := by decide +kernel
theorem dX1_takenBy_1 : decode cX1_takenBy 1 = .ok (.istore 4, 2) := by decide +kernel
theorem dX1_takenBy_3 : decode cX1_takenBy 3 = .ok (.aload_n 0, 1) := by decide +kernel
theorem dX1_takenBy_4 : decode cX1_takenBy 4 = .ok (.getfield 7, 3) := by decide +kernel
theorem dX1_takenBy_7 : decode cX1_takenBy 7 = .ok (.iload_n 1, 1) := by decide +kernel
theorem dX1_takenBy_8 : decode cX1_takenBy 8 = .ok (.iaload, 1) := by decide +kernel
theorem dX1_takenBy_9 : decode cX1_takenBy 9 = .ok (.iconst 5, 1) := by decide +kernel
theorem dX1_takenBy_10 : decode cX1_takenBy 10 = .ok (.idiv, 1) := by decide +kernel
theorem dX1_takenBy_11 : decode cX1_takenBy 11 = .ok (.istore 5, 2) := by decide +kernel
theorem dX1_takenBy_13 : decode cX1_takenBy 13 = .ok (.iconst 0, 1) := by decide +kernel
theorem dX1_takenBy_14 : decode cX1_takenBy 14 = .ok (.istore 6, 2) := by decide +kernel
theorem dX1_takenBy_16 : decode cX1_takenBy 16 = .ok (.iload 6, 2) := by decide +kernel
theorem dX1_takenBy_18 : decode cX1_takenBy 18 = .ok (.iload_n 3, 1) := by decide +kernel
theorem dX1_takenBy_19 : decode cX1_takenBy 19 = .ok (.if_icmp .ge 78, 3) := by decide +kernel
theorem dX1_takenBy_22 : decode cX1_takenBy 22 = .ok (.iload 6, 2) := by decide +kernel
theorem dX1_takenBy_24 : decode cX1_takenBy 24 = .ok (.iload 5, 2) := by decide +kernel
theorem dX1_takenBy_26 : decode cX1_takenBy 26 = .ok (.iadd, 1) := by decide +kernel
theorem dX1_takenBy_27 : decode cX1_takenBy 27 = .ok (.istore 7, 2) := by decide +kernel
theorem dX1_takenBy_29 : decode cX1_takenBy 29 = .ok (.aload_n 0, 1) := by decide +kernel
theorem dX1_takenBy_30 : decode cX1_takenBy 30 = .ok (.getfield 19, 3) := by decide +kernel
theorem dX1_takenBy_33 : decode cX1_takenBy 33 = .ok (.bipush 36, 2) := by decide +kernel
theorem dX1_takenBy_35 : decode cX1_takenBy 35 = .ok (.iload_n 1, 1) := by decide +kernel
theorem dX1_takenBy_36 : decode cX1_takenBy 36 = .ok (.imul, 1) := by decide +kernel
theorem dX1_takenBy_37 : decode cX1_takenBy 37 = .ok (.iload 6, 2) := by decide +kernel
theorem dX1_takenBy_39 : decode cX1_takenBy 39 = .ok (.iadd, 1) := by decide +kernel
theorem dX1_takenBy_40 : decode cX1_takenBy 40 = .ok (.iaload, 1) := by decide +kernel
theorem dX1_takenBy_41 : decode cX1_takenBy 41 = .ok (.istore 8, 2) := by decide +kernel
theorem dX1_takenBy_43 : decode cX1_takenBy 43 = .ok (.iload 4, 2) := by decide +kernel
theorem dX1_takenBy_45 : decode cX1_takenBy 45 = .ok (.iload 7, 2) := by decide +kernel
theorem dX1_takenBy_47 : decode cX1_takenBy 47 = .ok (.bipush 12, 2) := by decide +kernel
theorem dX1_takenBy_49 : decode cX1_takenBy 49 = .ok (.idiv, 1) := by decide +kernel
theorem dX1_takenBy_50 : decode cX1_takenBy 50 = .ok (.iload_n 2, 1) := by decide +kernel
theorem dX1_takenBy_51 : decode cX1_takenBy 51 = .ok (.if_icmp .ne 12, 3) := by decide +kernel
theorem dX1_takenBy_54 : decode cX1_takenBy 54 = .ok (.iload 8, 2) := by decide +kernel
theorem dX1_takenBy_56 : decode cX1_takenBy 56 = .ok (.iconst 1, 1) := by decide +kernel
theorem dX1_takenBy_57 : decode cX1_takenBy 57 = .ok (.iadd, 1) := by decide +kernel
theorem dX1_takenBy_58 : decode cX1_takenBy 58 = .ok (.iconst 2, 1) := by decide +kernel
theorem dX1_takenBy_59 : decode cX1_takenBy 59 = .ok (.idiv, 1) := by decide +kernel
theorem dX1_takenBy_60 : decode cX1_takenBy 60 = .ok (.goto 4, 3) := by decide +kernel
theorem dX1_takenBy_63 : decode cX1_takenBy 63 = .ok (.iconst 0, 1) := by decide +kernel
theorem dX1_takenBy_64 : decode cX1_takenBy 64 = .ok (.iadd, 1) := by decide +kernel
theorem dX1_takenBy_65 : decode cX1_takenBy 65 = .ok (.istore 4, 2) := by decide +kernel
theorem dX1_takenBy_67 : decode cX1_takenBy 67 = .ok (.iload 4, 2) := by decide +kernel
theorem dX1_takenBy_69 : decode cX1_takenBy 69 = .ok (.iload 7, 2) := by decide +kernel
theorem dX1_takenBy_71 : decode cX1_takenBy 71 = .ok (.iconst 1, 1) := by decide +kernel
theorem dX1_takenBy_72 : decode cX1_takenBy 72 = .ok (.iadd, 1) := by decide +kernel
theorem dX1_takenBy_73 : decode cX1_takenBy 73 = .ok (.bipush 12, 2) := by decide +kernel
theorem dX1_takenBy_75 : decode cX1_takenBy 75 = .ok (.idiv, 1) := by decide +kernel
theorem dX1_takenBy_76 : decode cX1_takenBy 76 = .ok (.iload_n 2, 1) := by decide +kernel
theorem dX1_takenBy_77 : decode cX1_takenBy 77 = .ok (.if_icmp .ne 10, 3) := by decide +kernel
theorem dX1_takenBy_80 : decode cX1_takenBy 80 = .ok (.iload 8, 2) := by decide +kernel
theorem dX1_takenBy_82 : decode cX1_takenBy 82 = .ok (.iconst 2, 1) := by decide +kernel
theorem dX1_takenBy_83 : decode cX1_takenBy 83 = .ok (.idiv, 1) := by decide +kernel
theorem dX1_takenBy_84 : decode cX1_takenBy 84 = .ok (.goto 4, 3) := by decide +kernel
theorem dX1_takenBy_87 : decode cX1_takenBy 87 = .ok (.iconst 0, 1) := by decide +kernel
theorem dX1_takenBy_88 : decode cX1_takenBy 88 = .ok (.iadd, 1) := by decide +kernel
theorem dX1_takenBy_89 : decode cX1_takenBy 89 = .ok (.istore 4, 2) := by decide +kernel
theorem dX1_takenBy_91 : decode cX1_takenBy 91 = .ok (.iinc 6 1, 3) := by decide +kernel
theorem dX1_takenBy_94 : decode cX1_takenBy 94 = .ok (.goto (-78), 3) := by decide +kernel
theorem dX1_takenBy_97 : decode cX1_takenBy 97 = .ok (.iload 4, 2) := by decide +kernel
theorem dX1_takenBy_99 : decode cX1_takenBy 99 = .ok (.ireturn, 1) := by decide +kernel
set_option maxRecDepth 20000 in
theorem ggX1_taken_X1_isYear : GoodIn wsX1_taken wsX1_isYear := goodIn_r _ [5, 6, 7, 4, 8] (by decide +kernel) (by decide +kernel)
set_option maxRecDepth 20000 in
theorem gX1_taken_X1_isYear : GoodIn wsX1_taken (va_wsS RX1 59 yX1_isYear wsX1_isYear) := goodIn_app (goodIn_of _ (by decide +kernel)) ggX1_taken_X1_isYear
set_option maxRecDepth 20000 in
theorem ggX1_taken_X1_may : GoodIn wsX1_taken wsX1_may := goodIn_r _ [12, 13, 20, 21, 22, 23, 24, 25, 26, 27, 28, 29, 30] (by decide +kernel) (by decide +kernel)
set_option maxRecDepth 20000 in
theorem gX1_taken_X1_may : GoodIn wsX1_taken (wsV RX1 62 RX1 yX1_may wsX1_may) := goodIn_app (goodIn_of _ (by decide +kernel)) ggX1_taken_X1_may
set_option maxRecDepth 20000 in
theorem ggX1_taken_X1_takenBy : GoodIn wsX1_taken wsX1_takenBy := goodIn_r _ [17, 18, 19, 20, 21, 22, 23, 24, 25, 26, 27, 28, 29, 30] (by decide +kernel) (by decide +kernel)
set_option maxRecDepth 20000 in
theorem gX1_taken_X1_takenBy : GoodIn wsX1_taken (wsV RX1 86 RX1 yX1_takenBy wsX1_takenBy) := goodIn_app (goodIn_of _ (by decide +kernel)) ggX1_taken_X1_takenBy
theorem dX1_taken_0 : decode cX1_taken 0 = .ok (.aload_n 0, 1) := by decide +kernel
theorem dX1_taken_1 : decode cX1_taken 1 = .ok (.iload_n 1, 1) := by decide +kernel
theorem dX1_taken_2 : decode cX1_taken 2 = .ok (.invokestatic 59, 3) := by decide +kernel
theorem dX1_taken_5 : decode cX1_taken 5 = .ok (.invokevirtual 62, 3) := by decide +kernel
theorem dX1_taken_8 : decode cX1_taken 8 = .ok (.ifCond .ne 5, 3) := by decide +kernel
theorem dX1_taken_11 : decode cX1_taken 11 = .ok (.iconst 0, 1) := by decide +kernel
theorem dX1_taken_12 : decode cX1_taken 12 = .ok (.ireturn, 1) := by decide +kernel
theorem dX1_taken_13 : decode cX1_taken 13 = .ok (.iconst 0, 1) := by decide +kernel
theorem dX1_taken_14 : decode cX1_taken 14 = .ok (.istore_n 2, 1) := by decide +kernel
theorem dX1_taken_15 : decode cX1_taken 15 = .ok (.iconst 0, 1) := by decide +kernel
theorem dX1_taken_16 : decode cX1_taken 16 = .ok (.istore_n 3, 1) := by decide +kernel
theorem dX1_taken_17 : decode cX1_taken 17 = .ok (.iload_n 3, 1) := by decide +kernel
theorem dX1_taken_18 : decode cX1_taken 18 = .ok (.aload_n 0, 1) := by decide +kernel
theorem dX1_taken_19 : decode cX1_taken 19 = .ok (.getfield 38, 3) := by decide +kernel
theorem dX1_taken_22 : decode cX1_taken 22 = .ok (.if_icmp .ge 20, 3) := by decide +kernel
theorem dX1_taken_25 : decode cX1_taken 25 = .ok (.iload_n 2, 1) := by decide +kernel
theorem dX1_taken_26 : decode cX1_taken 26 = .ok (.aload_n 0, 1) := by decide +kernel
theorem dX1_taken_27 : decode cX1_taken 27 = .ok (.iload_n 3, 1) := by decide +kernel
theorem dX1_taken_28 : decode cX1_taken 28 = .ok (.iload_n 1, 1) := by decide +kernel
theorem dX1_taken_29 : decode cX1_taken 29 = .ok (.bipush 36, 2) := by decide +kernel
theorem dX1_taken_31 : decode cX1_taken 31 = .ok (.invokevirtual 86, 3) := by decide +kernel
theorem dX1_taken_34 : decode cX1_taken 34 = .ok (.iadd, 1) := by decide +kernel
theorem dX1_taken_35 : decode cX1_taken 35 = .ok (.istore_n 2, 1) := by decide +kernel
theorem dX1_taken_36 : decode cX1_taken 36 = .ok (.iinc 3 1, 3) := by decide +kernel
theorem dX1_taken_39 : decode cX1_taken 39 = .ok (.goto (-22), 3) := by decide +kernel
theorem dX1_taken_42 : decode cX1_taken 42 = .ok (.iload_n 2, 1) := by decide +kernel
theorem dX1_taken_43 : decode cX1_taken 43 = .ok (.ireturn, 1) := by decide +kernel
set_option maxRecDepth 20000 in
theorem ggX1_takenLate_X1_isWell : GoodIn wsX1_takenLate wsX1_isWell := goodIn_r _ [5, 6, 7, 8, 4, 9, 24, 25, 26, 27, 28, 29, 30, 31, 32, 33, 34] (by decide +kernel) (by decide +kernel)
set_option maxRecDepth 20000 in
theorem gX1_takenLate_X1_isWell : GoodIn wsX1_takenLate (wsV RX1 52 RX1 yX1_isWell wsX1_isWell) := goodIn_app (goodIn_of _ (by decide +kernel)) ggX1_takenLate_X1_isWell
set_option maxRecDepth 20000 in
theorem ggX1_takenLate_X1_isYear : GoodIn wsX1_takenLate wsX1_isYear := goodIn_r _ [12, 7, 8, 4, 9] (by decide +kernel) (by decide +kernel)
set_option maxRecDepth 20000 in
theorem gX1_takenLate_X1_isYear : GoodIn wsX1_takenLate (va_wsS RX1 59 yX1_isYear wsX1_isYear) := goodIn_app (goodIn_of _ (by decide +kernel)) ggX1_takenLate_X1_isYear
set_option maxRecDepth 20000 in
theorem ggX1_takenLate_X1_may : GoodIn wsX1_takenLate wsX1_may := goodIn_r _ [16, 17, 24, 25, 26, 27, 28, 29, 30, 31, 32, 33, 34] (by decide +kernel) (by decide +kernel)
set_option maxRecDepth 20000 in
theorem gX1_takenLate_X1_may : GoodIn wsX1_takenLate (wsV RX1 62 RX1 yX1_may wsX1_may) := goodIn_app (goodIn_of _ (by decide +kernel)) ggX1_takenLate_X1_may
set_option maxRecDepth 20000 in
theorem ggX1_takenLate_X1_takenBy : GoodIn wsX1_takenLate wsX1_takenBy := goodIn_r _ [21, 22, 23, 24, 25, 26, 27, 28, 29, 30, 31, 32, 33, 34] (by decide +kernel) (by decide +kernel)
set_option maxRecDepth 20000 in
theorem gX1_takenLate_X1_takenBy : GoodIn wsX1_takenLate (wsV RX1 86 RX1 yX1_takenBy wsX1_takenBy) := goodIn_app (goodIn_of _ (by decide +kernel)) ggX1_takenLate_X1_takenBy
theorem dX1_takenLate_0 : decode cX1_takenLate 0 = .ok (.aload_n 0, 1) := by decide +kernel
theorem dX1_takenLate_1 : decode cX1_takenLate 1 = .ok (.aload_n 0, 1) := by decide +kernel
theorem dX1_takenLate_2 : decode cX1_takenLate 2 = .ok (.iload_n 1, 1) := by decide +kernel
theorem dX1_takenLate_3 : decode cX1_takenLate 3 = .ok (.invokevirtual 52, 3) := by decide +kernel
theorem dX1_takenLate_6 : decode cX1_takenLate 6 = .ok (.ifCond .eq 14, 3) := by decide +kernel
theorem dX1_takenLate_9 : decode cX1_takenLate 9 = .ok (.iload_n 2, 1) := by decide +kernel
theorem dX1_takenLate_10 : decode cX1_takenLate 10 = .ok (.invokestatic 59, 3) := by decide +kernel
theorem dX1_takenLate_13 : decode cX1_takenLate 13 = .ok (.ifCond .eq 7, 3) := by decide +kernel
theorem dX1_takenLate_16 : decode cX1_takenLate 16 = .ok (.iconst 1, 1) := by decide +kernel
theorem dX1_takenLate_17 : decode cX1_takenLate 17 = .ok (.goto 4, 3) := by decide +kernel
theorem dX1_takenLate_20 : decode cX1_takenLate 20 = .ok (.iconst 0, 1) := by decide +kernel
theorem dX1_takenLate_21 : decode cX1_takenLate 21 = .ok (.invokevirtual 62, 3) := by decide +kernel
theorem dX1_takenLate_24 : decode cX1_takenLate 24 = .ok (.ifCond .eq 16, 3) := by decide +kernel
theorem dX1_takenLate_27 : decode cX1_takenLate 27 = .ok (.aload_n 0, 1) := by decide +kernel
theorem dX1_takenLate_28 : decode cX1_takenLate 28 = .ok (.iload_n 1, 1) := by decide +kernel
theorem dX1_takenLate_29 : decode cX1_takenLate 29 = .ok (.iload_n 2, 1) := by decide +kernel
theorem dX1_takenLate_30 : decode cX1_takenLate 30 = .ok (.bipush 12, 2) := by decide +kernel
theorem dX1_takenLate_32 : decode cX1_takenLate 32 = .ok (.iload_n 2, 1) := by decide +kernel
theorem dX1_takenLate_33 : decode cX1_takenLate 33 = .ok (.imul, 1) := by decide +kernel
theorem dX1_takenLate_34 : decode cX1_takenLate 34 = .ok (.invokevirtual 86, 3) := by decide +kernel
theorem dX1_takenLate_37 : decode cX1_takenLate 37 = .ok (.goto 4, 3) := by decide +kernel
theorem dX1_takenLate_40 : decode cX1_takenLate 40 = .ok (.iconst 0, 1) := by decide +kernel
theorem dX1_takenLate_41 : decode cX1_takenLate 41 = .ok (.ireturn, 1) := by decide +kernel
set_option maxRecDepth 20000 in
theorem ggX1_licence_X1_isWell : GoodIn wsX1_licence wsX1_isWell := goodIn_r _ [6, 7, 8, 9, 5, 10, 16, 17, 18, 19, 20, 21, 22, 23, 24, 25, 26] (by decide +kernel) (by decide +kernel)
set_option maxRecDepth 20000 in
theorem gX1_licence_X1_isWell : GoodIn wsX1_licence (wsV RX1 52 RX1 yX1_isWell wsX1_isWell) := goodIn_app (goodIn_of _ (by decide +kernel)) ggX1_licence_X1_isWell
set_option maxRecDepth 20000 in
theorem ggX1_licence_X1_may : GoodIn wsX1_licence wsX1_may := goodIn_r _ [14, 15, 16, 17, 18, 19, 20, 21, 22, 23, 24, 25, 26] (by decide +kernel) (by decide +kernel)
set_option maxRecDepth 20000 in
theorem gX1_licence_X1_may : GoodIn wsX1_licence (wsV RX1 62 RX1 yX1_may wsX1_may) := goodIn_app (goodIn_of _ (by decide +kernel)) ggX1_licence_X1_may
theorem dX1_licence_0 : decode cX1_licence 0 = .ok (.aload_n 0, 1) := by decide +kernel
theorem dX1_licence_1 : decode cX1_licence 1 = .ok (.aload_n 0, 1) := by decide +kernel
theorem dX1_licence_2 : decode cX1_licence 2 = .ok (.iload_n 1, 1) := by decide +kernel
theorem dX1_licence_3 : decode cX1_licence 3 = .ok (.invokevirtual 52, 3) := by decide +kernel
theorem dX1_licence_6 : decode cX1_licence 6 = .ok (.invokevirtual 62, 3) := by decide +kernel
theorem dX1_licence_9 : decode cX1_licence 9 = .ok (.ifCond .eq 12, 3) := by decide +kernel
theorem dX1_licence_12 : decode cX1_licence 12 = .ok (.aload_n 0, 1) := by decide +kernel
theorem dX1_licence_13 : decode cX1_licence 13 = .ok (.getfield 16, 3) := by decide +kernel
theorem dX1_licence_16 : decode cX1_licence 16 = .ok (.iload_n 1, 1) := by decide +kernel
theorem dX1_licence_17 : decode cX1_licence 17 = .ok (.iaload, 1) := by decide +kernel
theorem dX1_licence_18 : decode cX1_licence 18 = .ok (.goto 4, 3) := by decide +kernel
theorem dX1_licence_21 : decode cX1_licence 21 = .ok (.iconst 0, 1) := by decide +kernel
theorem dX1_licence_22 : decode cX1_licence 22 = .ok (.ireturn, 1) := by decide +kernel
set_option maxRecDepth 20000 in
theorem ggX1_ratio_X1_isIn : GoodIn wsX1_ratio wsX1_isIn := goodIn_r _ [5] (by decide +kernel) (by decide +kernel)
set_option maxRecDepth 20000 in
theorem gX1_ratio_X1_isIn : GoodIn wsX1_ratio (va_wsS RX1 41 yX1_isIn wsX1_isIn) := goodIn_app (goodIn_of _ (by decide +kernel)) ggX1_ratio_X1_isIn
set_option maxRecDepth 20000 in
theorem ggX1_ratio_X1_mayBoth : GoodIn wsX1_ratio wsX1_mayBoth := goodIn_r _ [9, 10, 11, 12, 13, 14, 15, 16, 17, 18, 19, 20, 21] (by decide +kernel) (by decide +kernel)
set_option maxRecDepth 20000 in
theorem gX1_ratio_X1_mayBoth : GoodIn wsX1_ratio (wsV RX1 48 RX1 yX1_mayBoth wsX1_mayBoth) := goodIn_app (goodIn_of _ (by decide +kernel)) ggX1_ratio_X1_mayBoth
theorem dX1_ratio_0 : decode cX1_ratio 0 = .ok (.aload_n 0, 1) := by decide +kernel
theorem dX1_ratio_1 : decode cX1_ratio 1 = .ok (.iload_n 1, 1) := by decide +kernel
theorem dX1_ratio_2 : decode cX1_ratio 2 = .ok (.iconst 0, 1) := by decide +kernel
theorem dX1_ratio_3 : decode cX1_ratio 3 = .ok (.iconst 2, 1) := by decide +kernel
theorem dX1_ratio_4 : decode cX1_ratio 4 = .ok (.invokestatic 41, 3) := by decide +kernel
theorem dX1_ratio_7 : decode cX1_ratio 7 = .ok (.ifCond .eq 16, 3) := by decide +kernel
theorem dX1_ratio_10 : decode cX1_ratio 10 = .ok (.iload_n 2, 1) := by decide +kernel
theorem dX1_ratio_11 : decode cX1_ratio 11 = .ok (.iconst 0, 1) := by decide +kernel
theorem dX1_ratio_12 : decode cX1_ratio 12 = .ok (.iconst 2, 1) := by decide +kernel
theorem dX1_ratio_13 : decode cX1_ratio 13 = .ok (.invokestatic 41, 3) := by decide +kernel
theorem dX1_ratio_16 : decode cX1_ratio 16 = .ok (.ifCond .eq 7, 3) := by decide +kernel
theorem dX1_ratio_19 : decode cX1_ratio 19 = .ok (.iconst 1, 1) := by decide +kernel
theorem dX1_ratio_20 : decode cX1_ratio 20 = .ok (.goto 4, 3) := by decide +kernel
theorem dX1_ratio_23 : decode cX1_ratio 23 = .ok (.iconst 0, 1) := by decide +kernel
theorem dX1_ratio_24 : decode cX1_ratio 24 = .ok (.iload_n 3, 1) := by decide +kernel
theorem dX1_ratio_25 : decode cX1_ratio 25 = .ok (.iconst 0, 1) := by decide +kernel
theorem dX1_ratio_26 : decode cX1_ratio 26 = .ok (.sipush 200, 3) := by decide +kernel
theorem dX1_ratio_29 : decode cX1_ratio 29 = .ok (.invokestatic 41, 3) := by decide +kernel
theorem dX1_ratio_32 : decode cX1_ratio 32 = .ok (.invokevirtual 48, 3) := by decide +kernel
theorem dX1_ratio_35 : decode cX1_ratio 35 = .ok (.ifCond .ne 5, 3) := by decide +kernel
theorem dX1_ratio_38 : decode cX1_ratio 38 = .ok (.iconst 0, 1) := by decide +kernel
theorem dX1_ratio_39 : decode cX1_ratio 39 = .ok (.ireturn, 1) := by decide +kernel
theorem dX1_ratio_40 : decode cX1_ratio 40 = .ok (.aload_n 0, 1) := by decide +kernel
theorem dX1_ratio_41 : decode cX1_ratio 41 = .ok (.getfield 31, 3) := by decide +kernel
theorem dX1_ratio_44 : decode cX1_ratio 44 = .ok (.iconst 3, 1) := by decide +kernel
theorem dX1_ratio_45 : decode cX1_ratio 45 = .ok (.iload_n 1, 1) := by decide +kernel
theorem dX1_ratio_46 : decode cX1_ratio 46 = .ok (.imul, 1) := by decide +kernel
theorem dX1_ratio_47 : decode cX1_ratio 47 = .ok (.iload_n 2, 1) := by decide +kernel
theorem dX1_ratio_48 : decode cX1_ratio 48 = .ok (.iadd, 1) := by decide +kernel
theorem dX1_ratio_49 : decode cX1_ratio 49 = .ok (.iaload, 1) := by decide +kernel
theorem dX1_ratio_50 : decode cX1_ratio 50 = .ok (.istore 4, 2) := by decide +kernel
theorem dX1_ratio_52 : decode cX1_ratio 52 = .ok (.aload_n 0, 1) := by decide +kernel
theorem dX1_ratio_53 : decode cX1_ratio 53 = .ok (.getfield 31, 3) := by decide +kernel
theorem dX1_ratio_56 : decode cX1_ratio 56 = .ok (.iconst 3, 1) := by decide +kernel
theorem dX1_ratio_57 : decode cX1_ratio 57 = .ok (.iload_n 1, 1) := by decide +kernel
theorem dX1_ratio_58 : decode cX1_ratio 58 = .ok (.imul, 1) := by decide +kernel
theorem dX1_ratio_59 : decode cX1_ratio 59 = .ok (.iload_n 2, 1) := by decide +kernel
theorem dX1_ratio_60 : decode cX1_ratio 60 = .ok (.iadd, 1) := by decide +kernel
theorem dX1_ratio_61 : decode cX1_ratio 61 = .ok (.iload_n 3, 1) := by decide +kernel
theorem dX1_ratio_62 : decode cX1_ratio 62 = .ok (.iastore, 1) := by decide +kernel
theorem dX1_ratio_63 : decode cX1_ratio 63 = .ok (.iload 4, 2) := by decide +kernel
theorem dX1_ratio_65 : decode cX1_ratio 65 = .ok (.ireturn, 1) := by decide +kernel
set_option maxRecDepth 20000 in
theorem ggX1_allOf_X1_answer : GoodIn wsX1_allOf wsX1_answer := goodIn_r _ [5, 6, 7, 8, 9, 10, 11, 12, 13, 14, 15, 16, 17, 18, 19] (by decide +kernel) (by decide +kernel)
set_option maxRecDepth 20000 in
theorem gX1_allOf_X1_answer : GoodIn wsX1_allOf (wsV RX1 70 RX1 yX1_answer wsX1_answer) := goodIn_app (goodIn_of _ (by decide +kernel)) ggX1_allOf_X1_answer
theorem dX1_allOf_0 : decode cX1_allOf 0 = .ok (.iconst 0, 1) := by decide +kernel
theorem dX1_allOf_1 : decode cX1_allOf 1 = .ok (.istore_n 3, 1) := by decide +kernel
theorem dX1_allOf_2 : decode cX1_allOf 2 = .ok (.iconst 0, 1) := by decide +kernel
theorem dX1_allOf_3 : decode cX1_allOf 3 = .ok (.istore 4, 2) := by decide +kernel
theorem dX1_allOf_5 : decode cX1_allOf 5 = .ok (.iload 4, 2) := by decide +kernel
theorem dX1_allOf_7 : decode cX1_allOf 7 = .ok (.bipush 12, 2) := by decide +kernel
theorem dX1_allOf_9 : decode cX1_allOf 9 = .ok (.if_icmp .ge 20, 3) := by decide +kernel
theorem dX1_allOf_12 : decode cX1_allOf 12 = .ok (.iload_n 3, 1) := by decide +kernel
theorem dX1_allOf_13 : decode cX1_allOf 13 = .ok (.aload_n 0, 1) := by decide +kernel
theorem dX1_allOf_14 : decode cX1_allOf 14 = .ok (.iload_n 1, 1) := by decide +kernel
theorem dX1_allOf_15 : decode cX1_allOf 15 = .ok (.iload_n 2, 1) := by decide +kernel
theorem dX1_allOf_16 : decode cX1_allOf 16 = .ok (.iload 4, 2) := by decide +kernel
theorem dX1_allOf_18 : decode cX1_allOf 18 = .ok (.invokevirtual 70, 3) := by decide +kernel
theorem dX1_allOf_21 : decode cX1_allOf 21 = .ok (.iadd, 1) := by decide +kernel
theorem dX1_allOf_22 : decode cX1_allOf 22 = .ok (.istore_n 3, 1) := by decide +kernel
theorem dX1_allOf_23 : decode cX1_allOf 23 = .ok (.iinc 4 1, 3) := by decide +kernel
theorem dX1_allOf_26 : decode cX1_allOf 26 = .ok (.goto (-21), 3) := by decide +kernel
theorem dX1_allOf_29 : decode cX1_allOf 29 = .ok (.iload_n 3, 1) := by decide +kernel
theorem dX1_allOf_30 : decode cX1_allOf 30 = .ok (.ireturn, 1) := by decide +kernel
set_option maxRecDepth 20000 in
theorem ggX1_burden_X1_isWatch : GoodIn wsX1_burden wsX1_isWatch := goodIn_r _ [7, 8, 9, 10, 6, 11, 28, 29, 30, 31, 32, 33, 34, 35, 36, 37, 38] (by decide +kernel) (by decide +kernel)
set_option maxRecDepth 20000 in
theorem gX1_burden_X1_isWatch : GoodIn wsX1_burden (wsV RX1 74 RX1 yX1_isWatch wsX1_isWatch) := goodIn_app (goodIn_of _ (by decide +kernel)) ggX1_burden_X1_isWatch
set_option maxRecDepth 20000 in
theorem ggX1_burden_X1_may : GoodIn wsX1_burden wsX1_may := goodIn_r _ [15, 16, 28, 29, 30, 31, 32, 33, 34, 35, 36, 37, 38] (by decide +kernel) (by decide +kernel)
set_option maxRecDepth 20000 in
theorem gX1_burden_X1_may : GoodIn wsX1_burden (wsV RX1 62 RX1 yX1_may wsX1_may) := goodIn_app (goodIn_of _ (by decide +kernel)) ggX1_burden_X1_may
set_option maxRecDepth 20000 in
theorem ggX1_burden_X1_allOf : GoodIn wsX1_burden wsX1_allOf := goodIn_r _ [20, 21, 22, 23, 6, 24, 25, 26, 27, 28, 29, 30, 31, 32, 33, 34, 35, 36, 37, 38] (by decide +kernel) (by decide +kernel)
set_option maxRecDepth 20000 in
theorem gX1_burden_X1_allOf : GoodIn wsX1_burden (wsV RX1 89 RX1 yX1_allOf wsX1_allOf) := goodIn_app (goodIn_of _ (by decide +kernel)) ggX1_burden_X1_allOf
theorem dX1_burden_0 : decode cX1_burden 0 = .ok (.aload_n 0, 1) := by decide +kernel
theorem dX1_burden_1 : decode cX1_burden 1 = .ok (.aload_n 0, 1) := by decide +kernel
theorem dX1_burden_2 : decode cX1_burden 2 = .ok (.iload_n 1, 1) := by decide +kernel
theorem dX1_burden_3 : decode cX1_burden 3 = .ok (.invokevirtual 74, 3) := by decide +kernel
theorem dX1_burden_6 : decode cX1_burden 6 = .ok (.invokevirtual 62, 3) := by decide +kernel
theorem dX1_burden_9 : decode cX1_burden 9 = .ok (.ifCond .ne 5, 3) := by decide +kernel
theorem dX1_burden_12 : decode cX1_burden 12 = .ok (.lconst 0, 1) := by decide +kernel
theorem dX1_burden_13 : decode cX1_burden 13 = .ok (.lreturn, 1) := by decide +kernel
theorem dX1_burden_14 : decode cX1_burden 14 = .ok (.lconst 0, 1) := by decide +kernel
theorem dX1_burden_15 : decode cX1_burden 15 = .ok (.lstore_n 2, 1) := by decide +kernel
theorem dX1_burden_16 : decode cX1_burden 16 = .ok (.iconst 0, 1) := by decide +kernel
theorem dX1_burden_17 : decode cX1_burden 17 = .ok (.istore 4, 2) := by decide +kernel
theorem dX1_burden_19 : decode cX1_burden 19 = .ok (.iload 4, 2) := by decide +kernel
theorem dX1_burden_21 : decode cX1_burden 21 = .ok (.aload_n 0, 1) := by decide +kernel
theorem dX1_burden_22 : decode cX1_burden 22 = .ok (.getfield 38, 3) := by decide +kernel
theorem dX1_burden_25 : decode cX1_burden 25 = .ok (.if_icmp .ge 29, 3) := by decide +kernel
theorem dX1_burden_28 : decode cX1_burden 28 = .ok (.lload_n 2, 1) := by decide +kernel
theorem dX1_burden_29 : decode cX1_burden 29 = .ok (.aload_n 0, 1) := by decide +kernel
theorem dX1_burden_30 : decode cX1_burden 30 = .ok (.getfield 16, 3) := by decide +kernel
theorem dX1_burden_33 : decode cX1_burden 33 = .ok (.iload 4, 2) := by decide +kernel
theorem dX1_burden_35 : decode cX1_burden 35 = .ok (.iaload, 1) := by decide +kernel
theorem dX1_burden_36 : decode cX1_burden 36 = .ok (.i2l, 1) := by decide +kernel
theorem dX1_burden_37 : decode cX1_burden 37 = .ok (.aload_n 0, 1) := by decide +kernel
theorem dX1_burden_38 : decode cX1_burden 38 = .ok (.iload 4, 2) := by decide +kernel
theorem dX1_burden_40 : decode cX1_burden 40 = .ok (.iload_n 1, 1) := by decide +kernel
theorem dX1_burden_41 : decode cX1_burden 41 = .ok (.invokevirtual 89, 3) := by decide +kernel
theorem dX1_burden_44 : decode cX1_burden 44 = .ok (.i2l, 1) := by decide +kernel
theorem dX1_burden_45 : decode cX1_burden 45 = .ok (.lmul, 1) := by decide +kernel
theorem dX1_burden_46 : decode cX1_burden 46 = .ok (.ladd, 1) := by decide +kernel
theorem dX1_burden_47 : decode cX1_burden 47 = .ok (.lstore_n 2, 1) := by decide +kernel
theorem dX1_burden_48 : decode cX1_burden 48 = .ok (.iinc 4 1, 3) := by decide +kernel
theorem dX1_burden_51 : decode cX1_burden 51 = .ok (.goto (-32), 3) := by decide +kernel
theorem dX1_burden_54 : decode cX1_burden 54 = .ok (.lload_n 2, 1) := by decide +kernel
theorem dX1_burden_55 : decode cX1_burden 55 = .ok (.lreturn, 1) := by decide +kernel
theorem dX1_got_0 : decode cX1_got 0 = .ok (.iload_n 3, 1) := by decide +kernel
theorem dX1_got_1 : decode cX1_got 1 = .ok (.aload_n 0, 1) := by decide +kernel
theorem dX1_got_2 : decode cX1_got 2 = .ok (.getfield 31, 3) := by decide +kernel
theorem dX1_got_5 : decode cX1_got 5 = .ok (.iconst 3, 1) := by decide +kernel
theorem dX1_got_6 : decode cX1_got 6 = .ok (.aload_n 0, 1) := by decide +kernel
theorem dX1_got_7 : decode cX1_got 7 = .ok (.getfield 13, 3) := by decide +kernel
theorem dX1_got_10 : decode cX1_got 10 = .ok (.iload_n 1, 1) := by decide +kernel
theorem dX1_got_11 : decode cX1_got 11 = .ok (.iaload, 1) := by decide +kernel
theorem dX1_got_12 : decode cX1_got 12 = .ok (.imul, 1) := by decide +kernel
theorem dX1_got_13 : decode cX1_got 13 = .ok (.aload_n 0, 1) := by decide +kernel
theorem dX1_got_14 : decode cX1_got 14 = .ok (.getfield 13, 3) := by decide +kernel
theorem dX1_got_17 : decode cX1_got 17 = .ok (.iload_n 2, 1) := by decide +kernel
theorem dX1_got_18 : decode cX1_got 18 = .ok (.iaload, 1) := by decide +kernel
theorem dX1_got_19 : decode cX1_got 19 = .ok (.iadd, 1) := by decide +kernel
theorem dX1_got_20 : decode cX1_got 20 = .ok (.iaload, 1) := by decide +kernel
theorem dX1_got_21 : decode cX1_got 21 = .ok (.imul, 1) := by decide +kernel
theorem dX1_got_22 : decode cX1_got 22 = .ok (.bipush 100, 2) := by decide +kernel
theorem dX1_got_24 : decode cX1_got 24 = .ok (.idiv, 1) := by decide +kernel
theorem dX1_got_25 : decode cX1_got 25 = .ok (.ireturn, 1) := by decide +kernel
set_option maxRecDepth 20000 in
theorem ggX1_can_X1_got : GoodIn wsX1_can wsX1_got := goodIn_r _ [7, 8, 9, 21, 22, 23, 24, 25, 26, 27, 28, 29, 30, 31] (by decide +kernel) (by decide +kernel)
set_option maxRecDepth 20000 in
theorem gX1_can_X1_got : GoodIn wsX1_can (wsV RX1 92 RX1 yX1_got wsX1_got) := goodIn_app (goodIn_of _ (by decide +kernel)) ggX1_can_X1_got
set_option maxRecDepth 20000 in
theorem ggX1_can_X1_allOf : GoodIn wsX1_can wsX1_allOf := goodIn_r _ [13, 14, 15, 16, 6, 17, 18, 19, 20, 21, 22, 23, 24, 25, 26, 27, 28, 29, 30, 31] (by decide +kernel) (by decide +kernel)
set_option maxRecDepth 20000 in
theorem gX1_can_X1_allOf : GoodIn wsX1_can (wsV RX1 89 RX1 yX1_allOf wsX1_allOf) := goodIn_app (goodIn_of _ (by decide +kernel)) ggX1_can_X1_allOf
theorem dX1_can_0 : decode cX1_can 0 = .ok (.aload_n 0, 1) := by decide +kernel
theorem dX1_can_1 : decode cX1_can 1 = .ok (.iload_n 1, 1) := by decide +kernel
theorem dX1_can_2 : decode cX1_can 2 = .ok (.iload_n 2, 1) := by decide +kernel
theorem dX1_can_3 : decode cX1_can 3 = .ok (.iload_n 3, 1) := by decide +kernel
theorem dX1_can_4 : decode cX1_can 4 = .ok (.invokevirtual 92, 3) := by decide +kernel
theorem dX1_can_7 : decode cX1_can 7 = .ok (.istore 4, 2) := by decide +kernel
theorem dX1_can_9 : decode cX1_can 9 = .ok (.aload_n 0, 1) := by decide +kernel
theorem dX1_can_10 : decode cX1_can 10 = .ok (.getfield 16, 3) := by decide +kernel
theorem dX1_can_13 : decode cX1_can 13 = .ok (.iload_n 1, 1) := by decide +kernel
theorem dX1_can_14 : decode cX1_can 14 = .ok (.iaload, 1) := by decide +kernel
theorem dX1_can_15 : decode cX1_can 15 = .ok (.iload_n 3, 1) := by decide +kernel
theorem dX1_can_16 : decode cX1_can 16 = .ok (.if_icmp .lt 22, 3) := by decide +kernel
theorem dX1_can_19 : decode cX1_can 19 = .ok (.aload_n 0, 1) := by decide +kernel
theorem dX1_can_20 : decode cX1_can 20 = .ok (.getfield 16, 3) := by decide +kernel
theorem dX1_can_23 : decode cX1_can 23 = .ok (.iload_n 2, 1) := by decide +kernel
theorem dX1_can_24 : decode cX1_can 24 = .ok (.iaload, 1) := by decide +kernel
theorem dX1_can_25 : decode cX1_can 25 = .ok (.iload 4, 2) := by decide +kernel
theorem dX1_can_27 : decode cX1_can 27 = .ok (.iadd, 1) := by decide +kernel
theorem dX1_can_28 : decode cX1_can 28 = .ok (.sipush 20000, 3) := by decide +kernel
theorem dX1_can_31 : decode cX1_can 31 = .ok (.if_icmp .gt 7, 3) := by decide +kernel
theorem dX1_can_34 : decode cX1_can 34 = .ok (.iconst 1, 1) := by decide +kernel
theorem dX1_can_35 : decode cX1_can 35 = .ok (.goto 4, 3) := by decide +kernel
theorem dX1_can_38 : decode cX1_can 38 = .ok (.iconst 0, 1) := by decide +kernel
theorem dX1_can_39 : decode cX1_can 39 = .ok (.istore 5, 2) := by decide +kernel
theorem dX1_can_41 : decode cX1_can 41 = .ok (.iconst 0, 1) := by decide +kernel
theorem dX1_can_42 : decode cX1_can 42 = .ok (.istore 6, 2) := by decide +kernel
theorem dX1_can_44 : decode cX1_can 44 = .ok (.iload 6, 2) := by decide +kernel
theorem dX1_can_46 : decode cX1_can 46 = .ok (.aload_n 0, 1) := by decide +kernel
theorem dX1_can_47 : decode cX1_can 47 = .ok (.getfield 45, 3) := by decide +kernel
theorem dX1_can_50 : decode cX1_can 50 = .ok (.if_icmp .ge 48, 3) := by decide +kernel
theorem dX1_can_53 : decode cX1_can 53 = .ok (.iload 5, 2) := by decide +kernel
theorem dX1_can_55 : decode cX1_can 55 = .ok (.ifCond .eq 34, 3) := by decide +kernel
theorem dX1_can_58 : decode cX1_can 58 = .ok (.iload 4, 2) := by decide +kernel
theorem dX1_can_60 : decode cX1_can 60 = .ok (.i2l, 1) := by decide +kernel
theorem dX1_can_61 : decode cX1_can 61 = .ok (.aload_n 0, 1) := by decide +kernel
theorem dX1_can_62 : decode cX1_can 62 = .ok (.iload_n 2, 1) := by decide +kernel
theorem dX1_can_63 : decode cX1_can 63 = .ok (.iload 6, 2) := by decide +kernel
theorem dX1_can_65 : decode cX1_can 65 = .ok (.invokevirtual 89, 3) := by decide +kernel
theorem dX1_can_68 : decode cX1_can 68 = .ok (.i2l, 1) := by decide +kernel
theorem dX1_can_69 : decode cX1_can 69 = .ok (.lmul, 1) := by decide +kernel
theorem dX1_can_70 : decode cX1_can 70 = .ok (.iload_n 3, 1) := by decide +kernel
theorem dX1_can_71 : decode cX1_can 71 = .ok (.i2l, 1) := by decide +kernel
theorem dX1_can_72 : decode cX1_can 72 = .ok (.aload_n 0, 1) := by decide +kernel
theorem dX1_can_73 : decode cX1_can 73 = .ok (.iload_n 1, 1) := by decide +kernel
theorem dX1_can_74 : decode cX1_can 74 = .ok (.iload 6, 2) := by decide +kernel
theorem dX1_can_76 : decode cX1_can 76 = .ok (.invokevirtual 89, 3) := by decide +kernel
theorem dX1_can_79 : decode cX1_can 79 = .ok (.i2l, 1) := by decide +kernel
theorem dX1_can_80 : decode cX1_can 80 = .ok (.lmul, 1) := by decide +kernel
theorem dX1_can_81 : decode cX1_can 81 = .ok (.lcmp, 1) := by decide +kernel
theorem dX1_can_82 : decode cX1_can 82 = .ok (.ifCond .gt 7, 3) := by decide +kernel
theorem dX1_can_85 : decode cX1_can 85 = .ok (.iconst 1, 1) := by decide +kernel
theorem dX1_can_86 : decode cX1_can 86 = .ok (.goto 4, 3) := by decide +kernel
theorem dX1_can_89 : decode cX1_can 89 = .ok (.iconst 0, 1) := by decide +kernel
theorem dX1_can_90 : decode cX1_can 90 = .ok (.istore 5, 2) := by decide +kernel
theorem dX1_can_92 : decode cX1_can 92 = .ok (.iinc 6 1, 3) := by decide +kernel
theorem dX1_can_95 : decode cX1_can 95 = .ok (.goto (-51), 3) := by decide +kernel
theorem dX1_can_98 : decode cX1_can 98 = .ok (.iload 5, 2) := by decide +kernel
theorem dX1_can_100 : decode cX1_can 100 = .ok (.ireturn, 1) := by decide +kernel
set_option maxRecDepth 20000 in
theorem ggX1_trade_X1_isWell : GoodIn wsX1_trade wsX1_isWell := goodIn_r _ [6, 7, 8, 9, 5, 10, 38, 39, 40, 41, 42, 43, 44, 45, 46, 47, 48] (by decide +kernel) (by decide +kernel)
set_option maxRecDepth 20000 in
theorem gX1_trade_X1_isWell : GoodIn wsX1_trade (wsV RX1 52 RX1 yX1_isWell wsX1_isWell) := goodIn_app (goodIn_of _ (by decide +kernel)) ggX1_trade_X1_isWell
set_option maxRecDepth 20000 in
theorem ggX1_trade_X1_isIn : GoodIn wsX1_trade wsX1_isIn := goodIn_r _ [10] (by decide +kernel) (by decide +kernel)
set_option maxRecDepth 20000 in
theorem gX1_trade_X1_isIn : GoodIn wsX1_trade (va_wsS RX1 41 yX1_isIn wsX1_isIn) := goodIn_app (goodIn_of _ (by decide +kernel)) ggX1_trade_X1_isIn
set_option maxRecDepth 20000 in
theorem ggX1_trade_X1_can : GoodIn wsX1_trade wsX1_can := goodIn_r _ [14, 1, 15, 16, 17, 18, 5, 19, 20, 21, 22, 23, 24, 25, 26, 27, 28, 29, 30, 31, 32, 38, 39, 40, 41, 42, 43, 44, 45, 46, 47, 48] (by decide +kernel) (by decide +kernel)
set_option maxRecDepth 20000 in
theorem gX1_trade_X1_can : GoodIn wsX1_trade (wsV RX1 95 RX1 yX1_can wsX1_can) := goodIn_app (goodIn_of _ (by decide +kernel)) ggX1_trade_X1_can
set_option maxRecDepth 20000 in
theorem ggX1_trade_X1_mayAll : GoodIn wsX1_trade wsX1_mayAll := goodIn_r _ [36, 37, 38, 39, 40, 41, 42, 43, 44, 45, 46, 47, 48] (by decide +kernel) (by decide +kernel)
set_option maxRecDepth 20000 in
theorem gX1_trade_X1_mayAll : GoodIn wsX1_trade (wsV RX1 98 RX1 yX1_mayAll wsX1_mayAll) := goodIn_app (goodIn_of _ (by decide +kernel)) ggX1_trade_X1_mayAll
set_option maxRecDepth 20000 in
theorem ggX1_trade_X1_got : GoodIn wsX1_trade wsX1_got := goodIn_r _ [19, 20, 21, 38, 39, 40, 41, 42, 43, 44, 45, 46, 47, 48] (by decide +kernel) (by decide +kernel)
set_option maxRecDepth 20000 in
theorem gX1_trade_X1_got : GoodIn wsX1_trade (wsV RX1 92 RX1 yX1_got wsX1_got) := goodIn_app (goodIn_of _ (by decide +kernel)) ggX1_trade_X1_got
theorem dX1_trade_0 : decode cX1_trade 0 = .ok (.aload_n 0, 1) := by decide +kernel
theorem dX1_trade_1 : decode cX1_trade 1 = .ok (.iload_n 1, 1) := by decide +kernel
theorem dX1_trade_2 : decode cX1_trade 2 = .ok (.invokevirtual 52, 3) := by decide +kernel
theorem dX1_trade_5 : decode cX1_trade 5 = .ok (.ifCond .eq 15, 3) := by decide +kernel
theorem dX1_trade_8 : decode cX1_trade 8 = .ok (.aload_n 0, 1) := by decide +kernel
theorem dX1_trade_9 : decode cX1_trade 9 = .ok (.iload_n 2, 1) := by decide +kernel
theorem dX1_trade_10 : decode cX1_trade 10 = .ok (.invokevirtual 52, 3) := by decide +kernel
theorem dX1_trade_13 : decode cX1_trade 13 = .ok (.ifCond .eq 7, 3) := by decide +kernel
theorem dX1_trade_16 : decode cX1_trade 16 = .ok (.iconst 1, 1) := by decide +kernel
theorem dX1_trade_17 : decode cX1_trade 17 = .ok (.goto 4, 3) := by decide +kernel
theorem dX1_trade_20 : decode cX1_trade 20 = .ok (.iconst 0, 1) := by decide +kernel
theorem dX1_trade_21 : decode cX1_trade 21 = .ok (.istore 4, 2) := by decide +kernel
theorem dX1_trade_23 : decode cX1_trade 23 = .ok (.iload_n 1, 1) := by decide +kernel
theorem dX1_trade_24 : decode cX1_trade 24 = .ok (.iload_n 2, 1) := by decide +kernel
theorem dX1_trade_25 : decode cX1_trade 25 = .ok (.if_icmp .eq 18, 3) := by decide +kernel
theorem dX1_trade_28 : decode cX1_trade 28 = .ok (.iload_n 3, 1) := by decide +kernel
theorem dX1_trade_29 : decode cX1_trade 29 = .ok (.iconst 1, 1) := by decide +kernel
theorem dX1_trade_30 : decode cX1_trade 30 = .ok (.sipush 5000, 3) := by decide +kernel
theorem dX1_trade_33 : decode cX1_trade 33 = .ok (.invokestatic 41, 3) := by decide +kernel
theorem dX1_trade_36 : decode cX1_trade 36 = .ok (.ifCond .eq 7, 3) := by decide +kernel
theorem dX1_trade_39 : decode cX1_trade 39 = .ok (.iconst 1, 1) := by decide +kernel
theorem dX1_trade_40 : decode cX1_trade 40 = .ok (.goto 4, 3) := by decide +kernel
theorem dX1_trade_43 : decode cX1_trade 43 = .ok (.iconst 0, 1) := by decide +kernel
theorem dX1_trade_44 : decode cX1_trade 44 = .ok (.istore 5, 2) := by decide +kernel
theorem dX1_trade_46 : decode cX1_trade 46 = .ok (.aload_n 0, 1) := by decide +kernel
theorem dX1_trade_47 : decode cX1_trade 47 = .ok (.iload 4, 2) := by decide +kernel
theorem dX1_trade_49 : decode cX1_trade 49 = .ok (.iload 5, 2) := by decide +kernel
theorem dX1_trade_51 : decode cX1_trade 51 = .ok (.iload 4, 2) := by decide +kernel
theorem dX1_trade_53 : decode cX1_trade 53 = .ok (.ifCond .eq 22, 3) := by decide +kernel
theorem dX1_trade_56 : decode cX1_trade 56 = .ok (.iload 5, 2) := by decide +kernel
theorem dX1_trade_58 : decode cX1_trade 58 = .ok (.ifCond .eq 17, 3) := by decide +kernel
theorem dX1_trade_61 : decode cX1_trade 61 = .ok (.aload_n 0, 1) := by decide +kernel
theorem dX1_trade_62 : decode cX1_trade 62 = .ok (.iload_n 1, 1) := by decide +kernel
theorem dX1_trade_63 : decode cX1_trade 63 = .ok (.iload_n 2, 1) := by decide +kernel
theorem dX1_trade_64 : decode cX1_trade 64 = .ok (.iload_n 3, 1) := by decide +kernel
theorem dX1_trade_65 : decode cX1_trade 65 = .ok (.invokevirtual 95, 3) := by decide +kernel
theorem dX1_trade_68 : decode cX1_trade 68 = .ok (.ifCond .eq 7, 3) := by decide +kernel
theorem dX1_trade_71 : decode cX1_trade 71 = .ok (.iconst 1, 1) := by decide +kernel
theorem dX1_trade_72 : decode cX1_trade 72 = .ok (.goto 4, 3) := by decide +kernel
theorem dX1_trade_75 : decode cX1_trade 75 = .ok (.iconst 0, 1) := by decide +kernel
theorem dX1_trade_76 : decode cX1_trade 76 = .ok (.invokevirtual 98, 3) := by decide +kernel
theorem dX1_trade_79 : decode cX1_trade 79 = .ok (.ifCond .ne 5, 3) := by decide +kernel
theorem dX1_trade_82 : decode cX1_trade 82 = .ok (.iconst 0, 1) := by decide +kernel
theorem dX1_trade_83 : decode cX1_trade 83 = .ok (.ireturn, 1) := by decide +kernel
theorem dX1_trade_84 : decode cX1_trade 84 = .ok (.aload_n 0, 1) := by decide +kernel
theorem dX1_trade_85 : decode cX1_trade 85 = .ok (.iload_n 1, 1) := by decide +kernel
theorem dX1_trade_86 : decode cX1_trade 86 = .ok (.iload_n 2, 1) := by decide +kernel
theorem dX1_trade_87 : decode cX1_trade 87 = .ok (.iload_n 3, 1) := by decide +kernel
theorem dX1_trade_88 : decode cX1_trade 88 = .ok (.invokevirtual 92, 3) := by decide +kernel
theorem dX1_trade_91 : decode cX1_trade 91 = .ok (.istore 6, 2) := by decide +kernel
theorem dX1_trade_93 : decode cX1_trade 93 = .ok (.aload_n 0, 1) := by decide +kernel
theorem dX1_trade_94 : decode cX1_trade 94 = .ok (.getfield 16, 3) := by decide +kernel
theorem dX1_trade_97 : decode cX1_trade 97 = .ok (.iload_n 1, 1) := by decide +kernel
theorem dX1_trade_98 : decode cX1_trade 98 = .ok (.dup2, 1) := by decide +kernel
theorem dX1_trade_99 : decode cX1_trade 99 = .ok (.iaload, 1) := by decide +kernel
theorem dX1_trade_100 : decode cX1_trade 100 = .ok (.iload_n 3, 1) := by decide +kernel
theorem dX1_trade_101 : decode cX1_trade 101 = .ok (.isub, 1) := by decide +kernel
theorem dX1_trade_102 : decode cX1_trade 102 = .ok (.iastore, 1) := by decide +kernel
theorem dX1_trade_103 : decode cX1_trade 103 = .ok (.aload_n 0, 1) := by decide +kernel
theorem dX1_trade_104 : decode cX1_trade 104 = .ok (.getfield 16, 3) := by decide +kernel
theorem dX1_trade_107 : decode cX1_trade 107 = .ok (.iload_n 2, 1) := by decide +kernel
theorem dX1_trade_108 : decode cX1_trade 108 = .ok (.dup2, 1) := by decide +kernel
theorem dX1_trade_109 : decode cX1_trade 109 = .ok (.iaload, 1) := by decide +kernel
theorem dX1_trade_110 : decode cX1_trade 110 = .ok (.iload 6, 2) := by decide +kernel
theorem dX1_trade_112 : decode cX1_trade 112 = .ok (.iadd, 1) := by decide +kernel
theorem dX1_trade_113 : decode cX1_trade 113 = .ok (.iastore, 1) := by decide +kernel
theorem dX1_trade_114 : decode cX1_trade 114 = .ok (.iload 6, 2) := by decide +kernel
theorem dX1_trade_116 : decode cX1_trade 116 = .ok (.ireturn, 1) := by decide +kernel
set_option maxRecDepth 20000 in
theorem ggX1_mostTraded_X1_isWell : GoodIn wsX1_mostTraded wsX1_isWell := goodIn_r _ [5, 6, 7, 8, 4, 9, 38, 39, 40, 41, 42, 43, 44, 45, 46, 47, 48] (by decide +kernel) (by decide +kernel)
set_option maxRecDepth 20000 in
theorem gX1_mostTraded_X1_isWell : GoodIn wsX1_mostTraded (wsV RX1 52 RX1 yX1_isWell wsX1_isWell) := goodIn_app (goodIn_of _ (by decide +kernel)) ggX1_mostTraded_X1_isWell
set_option maxRecDepth 20000 in
theorem ggX1_mostTraded_X1_mayBoth : GoodIn wsX1_mostTraded wsX1_mayBoth := goodIn_r _ [13, 14, 38, 39, 40, 41, 42, 43, 44, 45, 46, 47, 48] (by decide +kernel) (by decide +kernel)
set_option maxRecDepth 20000 in
theorem gX1_mostTraded_X1_mayBoth : GoodIn wsX1_mostTraded (wsV RX1 48 RX1 yX1_mayBoth wsX1_mayBoth) := goodIn_app (goodIn_of _ (by decide +kernel)) ggX1_mostTraded_X1_mayBoth
set_option maxRecDepth 20000 in
theorem ggX1_mostTraded_X1_can : GoodIn wsX1_mostTraded wsX1_can := goodIn_r _ [18, 19, 20, 21, 22, 23, 4, 24, 25, 26, 27, 28, 29, 30, 31, 32, 33, 34, 35, 36, 37, 38, 39, 40, 41, 42, 43, 44, 45, 46, 47, 48] (by decide +kernel) (by decide +kernel)
set_option maxRecDepth 20000 in
theorem gX1_mostTraded_X1_can : GoodIn wsX1_mostTraded (wsV RX1 95 RX1 yX1_can wsX1_can) := goodIn_app (goodIn_of _ (by decide +kernel)) ggX1_mostTraded_X1_can
theorem dX1_mostTraded_0 : decode cX1_mostTraded 0 = .ok (.aload_n 0, 1) := by decide +kernel
theorem dX1_mostTraded_1 : decode cX1_mostTraded 1 = .ok (.aload_n 0, 1) := by decide +kernel
theorem dX1_mostTraded_2 : decode cX1_mostTraded 2 = .ok (.iload_n 1, 1) := by decide +kernel
theorem dX1_mostTraded_3 : decode cX1_mostTraded 3 = .ok (.invokevirtual 52, 3) := by decide +kernel
theorem dX1_mostTraded_6 : decode cX1_mostTraded 6 = .ok (.ifCond .eq 15, 3) := by decide +kernel
theorem dX1_mostTraded_9 : decode cX1_mostTraded 9 = .ok (.aload_n 0, 1) := by decide +kernel
theorem dX1_mostTraded_10 : decode cX1_mostTraded 10 = .ok (.iload_n 2, 1) := by decide +kernel
theorem dX1_mostTraded_11 : decode cX1_mostTraded 11 = .ok (.invokevirtual 52, 3) := by decide +kernel
theorem dX1_mostTraded_14 : decode cX1_mostTraded 14 = .ok (.ifCond .eq 7, 3) := by decide +kernel
theorem dX1_mostTraded_17 : decode cX1_mostTraded 17 = .ok (.iconst 1, 1) := by decide +kernel
theorem dX1_mostTraded_18 : decode cX1_mostTraded 18 = .ok (.goto 4, 3) := by decide +kernel
theorem dX1_mostTraded_21 : decode cX1_mostTraded 21 = .ok (.iconst 0, 1) := by decide +kernel
theorem dX1_mostTraded_22 : decode cX1_mostTraded 22 = .ok (.iload_n 1, 1) := by decide +kernel
theorem dX1_mostTraded_23 : decode cX1_mostTraded 23 = .ok (.iload_n 2, 1) := by decide +kernel
theorem dX1_mostTraded_24 : decode cX1_mostTraded 24 = .ok (.if_icmp .eq 7, 3) := by decide +kernel
theorem dX1_mostTraded_27 : decode cX1_mostTraded 27 = .ok (.iconst 1, 1) := by decide +kernel
theorem dX1_mostTraded_28 : decode cX1_mostTraded 28 = .ok (.goto 4, 3) := by decide +kernel
theorem dX1_mostTraded_31 : decode cX1_mostTraded 31 = .ok (.iconst 0, 1) := by decide +kernel
theorem dX1_mostTraded_32 : decode cX1_mostTraded 32 = .ok (.invokevirtual 48, 3) := by decide +kernel
theorem dX1_mostTraded_35 : decode cX1_mostTraded 35 = .ok (.ifCond .ne 5, 3) := by decide +kernel
theorem dX1_mostTraded_38 : decode cX1_mostTraded 38 = .ok (.iconst 0, 1) := by decide +kernel
theorem dX1_mostTraded_39 : decode cX1_mostTraded 39 = .ok (.ireturn, 1) := by decide +kernel
theorem dX1_mostTraded_40 : decode cX1_mostTraded 40 = .ok (.sipush 5000, 3) := by decide +kernel
theorem dX1_mostTraded_43 : decode cX1_mostTraded 43 = .ok (.istore_n 3, 1) := by decide +kernel
theorem dX1_mostTraded_44 : decode cX1_mostTraded 44 = .ok (.iload_n 3, 1) := by decide +kernel
theorem dX1_mostTraded_45 : decode cX1_mostTraded 45 = .ok (.ifCond .le 19, 3) := by decide +kernel
theorem dX1_mostTraded_48 : decode cX1_mostTraded 48 = .ok (.aload_n 0, 1) := by decide +kernel
theorem dX1_mostTraded_49 : decode cX1_mostTraded 49 = .ok (.iload_n 1, 1) := by decide +kernel
theorem dX1_mostTraded_50 : decode cX1_mostTraded 50 = .ok (.iload_n 2, 1) := by decide +kernel
theorem dX1_mostTraded_51 : decode cX1_mostTraded 51 = .ok (.iload_n 3, 1) := by decide +kernel
theorem dX1_mostTraded_52 : decode cX1_mostTraded 52 = .ok (.invokevirtual 95, 3) := by decide +kernel
theorem dX1_mostTraded_55 : decode cX1_mostTraded 55 = .ok (.ifCond .ne 9, 3) := by decide +kernel
theorem dX1_mostTraded_58 : decode cX1_mostTraded 58 = .ok (.iinc 3 (-1), 3) := by decide +kernel
theorem dX1_mostTraded_61 : decode cX1_mostTraded 61 = .ok (.goto (-17), 3) := by decide +kernel
theorem dX1_mostTraded_64 : decode cX1_mostTraded 64 = .ok (.iload_n 3, 1) := by decide +kernel
theorem dX1_mostTraded_65 : decode cX1_mostTraded 65 = .ok (.ireturn, 1) := by decide +kernel
theorem dJ9_abs_0f7a4_0 : decode cJ9_abs_0f7a4 0 = .ok (.iload_n 0, 1) := by decide +kernel
theorem dJ9_abs_0f7a4_1 : decode cJ9_abs_0f7a4 1 = .ok (.ifCond .ge 8, 3) := by decide +kernel
theorem dJ9_abs_0f7a4_4 : decode cJ9_abs_0f7a4 4 = .ok (.iload_n 0, 1) := by decide +kernel
theorem dJ9_abs_0f7a4_5 : decode cJ9_abs_0f7a4 5 = .ok (.ineg, 1) := by decide +kernel
theorem dJ9_abs_0f7a4_6 : decode cJ9_abs_0f7a4 6 = .ok (.goto 4, 3) := by decide +kernel
theorem dJ9_abs_0f7a4_9 : decode cJ9_abs_0f7a4 9 = .ok (.iload_n 0, 1) := by decide +kernel
theorem dJ9_abs_0f7a4_10 : decode cJ9_abs_0f7a4 10 = .ok (.ireturn, 1) := by decide +kernel
theorem dJ9_max_7cf53_0 : decode cJ9_max_7cf53 0 = .ok (.iload_n 0, 1) := by decide +kernel
theorem dJ9_max_7cf53_1 : decode cJ9_max_7cf53 1 = .ok (.iload_n 1, 1) := by decide +kernel
theorem dJ9_max_7cf53_2 : decode cJ9_max_7cf53 2 = .ok (.if_icmp .lt 7, 3) := by decide +kernel
theorem dJ9_max_7cf53_5 : decode cJ9_max_7cf53 5 = .ok (.iload_n 0, 1) := by decide +kernel
theorem dJ9_max_7cf53_6 : decode cJ9_max_7cf53 6 = .ok (.goto 4, 3) := by decide +kernel
theorem dJ9_max_7cf53_9 : decode cJ9_max_7cf53 9 = .ok (.iload_n 1, 1) := by decide +kernel
theorem dJ9_max_7cf53_10 : decode cJ9_max_7cf53 10 = .ok (.ireturn, 1) := by decide +kernel
theorem dJ9_max_f86c9_0 : decode cJ9_max_f86c9 0 = .ok (.lload_n 0, 1) := by decide +kernel
theorem dJ9_max_f86c9_1 : decode cJ9_max_f86c9 1 = .ok (.lload_n 2, 1) := by decide +kernel
theorem dJ9_max_f86c9_2 : decode cJ9_max_f86c9 2 = .ok (.lcmp, 1) := by decide +kernel
theorem dJ9_max_f86c9_3 : decode cJ9_max_f86c9 3 = .ok (.ifCond .lt 7, 3) := by decide +kernel
theorem dJ9_max_f86c9_6 : decode cJ9_max_f86c9 6 = .ok (.lload_n 0, 1) := by decide +kernel
theorem dJ9_max_f86c9_7 : decode cJ9_max_f86c9 7 = .ok (.goto 4, 3) := by decide +kernel
theorem dJ9_max_f86c9_10 : decode cJ9_max_f86c9 10 = .ok (.lload_n 2, 1) := by decide +kernel
theorem dJ9_max_f86c9_11 : decode cJ9_max_f86c9 11 = .ok (.lreturn, 1) := by decide +kernel
theorem dJ9_min_7cf53_0 : decode cJ9_min_7cf53 0 = .ok (.iload_n 0, 1) := by decide +kernel
theorem dJ9_min_7cf53_1 : decode cJ9_min_7cf53 1 = .ok (.iload_n 1, 1) := by decide +kernel
theorem dJ9_min_7cf53_2 : decode cJ9_min_7cf53 2 = .ok (.if_icmp .gt 7, 3) := by decide +kernel
theorem dJ9_min_7cf53_5 : decode cJ9_min_7cf53 5 = .ok (.iload_n 0, 1) := by decide +kernel
theorem dJ9_min_7cf53_6 : decode cJ9_min_7cf53 6 = .ok (.goto 4, 3) := by decide +kernel
theorem dJ9_min_7cf53_9 : decode cJ9_min_7cf53 9 = .ok (.iload_n 1, 1) := by decide +kernel
theorem dJ9_min_7cf53_10 : decode cJ9_min_7cf53 10 = .ok (.ireturn, 1) := by decide +kernel
theorem dJ9_min_f86c9_0 : decode cJ9_min_f86c9 0 = .ok (.lload_n 0, 1) := by decide +kernel
theorem dJ9_min_f86c9_1 : decode cJ9_min_f86c9 1 = .ok (.lload_n 2, 1) := by decide +kernel
theorem dJ9_min_f86c9_2 : decode cJ9_min_f86c9 2 = .ok (.lcmp, 1) := by decide +kernel
theorem dJ9_min_f86c9_3 : decode cJ9_min_f86c9 3 = .ok (.ifCond .gt 7, 3) := by decide +kernel
theorem dJ9_min_f86c9_6 : decode cJ9_min_f86c9 6 = .ok (.lload_n 0, 1) := by decide +kernel
theorem dJ9_min_f86c9_7 : decode cJ9_min_f86c9 7 = .ok (.goto 4, 3) := by decide +kernel
theorem dJ9_min_f86c9_10 : decode cJ9_min_f86c9 10 = .ok (.lload_n 2, 1) := by decide +kernel
theorem dJ9_min_f86c9_11 : decode cJ9_min_f86c9 11 = .ok (.lreturn, 1) := by decide +kernel
end
section
/-! the state of both sides: a table of numbers, field by field (0 the wells' number, 1 places, 2 zones, 3 licences, 5 the watches' number, 6 their places, 7 limits, 10 + 3 w the units of the well w by months, 11 + 3 r the responses of the reach r by delays, 12 + 3 f the ratios from the zone f) -/
abbrev Mdl : Type := Nat → Nat → Nat
def mup (M : Mdl) (k i v : Nat) : Mdl := fun a b => if a = k ∧ b = i then v else M a b
theorem mup_s {M : Mdl} {k i v : Nat} : mup M k i v k i = v := if_pos ⟨rfl, rfl⟩
theorem mup_k {M : Mdl} {k i v a b : Nat} (h : a ≠ k) : mup M k i v a b = M a b := if_neg (fun q => h q.1)
theorem mup_i {M : Mdl} {k i v a b : Nat} (h : b ≠ i) : mup M k i v a b = M a b := if_neg (fun q => h q.2)
def ssum (f : Nat → Nat) : Nat → Nat
  | 0 => 0
  | n + 1 => ssum f n + f n
theorem ssum_0 {f : Nat → Nat} : ssum f 0 = 0 := rfl
theorem ssum_s {f : Nat → Nat} {n : Nat} : ssum f (n + 1) = ssum f n + f n := rfl
theorem ssum_congr {f g : Nat → Nat} : ∀ {n : Nat}, (∀ k, k < n → f k = g k) → ssum f n = ssum g n
  | 0, _ => rfl
  | n + 1, h => by rw [ssum_s, ssum_s, ssum_congr (fun k hk => h k (Nat.lt_succ_of_lt hk)), h n (Nat.lt_succ_self n)]
theorem ssum_le {f : Nat → Nat} {c : Nat} : ∀ {n : Nat}, (∀ k, k < n → f k ≤ c) → ssum f n ≤ n * c
  | 0, _ => by rw [ssum_0]; omega
  | n + 1, h => by
    have h1 := ssum_le (n := n) (fun k hk => h k (Nat.lt_succ_of_lt hk))
    have h2 := h n (Nat.lt_succ_self n)
    rw [ssum_s, Nat.succ_mul]
    omega
theorem ssum_0s {f : Nat → Nat} : ∀ {n : Nat}, (∀ k, k < n → f k = 0) → ssum f n = 0
  | 0, _ => rfl
  | n + 1, h => by rw [ssum_s, ssum_0s (fun k hk => h k (Nat.lt_succ_of_lt hk)), h n (Nat.lt_succ_self n)]
/-- the first one pulled out -/
theorem ssum_f {f : Nat → Nat} : ∀ {n : Nat}, ssum f (n + 1) = f 0 + ssum (fun k => f (k + 1)) n
  | 0 => by rw [ssum_s, ssum_0, ssum_0]; omega
  | n + 1 => by rw [ssum_s, ssum_f (n := n), ssum_s]; omega
/-- read backwards -/
theorem ssum_r {f : Nat → Nat} : ∀ {n : Nat}, ssum (fun k => f (n - k)) (n + 1) = ssum f (n + 1)
  | 0 => by rw [ssum_s, ssum_s, ssum_0, ssum_0]
  | n + 1 => by
    rw [ssum_f (f := fun k => f (n + 1 - k)), ssum_s (f := f) (n := n + 1)]
    have e : ssum (fun k => (fun k => f (n + 1 - k)) (k + 1)) (n + 1) = ssum (fun k => f (n - k)) (n + 1) := ssum_congr (fun k hk => by
      show f (n + 1 - (k + 1)) = f (n - k)
      rw [Nat.add_sub_add_right])
    rw [e, ssum_r (n := n), Nat.sub_zero, Nat.add_comm]
/-- what lies behind a bound is 0 -/
theorem ssum_cut {f : Nat → Nat} {a : Nat} : ∀ {n : Nat}, a ≤ n → (∀ k, a ≤ k → k < n → f k = 0) → ssum f n = ssum f a
  | 0, h, _ => by rw [Nat.le_zero.mp h]
  | n + 1, h, h0 => by
    rcases Nat.lt_or_ge n a with q | q
    · rw [show a = n + 1 by omega]
    · rw [ssum_s, ssum_cut q (fun k h1 h2 => h0 k h1 (Nat.lt_succ_of_lt h2)), h0 n q (Nat.lt_succ_self n), Nat.add_zero]
/-! a world by an address function -/
def wz (n : Nat) (ad : Nat → Nat) (F : Nat → va_E) : va_W := (List.range n).map (fun k => (ad k, F k))
theorem wz_at {n : Nat} {ad : Nat → Nat} {F : Nat → va_E} {k : Nat} (h : k < n) : (wz n ad F)[k]? = some (ad k, F k) := by
  simp [wz, h]
theorem wz_inv {n : Nat} {ad : Nat → Nat} {F : Nat → va_E} {k : Nat} {q : Nat × va_E} (h : (wz n ad F)[k]? = some q) : k < n ∧ q = (ad k, F k) := by
  rcases Nat.lt_or_ge k n with hk | hk
  · rw [wz_at hk] at h
    exact ⟨hk, (Option.some.inj h).symm⟩
  · have hl : (wz n ad F).length ≤ k := by simp [wz, hk]
    rw [List.getElem?_eq_none hl] at h
    cases h
theorem wz_ext {n : Nat} {ad : Nat → Nat} {F G : Nat → va_E} (h : ∀ k, k < n → F k = G k) : wz n ad F = wz n ad G := by
  unfold wz
  exact List.map_congr_left (fun k hk => by rw [h k (List.mem_range.mp hk)])
theorem wz_set {n : Nat} {ad : Nat → Nat} {F : Nat → va_E} {k : Nat} {e : va_E} (h : k < n) : (wz n ad F).set k (ad k, e) = wz n ad (va_up F k e) := by
  apply List.ext_getElem?
  intro i
  rw [List.getElem?_set]
  by_cases hi : k = i
  · subst hi
    rw [wz_at (F := va_up F k e) h, if_pos rfl]
    have hl : k < (wz n ad F).length := by simp [wz, h]
    rw [if_pos hl]
    show some (ad k, e) = some (ad k, if k = k then e else F k)
    rw [if_pos rfl]
  · rw [if_neg hi]
    rcases Nat.lt_or_ge i n with q | q
    · rw [wz_at q, wz_at q]
      simp [va_up, Ne.symm hi]
    · rw [List.getElem?_eq_none (by simp [wz, q]), List.getElem?_eq_none (by simp [wz, q])]
def ndz (n : Nat) (ad : Nat → Nat) : Prop := ∀ i j : Nat, i < n → j < n → ad i = ad j → i = j
theorem wz_D {n : Nat} {ad : Nat → Nat} {F : Nat → va_E} {A : Nat → Prop} (h : ndz n ad) (hA : ∀ i, i < n → A (ad i)) : va_D A (wz n ad F) := by
  refine ⟨fun i j p q hp hq e => ?_, fun k q hq => ?_⟩
  · obtain ⟨h1, rfl⟩ := wz_inv hp
    obtain ⟨h2, rfl⟩ := wz_inv hq
    exact h i j h1 h2 e
  · obtain ⟨h1, rfl⟩ := wz_inv hq
    exact hA k h1
/-- a method's own cells, and the new ones -/
def azs (n : Nat) (ad : Nat → Nat) (sz : Nat) : Nat → Prop := fun q => (∃ i, i < n ∧ q = ad i) ∨ sz ≤ q
theorem azs_i {n : Nat} {ad : Nat → Nat} {sz i : Nat} (h : i < n) : azs n ad sz (ad i) := Or.inl ⟨i, h, rfl⟩
theorem wz_kept {D : va_G} {cl : List vw_C} {n : Nat} {ad : Nat → Nat} {F : Nat → va_E} {H H1 : Heap} (h : va_P D cl (wz n ad F) H) (hq : ∀ i, i < n → H1[ad i]? = H[ad i]?) : va_P D cl (wz n ad F) H1 :=
  h.kept (fun k q hk => by
    obtain ⟨h1, rfl⟩ := wz_inv hk
    exact hq k h1)
theorem wz_lt {D : va_G} {cl : List vw_C} {n : Nat} {ad : Nat → Nat} {F : Nat → va_E} {H : Heap} (h : va_P D cl (wz n ad F) H) {i : Nat} (hi : i < n) : ad i < H.size := (h i _ (wz_at hi)).lt
/-- the class's object and its arrays -/
def wcE (ad : Nat → Nat) (cI cJ cQ : ClassId) (M : Mdl) (ts : Nat → Nat) (pu : Nat → Int64) : Nat → va_E := fun k =>
  if k = 0 then .inr (0, [.ref (ad 1), .ref (ad 2), .ref (ad 3), .ref (ad 4), .ref (ad 5), .ref (ad 6), .ref (ad 7), .ref (ad 8), .ref (ad 9), .ref (ad 10), .int (nI (M 0 0)), .int (nI (M 5 0))])
  else if k = 1 then .inl (cI, 8, .inl (fun i => nI (M 1 i)))
  else if k = 2 then .inl (cI, 8, .inl (fun i => nI (M 2 i)))
  else if k = 3 then .inl (cI, 8, .inl (fun i => nI (M 3 i)))
  else if k = 4 then .inl (cQ, 8, .inr (.inr (.inr (.inr (fun i => some (ad (11 + i)))))))
  else if k = 5 then .inl (cI, 4, .inl (fun i => nI (M 6 i)))
  else if k = 6 then .inl (cI, 4, .inl (fun i => nI (M 7 i)))
  else if k = 7 then .inl (cQ, 5, .inr (.inr (.inr (.inr (fun i => some (ad (19 + i)))))))
  else if k = 8 then .inl (cI, 5, .inl (fun i => nI (ts i)))
  else if k = 9 then .inl (cQ, 3, .inr (.inr (.inr (.inr (fun i => some (ad (24 + i)))))))
  else if k = 10 then .inl (cJ, 36, .inr (.inl pu))
  else if k < 19 then .inl (cI, 36, .inl (fun j => nI (M (10 + 3 * (k - 11)) j)))
  else if k < 24 then .inl (cI, 12, .inl (fun j => nI (M (11 + 3 * (k - 19)) j)))
  else .inl (cI, 3, .inl (fun j => nI (M (12 + 3 * (k - 24)) j)))
theorem wcE_pump {ad : Nat → Nat} {cI cJ cQ : ClassId} {M : Mdl} {ts : Nat → Nat} {pu : Nat → Int64} {w : Nat} (h : w < 8) : wcE ad cI cJ cQ M ts pu (11 + w) = .inl (cI, 36, .inl (fun j => nI (M (10 + 3 * w) j))) := by
  unfold wcE
  rw [if_neg (by omega), if_neg (by omega), if_neg (by omega), if_neg (by omega), if_neg (by omega), if_neg (by omega), if_neg (by omega), if_neg (by omega), if_neg (by omega), if_neg (by omega), if_neg (by omega), if_pos (by omega), Nat.add_sub_cancel_left]
theorem wcE_tab {ad : Nat → Nat} {cI cJ cQ : ClassId} {M : Mdl} {ts : Nat → Nat} {pu : Nat → Int64} {w : Nat} (h : w < 5) : wcE ad cI cJ cQ M ts pu (19 + w) = .inl (cI, 12, .inl (fun j => nI (M (11 + 3 * w) j))) := by
  unfold wcE
  rw [if_neg (by omega), if_neg (by omega), if_neg (by omega), if_neg (by omega), if_neg (by omega), if_neg (by omega), if_neg (by omega), if_neg (by omega), if_neg (by omega), if_neg (by omega), if_neg (by omega), if_neg (by omega), if_pos (by omega), Nat.add_sub_cancel_left]
theorem wcE_rat {ad : Nat → Nat} {cI cJ cQ : ClassId} {M : Mdl} {ts : Nat → Nat} {pu : Nat → Int64} {w : Nat} (h : w < 3) : wcE ad cI cJ cQ M ts pu (24 + w) = .inl (cI, 3, .inl (fun j => nI (M (12 + 3 * w) j))) := by
  unfold wcE
  rw [if_neg (by omega), if_neg (by omega), if_neg (by omega), if_neg (by omega), if_neg (by omega), if_neg (by omega), if_neg (by omega), if_neg (by omega), if_neg (by omega), if_neg (by omega), if_neg (by omega), if_neg (by omega), if_neg (by omega), Nat.add_sub_cancel_left]
/-- the reference's object and its arrays -/
def wmE (ad : Nat → Nat) (cI : ClassId) (M : Mdl) (th : Int32) : Nat → va_E := fun k =>
  if k = 0 then .inr (1, [.int (nI (M 0 0)), .ref (ad 1), .ref (ad 2), .ref (ad 3), .ref (ad 4), .int (nI (M 5 0)), .ref (ad 5), .ref (ad 6), .ref (ad 7), .ref (ad 8), .int th])
  else if k = 1 then .inl (cI, 8, .inl (fun i => nI (M 1 i)))
  else if k = 2 then .inl (cI, 8, .inl (fun i => nI (M 2 i)))
  else if k = 3 then .inl (cI, 8, .inl (fun i => nI (M 3 i)))
  else if k = 4 then .inl (cI, 288, .inl (fun i => nI (M (10 + 3 * (i / 36)) (i % 36))))
  else if k = 5 then .inl (cI, 4, .inl (fun i => nI (M 6 i)))
  else if k = 6 then .inl (cI, 4, .inl (fun i => nI (M 7 i)))
  else if k = 7 then .inl (cI, 60, .inl (fun i => nI (M (11 + 3 * (i / 12)) (i % 12))))
  else .inl (cI, 9, .inl (fun i => nI (M (12 + 3 * (i / 3)) (i % 3))))
/-- what the numbers keep to -/
def Inv (M : Mdl) : Prop := M 0 0 ≤ 8 ∧ M 5 0 ≤ 4 ∧ (∀ i, M 1 i ≤ 99) ∧ (∀ i, M 2 i ≤ 2) ∧ (∀ i, M 3 i ≤ 20000) ∧ (∀ w, w < 8 → ∀ i, M (10 + 3 * w) i ≤ 1000) ∧ (∀ i, M 6 i ≤ 99) ∧ (∀ i, M 7 i ≤ 10000) ∧ (∀ r, r < 5 → ∀ i, M (11 + 3 * r) i ≤ 1000) ∧ ∀ f, f < 3 → ∀ i, M (12 + 3 * f) i ≤ 200
theorem Inv.nw {M : Mdl} (h : Inv M) : M 0 0 ≤ 8 := h.1
theorem Inv.nv {M : Mdl} (h : Inv M) : M 5 0 ≤ 4 := h.2.1
theorem Inv.pl {M : Mdl} (h : Inv M) : ∀ i, M 1 i ≤ 99 := h.2.2.1
theorem Inv.zo {M : Mdl} (h : Inv M) : ∀ i, M 2 i ≤ 2 := h.2.2.2.1
theorem Inv.li {M : Mdl} (h : Inv M) : ∀ i, M 3 i ≤ 20000 := h.2.2.2.2.1
theorem Inv.un {M : Mdl} (h : Inv M) : ∀ w, w < 8 → ∀ i, M (10 + 3 * w) i ≤ 1000 := h.2.2.2.2.2.1
theorem Inv.sp {M : Mdl} (h : Inv M) : ∀ i, M 6 i ≤ 99 := h.2.2.2.2.2.2.1
theorem Inv.lm {M : Mdl} (h : Inv M) : ∀ i, M 7 i ≤ 10000 := h.2.2.2.2.2.2.2.1
theorem Inv.tb {M : Mdl} (h : Inv M) : ∀ r, r < 5 → ∀ i, M (11 + 3 * r) i ≤ 1000 := h.2.2.2.2.2.2.2.2.1
theorem Inv.ra {M : Mdl} (h : Inv M) : ∀ f, f < 3 → ∀ i, M (12 + 3 * f) i ≤ 200 := h.2.2.2.2.2.2.2.2.2
/-- what a class method finds: the tables' word on the classes, and the object -/
def KP0 (D : va_G) (ad : Nat → Nat) (cI cJ cQ : ClassId) (M : Mdl) (ts : Nat → Nat) (pu : Nat → Int64) (U : State) : Prop :=
  va_K D vwCl [(cI, .int), (cJ, .long), (cQ, .array .int)] U ∧ va_P D vwCl (wz 27 ad (wcE ad cI cJ cQ M ts pu)) U.heap
def KP1 (D : va_G) (ad : Nat → Nat) (cI : ClassId) (M : Mdl) (th : Int32) (U : State) : Prop :=
  va_K D vwCl [(cI, .int)] U ∧ va_P D vwCl (wz 9 ad (wmE ad cI M th)) U.heap
section ZR
variable {p : Program} {l : Launch} {e : Env} {R : Room} {s : State} {m : MethodId} {args : Array Value} {below : List Frame} {meth : Method} {c : Code} {H : Heap} {locs : List Loc} {cells slots : Nat} {Q : State → Prop}
variable {cc : ByteArray} {pc : Nat} {ls : Array Slot} {rest : List Value} {D : va_G} {cl : List vw_C} {tys : List (ClassId × FieldType)} {n : Nat} {ad : Nat → Nat} {F : Nat → va_E} {A : Nat → Prop} {H0 : Heap}
theorem zi_ld (hx : p.tables.exec = Jvm.exec) (hb : c.code = cc) (hK : va_K D cl tys s) (hP : va_P D cl (wz n ad F) H) (k : Nat) (hk : k < n) (t0 : Nat) {cA : ClassId} {len : Nat} {f : Nat → Int32} (hF : F k = .inl (cA, len, .inl f)) (ht : tys[t0]? = some (cA, .int)) (hl : len ≤ 1000) {i : Nat} (hi : i < len) {v : Int32} (hv : f i = v) (hdg : decode cc pc = .ok (.iaload, 1))
    (kk : W p l e R s m args below meth c H locs cells slots Q (F0 m (pc + 1) ls (.int v :: rest))) : W p l e R s m args below meth c H locs cells slots Q (F0 m pc ls (.int (nI i) :: .ref (ad k) :: rest)) := by
  have h := wz_at (ad := ad) (F := F) hk
  rw [hF] at h
  refine va_iald hx hb hK hP k t0 h ht (vp_in_nI hi (by omega)) hdg ?_
  rw [nI_clamp (by omega), hv]
  exact kk
theorem zl_ld (hx : p.tables.exec = Jvm.exec) (hb : c.code = cc) (hK : va_K D cl tys s) (hP : va_P D cl (wz n ad F) H) (k : Nat) (hk : k < n) (t0 : Nat) {cA : ClassId} {len : Nat} {f : Nat → Int64} (hF : F k = .inl (cA, len, .inr (.inl f))) (ht : tys[t0]? = some (cA, .long)) (hl : len ≤ 1000) {i : Nat} (hi : i < len) {v : Int64} (hv : f i = v) (hdg : decode cc pc = .ok (.laload, 1))
    (kk : W p l e R s m args below meth c H locs cells slots Q (F0 m (pc + 1) ls (.long v :: rest))) : W p l e R s m args below meth c H locs cells slots Q (F0 m pc ls (.int (nI i) :: .ref (ad k) :: rest)) := by
  have h := wz_at (ad := ad) (F := F) hk
  rw [hF] at h
  refine va_lald hx hb hK hP k t0 h ht (vp_in_nI hi (by omega)) hdg ?_
  rw [nI_clamp (by omega), hv]
  exact kk
theorem zq_ld (hx : p.tables.exec = Jvm.exec) (hb : c.code = cc) (hK : va_K D cl tys s) (hP : va_P D cl (wz n ad F) H) (k : Nat) (hk : k < n) (t0 : Nat) {cA : ClassId} {ty : FieldType} {len : Nat} {f : Nat → Option Nat} (hF : F k = .inl (cA, len, .inr (.inr (.inr (.inr f))))) (ht : tys[t0]? = some (cA, .array ty)) (hl : len ≤ 1000) {i : Nat} (hi : i < len) {a : Nat} (hv : f i = some a) (hdg : decode cc pc = .ok (.aaload, 1))
    (kk : W p l e R s m args below meth c H locs cells slots Q (F0 m (pc + 1) ls (.ref a :: rest))) : W p l e R s m args below meth c H locs cells slots Q (F0 m pc ls (.int (nI i) :: .ref (ad k) :: rest)) := by
  have h := wz_at (ad := ad) (F := F) hk
  rw [hF] at h
  have hin := vp_in_nI hi (show len < 2 ^ 31 by omega)
  have hc : (nI i).toNatClampNeg = i := nI_clamp (by omega)
  refine W.aald (v := .ref a) (ty := .array ty) hx hb (hP k _ h) ((hK.2 t0 _ ht).1 len (fun j => va_rf (f j))) rfl (fun q => by cases q) (by show ¬ ((nI i) < 0 ∨ (arrV _ _ _).slots.size ≤ _); rw [arrV_size]; exact hin) (by show (arrV _ _ _).slots[_]? = _; rw [hc, arrV_read _ _ hi, hv]; rfl) rfl rfl hdg kk
theorem zi_st (hx : p.tables.exec = Jvm.exec) (hb : c.code = cc) (hK : va_K D cl tys s) (hP : va_P D cl (wz n ad F) H) (hnd : ndz n ad) (hA : ∀ i, i < n → A (ad i)) (hS : va_S A H0 H locs) (k : Nat) (hk : k < n) (t0 : Nat) {cA : ClassId} {len : Nat} {f : Nat → Int32} (hF : F k = .inl (cA, len, .inl f)) (ht : tys[t0]? = some (cA, .int)) (hl : len ≤ 1000) {i : Nat} (hi : i < len) {x : Int32} (G : Nat → va_E) (hG : ∀ j, j < n → va_up F k (.inl (cA, len, .inl (upd f i x))) j = G j) (hdg : decode cc pc = .ok (.iastore, 1))
    (kk : ∀ (H1 : Heap) (locs1 : List Loc), va_P D cl (wz n ad G) H1 → va_S A H0 H1 locs1 → W p l e R s m args below meth c H1 locs1 cells slots Q (F0 m (pc + 1) ls rest)) : W p l e R s m args below meth c H locs cells slots Q (F0 m pc ls (.int x :: .int (nI i) :: .ref (ad k) :: rest)) := by
  have h := wz_at (ad := ad) (F := F) hk
  rw [hF] at h
  refine va_iast hx hb hK hP (wz_D hnd hA) hS k t0 h ht (vp_in_nI hi (by omega)) hdg (fun H1 locs1 hP1 _ hS1 => ?_)
  rw [nI_clamp (by omega), wz_set hk, wz_ext hG] at hP1
  exact kk H1 locs1 hP1 hS1
theorem zl_st (hx : p.tables.exec = Jvm.exec) (hb : c.code = cc) (hK : va_K D cl tys s) (hP : va_P D cl (wz n ad F) H) (hnd : ndz n ad) (hA : ∀ i, i < n → A (ad i)) (hS : va_S A H0 H locs) (k : Nat) (hk : k < n) (t0 : Nat) {cA : ClassId} {len : Nat} {f : Nat → Int64} (hF : F k = .inl (cA, len, .inr (.inl f))) (ht : tys[t0]? = some (cA, .long)) (hl : len ≤ 1000) {i : Nat} (hi : i < len) {x : Int64} (G : Nat → va_E) (hG : ∀ j, j < n → va_up F k (.inl (cA, len, .inr (.inl (vp_updL f i x)))) j = G j) (hdg : decode cc pc = .ok (.lastore, 1))
    (kk : ∀ (H1 : Heap) (locs1 : List Loc), va_P D cl (wz n ad G) H1 → va_S A H0 H1 locs1 → W p l e R s m args below meth c H1 locs1 cells slots Q (F0 m (pc + 1) ls rest)) : W p l e R s m args below meth c H locs cells slots Q (F0 m pc ls (.long x :: .int (nI i) :: .ref (ad k) :: rest)) := by
  have h := wz_at (ad := ad) (F := F) hk
  rw [hF] at h
  refine va_last hx hb hK hP (wz_D hnd hA) hS k t0 h ht (vp_in_nI hi (by omega)) hdg (fun H1 locs1 hP1 _ hS1 => ?_)
  rw [nI_clamp (by omega), wz_set hk, wz_ext hG] at hP1
  exact kk H1 locs1 hP1 hS1
theorem zg0 (hx : p.tables.exec = Jvm.exec) (hb : c.code = cc) (hw0 : ∀ w ∈ wsX00, w.before args s = true) (hown : s.vm.findClass RX0 = some m.cls) (hK : va_K D vwCl tys s) (hP : va_P D vwCl (wz n ad F) H) (hn : 0 < n) {fs : List Value} (hF : F 0 = .inr (0, fs)) (k : Nat) (hk : k < 12) {index : Nat} (hlink : (Cond.fieldLink RX0 index RX0 (TX0 k).2.1 (TX0 k).2.2.1).before args s = true) (hsame : (TX0 k).1 = RX0) {v : Value} (hv : fs[k]? = some v) (hdg : decode cc pc = .ok (.getfield index, 3))
    (kk : W p l e R s m args below meth c H locs cells slots Q (F0 m (pc + 3) ls (v :: rest))) : W p l e R s m args below meth c H locs cells slots Q (F0 m pc ls (.ref (ad 0) :: rest)) := by
  have h := wz_at (ad := ad) (F := F) hn
  rw [hF] at h
  exact va_get (own := RX0) (ref := RX0) (C := RX0) (T := TX0) (N := 12) hx hb (Ts := wsX00) hw0 (fun _ h => h) hown hK hP 0 h rfl k hk hlink (fun x hx => by rw [hsame] at hx; exact hx) hv hdg kk
theorem zg1 (hx : p.tables.exec = Jvm.exec) (hb : c.code = cc) (hw0 : ∀ w ∈ wsX10, w.before args s = true) (hown : s.vm.findClass RX1 = some m.cls) (hK : va_K D vwCl tys s) (hP : va_P D vwCl (wz n ad F) H) (hn : 0 < n) {fs : List Value} (hF : F 0 = .inr (1, fs)) (k : Nat) (hk : k < 11) {index : Nat} (hlink : (Cond.fieldLink RX1 index RX1 (TX1 k).2.1 (TX1 k).2.2.1).before args s = true) (hsame : (TX1 k).1 = RX1) {v : Value} (hv : fs[k]? = some v) (hdg : decode cc pc = .ok (.getfield index, 3))
    (kk : W p l e R s m args below meth c H locs cells slots Q (F0 m (pc + 3) ls (v :: rest))) : W p l e R s m args below meth c H locs cells slots Q (F0 m pc ls (.ref (ad 0) :: rest)) := by
  have h := wz_at (ad := ad) (F := F) hn
  rw [hF] at h
  exact va_get (own := RX1) (ref := RX1) (C := RX1) (T := TX1) (N := 11) hx hb (Ts := wsX10) hw0 (fun _ h => h) hown hK hP 0 h rfl k hk hlink (fun x hx => by rw [hsame] at hx; exact hx) hv hdg kk
theorem zp0 (hx : p.tables.exec = Jvm.exec) (hb : c.code = cc) (hw0 : ∀ w ∈ wsX00, w.before args s = true) (hown : s.vm.findClass RX0 = some m.cls) (hK : va_K D vwCl tys s) (hP : va_P D vwCl (wz n ad F) H) (hnd : ndz n ad) (hA : ∀ i, i < n → A (ad i)) (hS : va_S A H0 H locs) (hn : 0 < n) {fs : List Value} (hF : F 0 = .inr (0, fs)) (k : Nat) (hk : k < 12) {index : Nat} (hlink : (Cond.fieldLink RX0 index RX0 (TX0 k).2.1 (TX0 k).2.2.1).before args s = true) (hsame : (TX0 k).1 = RX0) (hfin : (TX0 k).2.2.2 = false) (hd : parseFieldDescriptor (TX0 k).2.2.1 = some .int) {x : Int32} (hl : k < fs.length) (G : Nat → va_E) (hG : ∀ j, j < n → va_up F 0 (.inr (0, fs.set k (.int x))) j = G j) (hdg : decode cc pc = .ok (.putfield index, 3))
    (kk : ∀ (H1 : Heap) (locs1 : List Loc), va_P D vwCl (wz n ad G) H1 → va_S A H0 H1 locs1 → W p l e R s m args below meth c H1 locs1 cells slots Q (F0 m (pc + 3) ls rest)) : W p l e R s m args below meth c H locs cells slots Q (F0 m pc ls (.int x :: .ref (ad 0) :: rest)) := by
  have h := wz_at (ad := ad) (F := F) hn
  rw [hF] at h
  refine va_put (own := RX0) (ref := RX0) (C := RX0) (T := TX0) (N := 12) (ty := .int) hx hb (Ts := wsX00) hw0 (fun _ h => h) tyX0 tyX0_ok nmX0 hown hK hP (wz_D hnd hA) hS 0 h rfl k hk hlink (fun x hx => by rw [hsame] at hx; exact hx) hfin hd rfl rfl hl hdg (fun H1 locs1 hP1 _ hS1 => ?_)
  rw [wz_set hn, wz_ext hG] at hP1
  exact kk H1 locs1 hP1 hS1
theorem zp1 (hx : p.tables.exec = Jvm.exec) (hb : c.code = cc) (hw0 : ∀ w ∈ wsX10, w.before args s = true) (hown : s.vm.findClass RX1 = some m.cls) (hK : va_K D vwCl tys s) (hP : va_P D vwCl (wz n ad F) H) (hnd : ndz n ad) (hA : ∀ i, i < n → A (ad i)) (hS : va_S A H0 H locs) (hn : 0 < n) {fs : List Value} (hF : F 0 = .inr (1, fs)) (k : Nat) (hk : k < 11) {index : Nat} (hlink : (Cond.fieldLink RX1 index RX1 (TX1 k).2.1 (TX1 k).2.2.1).before args s = true) (hsame : (TX1 k).1 = RX1) (hfin : (TX1 k).2.2.2 = false) (hd : parseFieldDescriptor (TX1 k).2.2.1 = some .int) {x : Int32} (hl : k < fs.length) (G : Nat → va_E) (hG : ∀ j, j < n → va_up F 0 (.inr (1, fs.set k (.int x))) j = G j) (hdg : decode cc pc = .ok (.putfield index, 3))
    (kk : ∀ (H1 : Heap) (locs1 : List Loc), va_P D vwCl (wz n ad G) H1 → va_S A H0 H1 locs1 → W p l e R s m args below meth c H1 locs1 cells slots Q (F0 m (pc + 3) ls rest)) : W p l e R s m args below meth c H locs cells slots Q (F0 m pc ls (.int x :: .ref (ad 0) :: rest)) := by
  have h := wz_at (ad := ad) (F := F) hn
  rw [hF] at h
  refine va_put (own := RX1) (ref := RX1) (C := RX1) (T := TX1) (N := 11) (ty := .int) hx hb (Ts := wsX10) hw0 (fun _ h => h) tyX1 tyX1_ok nmX1 hown hK hP (wz_D hnd hA) hS 0 h rfl k hk hlink (fun x hx => by rw [hsame] at hx; exact hx) hfin hd rfl rfl hl hdg (fun H1 locs1 hP1 _ hS1 => ?_)
  rw [wz_set hn, wz_ext hG] at hP1
  exact kk H1 locs1 hP1 hS1
/-! numbers on the stack -/
theorem zt_i {x y : Int32} (h : x = y) (k : W p l e R s m args below meth c H locs cells slots Q (F0 m pc ls (.int y :: rest))) : W p l e R s m args below meth c H locs cells slots Q (F0 m pc ls (.int x :: rest)) := h ▸ k
theorem zt_l {x y : Int64} (h : x = y) (k : W p l e R s m args below meth c H locs cells slots Q (F0 m pc ls (.long y :: rest))) : W p l e R s m args below meth c H locs cells slots Q (F0 m pc ls (.long x :: rest)) := h ▸ k
theorem zn_inc (a : Nat) : nI a + Int32.ofInt 1 = nI (a + 1) := by
  rw [show Int32.ofInt 1 = 1 from by decide]
  exact nI_1 a
theorem zn_dec (a : Nat) : nI (a + 1) + Int32.ofInt (-1) = nI a := by
  rw [show Int32.ofInt (-1) = -1 from by decide]
  exact pk_m1 a
theorem zr_iadd (hx : p.tables.exec = Jvm.exec) (hb : c.code = cc) {a b : Nat} (hdg : decode cc pc = .ok (.iadd, 1)) (k : W p l e R s m args below meth c H locs cells slots Q (F0 m (pc + 1) ls (.int (nI (a + b)) :: rest))) : W p l e R s m args below meth c H locs cells slots Q (F0 m pc ls (.int (nI b) :: .int (nI a) :: rest)) := by
  refine lv_iadd hx hb hdg ?_
  rw [nI_add]
  exact k
theorem zr_imul (hx : p.tables.exec = Jvm.exec) (hb : c.code = cc) {a b : Nat} (hdg : decode cc pc = .ok (.imul, 1)) (k : W p l e R s m args below meth c H locs cells slots Q (F0 m (pc + 1) ls (.int (nI (a * b)) :: rest))) : W p l e R s m args below meth c H locs cells slots Q (F0 m pc ls (.int (nI b) :: .int (nI a) :: rest)) := by
  refine lv_imul hx hb hdg ?_
  rw [pk_mul]
  exact k
theorem zr_isub (hx : p.tables.exec = Jvm.exec) (hb : c.code = cc) {a b : Nat} (hle : b ≤ a) (hdg : decode cc pc = .ok (.isub, 1)) (k : W p l e R s m args below meth c H locs cells slots Q (F0 m (pc + 1) ls (.int (nI (a - b)) :: rest))) : W p l e R s m args below meth c H locs cells slots Q (F0 m pc ls (.int (nI b) :: .int (nI a) :: rest)) := by
  refine lv_isub hx hb hdg ?_
  rw [pk_sub hle]
  exact k
theorem zr_idiv (hx : p.tables.exec = Jvm.exec) (hb : c.code = cc) {a b : Nat} (ha : a < 2 ^ 31) (h0 : 0 < b) (hb2 : b < 2 ^ 31) (hdg : decode cc pc = .ok (.idiv, 1)) (k : W p l e R s m args below meth c H locs cells slots Q (F0 m (pc + 1) ls (.int (nI (a / b)) :: rest))) : W p l e R s m args below meth c H locs cells slots Q (F0 m pc ls (.int (nI b) :: .int (nI a) :: rest)) := by
  refine lv_idiv hx hb hdg (nI_ne0 h0 hb2) ?_
  rw [pk_div ha h0 hb2]
  exact k
theorem zr_ladd (hx : p.tables.exec = Jvm.exec) (hb : c.code = cc) {a b : Nat} (hdg : decode cc pc = .ok (.ladd, 1)) (k : W p l e R s m args below meth c H locs cells slots Q (F0 m (pc + 1) ls (.long (lN (a + b)) :: rest))) : W p l e R s m args below meth c H locs cells slots Q (F0 m pc ls (.long (lN b) :: .long (lN a) :: rest)) := by
  refine lv_ladd hx hb hdg ?_
  rw [lN_add]
  exact k
theorem zr_lmul (hx : p.tables.exec = Jvm.exec) (hb : c.code = cc) {a b : Nat} (hdg : decode cc pc = .ok (.lmul, 1)) (k : W p l e R s m args below meth c H locs cells slots Q (F0 m (pc + 1) ls (.long (lN (a * b)) :: rest))) : W p l e R s m args below meth c H locs cells slots Q (F0 m pc ls (.long (lN b) :: .long (lN a) :: rest)) := by
  refine lv_lmul hx hb hdg ?_
  rw [lN_mul]
  exact k
theorem zr_ldiv (hx : p.tables.exec = Jvm.exec) (hb : c.code = cc) {a b : Nat} (ha : a < 2 ^ 63) (h0 : 0 < b) (hb2 : b < 2 ^ 63) (hdg : decode cc pc = .ok (.ldiv, 1)) (k : W p l e R s m args below meth c H locs cells slots Q (F0 m (pc + 1) ls (.long (lN (a / b)) :: rest))) : W p l e R s m args below meth c H locs cells slots Q (F0 m pc ls (.long (lN b) :: .long (lN a) :: rest)) := by
  refine lv_ldiv hx hb hdg (fun q => ?_) ?_
  · have h1 := (pk_lEQ hb2 (show 0 < 2 ^ 63 by decide)).mp (q.trans (show (0 : Int64) = lN 0 from rfl))
    omega
  · rw [pk_lDiv ha h0 hb2]
    exact k
theorem zr_i2l (hx : p.tables.exec = Jvm.exec) (hb : c.code = cc) {a : Nat} (ha : a < 2 ^ 31) (hdg : decode cc pc = .ok (.i2l, 1)) (k : W p l e R s m args below meth c H locs cells slots Q (F0 m (pc + 1) ls (.long (lN a) :: rest))) : W p l e R s m args below meth c H locs cells slots Q (F0 m pc ls (.int (nI a) :: rest)) :=
  lv_i2l hx hb hdg (nI_l ha) k
theorem zr_l2i (hx : p.tables.exec = Jvm.exec) (hb : c.code = cc) {a : Nat} (hdg : decode cc pc = .ok (.l2i, 1)) (k : W p l e R s m args below meth c H locs cells slots Q (F0 m (pc + 1) ls (.int (nI a) :: rest))) : W p l e R s m args below meth c H locs cells slots Q (F0 m pc ls (.long (lN a) :: rest)) :=
  lv_l2i hx hb hdg (lN_i a) k
theorem zb_ge (hx : p.tables.exec = Jvm.exec) (hb : c.code = cc) {a b : Nat} {off : Int} {tgt : Nat} (ha : a < 2 ^ 31) (hb2 : b < 2 ^ 31) (hdg : decode cc pc = .ok (.if_icmp .ge off, 3)) (ht : (pc : Int) + off = (tgt : Int))
    (kt : b ≤ a → W p l e R s m args below meth c H locs cells slots Q (F0 m tgt ls rest)) (kf : a < b → W p l e R s m args below meth c H locs cells slots Q (F0 m (pc + 3) ls rest)) : W p l e R s m args below meth c H locs cells slots Q (F0 m pc ls (.int (nI b) :: .int (nI a) :: rest)) :=
  lv_icmp_ge hx hb hdg ht (fun h => kt ((nI_leI hb2 ha).mp h)) (fun h => kf (Nat.not_le.mp fun q => h ((nI_leI hb2 ha).mpr q)))
theorem zb_lt (hx : p.tables.exec = Jvm.exec) (hb : c.code = cc) {a b : Nat} {off : Int} {tgt : Nat} (ha : a < 2 ^ 31) (hb2 : b < 2 ^ 31) (hdg : decode cc pc = .ok (.if_icmp .lt off, 3)) (ht : (pc : Int) + off = (tgt : Int))
    (kt : a < b → W p l e R s m args below meth c H locs cells slots Q (F0 m tgt ls rest)) (kf : b ≤ a → W p l e R s m args below meth c H locs cells slots Q (F0 m (pc + 3) ls rest)) : W p l e R s m args below meth c H locs cells slots Q (F0 m pc ls (.int (nI b) :: .int (nI a) :: rest)) :=
  lv_icmp_lt hx hb hdg ht (fun h => kt ((nI_ltI ha hb2).mp h)) (fun h => kf (Nat.not_lt.mp fun q => h ((nI_ltI ha hb2).mpr q)))
theorem zb_gt (hx : p.tables.exec = Jvm.exec) (hb : c.code = cc) {a b : Nat} {off : Int} {tgt : Nat} (ha : a < 2 ^ 31) (hb2 : b < 2 ^ 31) (hdg : decode cc pc = .ok (.if_icmp .gt off, 3)) (ht : (pc : Int) + off = (tgt : Int))
    (kt : b < a → W p l e R s m args below meth c H locs cells slots Q (F0 m tgt ls rest)) (kf : a ≤ b → W p l e R s m args below meth c H locs cells slots Q (F0 m (pc + 3) ls rest)) : W p l e R s m args below meth c H locs cells slots Q (F0 m pc ls (.int (nI b) :: .int (nI a) :: rest)) :=
  lv_icmp_gt hx hb hdg ht (fun h => kt ((nI_ltI hb2 ha).mp h)) (fun h => kf (Nat.not_lt.mp fun q => h ((nI_ltI hb2 ha).mpr q)))
theorem zb_le (hx : p.tables.exec = Jvm.exec) (hb : c.code = cc) {a b : Nat} {off : Int} {tgt : Nat} (ha : a < 2 ^ 31) (hb2 : b < 2 ^ 31) (hdg : decode cc pc = .ok (.if_icmp .le off, 3)) (ht : (pc : Int) + off = (tgt : Int))
    (kt : a ≤ b → W p l e R s m args below meth c H locs cells slots Q (F0 m tgt ls rest)) (kf : b < a → W p l e R s m args below meth c H locs cells slots Q (F0 m (pc + 3) ls rest)) : W p l e R s m args below meth c H locs cells slots Q (F0 m pc ls (.int (nI b) :: .int (nI a) :: rest)) :=
  lv_icmp_le hx hb hdg ht (fun h => kt ((nI_leI ha hb2).mp h)) (fun h => kf (Nat.not_le.mp fun q => h ((nI_leI ha hb2).mpr q)))
theorem zb_eq (hx : p.tables.exec = Jvm.exec) (hb : c.code = cc) {a b : Nat} {off : Int} {tgt : Nat} (ha : a < 2 ^ 31) (hb2 : b < 2 ^ 31) (hdg : decode cc pc = .ok (.if_icmp .eq off, 3)) (ht : (pc : Int) + off = (tgt : Int))
    (kt : a = b → W p l e R s m args below meth c H locs cells slots Q (F0 m tgt ls rest)) (kf : a ≠ b → W p l e R s m args below meth c H locs cells slots Q (F0 m (pc + 3) ls rest)) : W p l e R s m args below meth c H locs cells slots Q (F0 m pc ls (.int (nI b) :: .int (nI a) :: rest)) :=
  lv_icmp_eq hx hb hdg ht (fun h => kt ((nI_eq ha hb2).mp h)) (fun h => kf (fun q => h ((nI_eq ha hb2).mpr q)))
theorem zb_ne (hx : p.tables.exec = Jvm.exec) (hb : c.code = cc) {a b : Nat} {off : Int} {tgt : Nat} (ha : a < 2 ^ 31) (hb2 : b < 2 ^ 31) (hdg : decode cc pc = .ok (.if_icmp .ne off, 3)) (ht : (pc : Int) + off = (tgt : Int))
    (kt : a ≠ b → W p l e R s m args below meth c H locs cells slots Q (F0 m tgt ls rest)) (kf : a = b → W p l e R s m args below meth c H locs cells slots Q (F0 m (pc + 3) ls rest)) : W p l e R s m args below meth c H locs cells slots Q (F0 m pc ls (.int (nI b) :: .int (nI a) :: rest)) :=
  lv_icmp_ne hx hb hdg ht (fun h => kt (fun q => h ((nI_eq ha hb2).mpr q))) (fun h => kf ((nI_eq ha hb2).mp h))
theorem zb_0le (hx : p.tables.exec = Jvm.exec) (hb : c.code = cc) {a : Nat} {off : Int} {tgt : Nat} (ha : a < 2 ^ 31) (hdg : decode cc pc = .ok (.ifCond .le off, 3)) (ht : (pc : Int) + off = (tgt : Int))
    (kt : a = 0 → W p l e R s m args below meth c H locs cells slots Q (F0 m tgt ls rest)) (kf : 0 < a → W p l e R s m args below meth c H locs cells slots Q (F0 m (pc + 3) ls rest)) : W p l e R s m args below meth c H locs cells slots Q (F0 m pc ls (.int (nI a) :: rest)) :=
  lv_if_le hx hb hdg ht (fun h => kt (by have h1 : a ≤ 0 := (nI_leI ha (by decide)).mp h; omega)) (fun h => kf (by rcases Nat.lt_or_ge 0 a with q | q; exact q; exact absurd ((nI_leI ha (by decide)).mpr q) h))
theorem zb_0eq (hx : p.tables.exec = Jvm.exec) (hb : c.code = cc) {a : Nat} {off : Int} {tgt : Nat} (ha : a < 2 ^ 31) (hdg : decode cc pc = .ok (.ifCond .eq off, 3)) (ht : (pc : Int) + off = (tgt : Int))
    (kt : a = 0 → W p l e R s m args below meth c H locs cells slots Q (F0 m tgt ls rest)) (kf : a ≠ 0 → W p l e R s m args below meth c H locs cells slots Q (F0 m (pc + 3) ls rest)) : W p l e R s m args below meth c H locs cells slots Q (F0 m pc ls (.int (nI a) :: rest)) :=
  lv_if_eq hx hb hdg ht (fun h => kt ((nI_eq ha (by decide)).mp h)) (fun h => kf (fun q => h ((nI_eq ha (by decide)).mpr q)))
theorem zb_0ne (hx : p.tables.exec = Jvm.exec) (hb : c.code = cc) {a : Nat} {off : Int} {tgt : Nat} (ha : a < 2 ^ 31) (hdg : decode cc pc = .ok (.ifCond .ne off, 3)) (ht : (pc : Int) + off = (tgt : Int))
    (kt : a ≠ 0 → W p l e R s m args below meth c H locs cells slots Q (F0 m tgt ls rest)) (kf : a = 0 → W p l e R s m args below meth c H locs cells slots Q (F0 m (pc + 3) ls rest)) : W p l e R s m args below meth c H locs cells slots Q (F0 m pc ls (.int (nI a) :: rest)) :=
  lv_if_ne hx hb hdg ht (fun h => kt (fun q => h ((nI_eq ha (by decide)).mpr q))) (fun h => kf ((nI_eq ha (by decide)).mp h))
/-! truth on the stack -/
def bB (b : Bool) : Int32 := if b = true then 1 else 0
theorem bB_t : bB true = 1 := rfl
theorem bB_f : bB false = 0 := rfl
theorem bB_of {b : Bool} {P : Prop} (h : b = true ↔ P) (hp : P) : (1 : Int32) = bB b := by rw [h.mpr hp]; rfl
theorem bB_nar (b : Bool) : narrow .boolean (.int (bB b)) = .int (bB b) := by cases b <;> rfl
theorem zb_Beq (hx : p.tables.exec = Jvm.exec) (hb : c.code = cc) {b : Bool} {off : Int} {tgt : Nat} (hdg : decode cc pc = .ok (.ifCond .eq off, 3)) (ht : (pc : Int) + off = (tgt : Int))
    (kt : b = false → W p l e R s m args below meth c H locs cells slots Q (F0 m tgt ls rest)) (kf : b = true → W p l e R s m args below meth c H locs cells slots Q (F0 m (pc + 3) ls rest)) : W p l e R s m args below meth c H locs cells slots Q (F0 m pc ls (.int (bB b) :: rest)) := by
  refine lv_if_eq hx hb hdg ht (fun h => kt ?_) (fun h => kf ?_)
  · cases b
    · rfl
    · exact absurd h (by decide)
  · cases b
    · exact absurd rfl h
    · rfl
theorem zb_Bne (hx : p.tables.exec = Jvm.exec) (hb : c.code = cc) {b : Bool} {off : Int} {tgt : Nat} (hdg : decode cc pc = .ok (.ifCond .ne off, 3)) (ht : (pc : Int) + off = (tgt : Int))
    (kt : b = true → W p l e R s m args below meth c H locs cells slots Q (F0 m tgt ls rest)) (kf : b = false → W p l e R s m args below meth c H locs cells slots Q (F0 m (pc + 3) ls rest)) : W p l e R s m args below meth c H locs cells slots Q (F0 m pc ls (.int (bB b) :: rest)) := by
  refine lv_if_ne hx hb hdg ht (fun h => kt ?_) (fun h => kf ?_)
  · cases b
    · exact absurd rfl h
    · rfl
  · cases b
    · rfl
    · exact absurd h (by decide)
/-- lcmp, then a branch -/
theorem zb_lle (hx : p.tables.exec = Jvm.exec) (hb : c.code = cc) {x y : Int64} {off : Int} {tgt : Nat} (hd0 : decode cc pc = .ok (.lcmp, 1)) (hdg : decode cc (pc + 1) = .ok (.ifCond .le off, 3)) (ht : (pc : Int) + 1 + off = (tgt : Int))
    (kt : x ≤ y → W p l e R s m args below meth c H locs cells slots Q (F0 m tgt ls rest)) (kf : y < x → W p l e R s m args below meth c H locs cells slots Q (F0 m (pc + 4) ls rest)) : W p l e R s m args below meth c H locs cells slots Q (F0 m pc ls (.long y :: .long x :: rest)) := by
  refine W.lcmp hx hb hd0 ?_
  refine lv_if_le hx hb hdg (by omega) (fun h => kt ((lg_cmp_le x y).mp h)) (fun h => kf ?_)
  have h1 : ¬ x ≤ y := fun q => h ((lg_cmp_le x y).mpr q)
  rw [Int64.le_iff_toInt_le] at h1
  rw [Int64.lt_iff_toInt_lt]
  omega
theorem zb_lge (hx : p.tables.exec = Jvm.exec) (hb : c.code = cc) {x y : Int64} {off : Int} {tgt : Nat} (hd0 : decode cc pc = .ok (.lcmp, 1)) (hdg : decode cc (pc + 1) = .ok (.ifCond .ge off, 3)) (ht : (pc : Int) + 1 + off = (tgt : Int))
    (kt : y ≤ x → W p l e R s m args below meth c H locs cells slots Q (F0 m tgt ls rest)) (kf : x < y → W p l e R s m args below meth c H locs cells slots Q (F0 m (pc + 4) ls rest)) : W p l e R s m args below meth c H locs cells slots Q (F0 m pc ls (.long y :: .long x :: rest)) := by
  refine W.lcmp hx hb hd0 ?_
  refine lv_if_ge hx hb hdg (by omega) (fun h => kt ((lg_cmp_ge x y).mp h)) (fun h => kf ?_)
  have h1 : ¬ y ≤ x := fun q => h ((lg_cmp_ge x y).mpr q)
  rw [Int64.le_iff_toInt_le] at h1
  rw [Int64.lt_iff_toInt_lt]
  omega
theorem lv_cast {nL : Nat} {l1 l2 : List (Nat × Value)} (h : lv_has ls nL l1) (e : l1 = l2) : lv_has ls nL l2 := e ▸ h
/-! a method's own ground -/
def Cx (p : Program) (s : State) (m : MethodId) (args : Array Value) (meth : Method) (c : Code) (cc : ByteArray) (maxL : Nat) (ret : Option FieldType) (ws : List Cond) (own : String) : Prop :=
  p.tables.exec = Jvm.exec ∧ c.code = cc ∧ meth.sig.returnType = ret ∧ c.maxLocals = maxL ∧ s.vm.findClass own = some m.cls ∧ (∀ w ∈ ws, w.before args s = true) ∧ meth.locks = false
end ZR
/-- rooms: reading methods (k: how deep they call), throwing ones -/
def rmP (k : Nat) : Room := { frames := k, cells := 0, slots := 0, locals := 32 * k }
def rmX (k n : Nat) : Room := { frames := 6 + k, cells := n, slots := 6 * n, locals := 170 + 32 * k }
section MK
variable {l : Launch} {y : MethodName} {ws ws' : List Cond} {rm : Room} {cc : ByteArray} {maxL : Nat} {av : List Value} {B : State → Prop}
theorem mk_Si {post : Int32 → Prop} (hy : plainName y.cls = true) (hw : ws = Cond.code y cc maxL (some .int) :: ws') (hn : (lg_sl av).length ≤ maxL)
    (body : ∀ {p : Program} {e : Env} {s : State} {m : MethodId} {args : Array Value} {below : List Frame} {meth : Method} {c : Code} (Q : State → Prop), Cx p s m args meth c cc maxL (some .int) ws y.cls → B s →
      (∀ {v : Int32} {pc : Nat} {ls : Array Slot}, post v → decode cc pc = .ok (.ireturn, 1) → W p l e rm s m args below meth c s.heap [] 0 0 Q (F0 m pc ls [.int v])) →
      ∀ ls : Array Slot, lv_has ls maxL (lv_args 0 av) → W p l e rm s m args below meth c s.heap [] 0 0 Q (F0 m 0 ls [])) : Met l y ws rm (va_Pc av B) (vp_Si post) 0 0 (fun _ => False) := by
  refine Met.ofW (cc := cc) (maxL := maxL) (ret := some .int) hy hw ?_
  intro p e s m args below meth c s₁ X hml hv
  obtain ⟨rfl, hB⟩ := hv
  have hl := lv_entry av (n := maxL) hn
  rw [lg_entry_eq]
  generalize (lg_sl av ++ List.replicate (maxL - (lg_sl av).length) Slot.unset).toArray = ls at hl ⊢
  exact body _ ⟨X.exec, X.bytes, X.returns, hml, findClass_of_methodNamed X.named, atoms_spec (ws := ws) X.pre, X.notSynchronized⟩ hB (fun hp hd => W.iret X.exec X.bytes X.returns (fun t ht hW => ⟨_, rfl, hp, ht⟩) (fun q h => by cases h) hd X.notSynchronized) ls hl
theorem mk_Sl {post : Int64 → Prop} (hy : plainName y.cls = true) (hw : ws = Cond.code y cc maxL (some .long) :: ws') (hn : (lg_sl av).length ≤ maxL)
    (body : ∀ {p : Program} {e : Env} {s : State} {m : MethodId} {args : Array Value} {below : List Frame} {meth : Method} {c : Code} (Q : State → Prop), Cx p s m args meth c cc maxL (some .long) ws y.cls → B s →
      (∀ {v : Int64} {pc : Nat} {ls : Array Slot}, post v → decode cc pc = .ok (.lreturn, 1) → W p l e rm s m args below meth c s.heap [] 0 0 Q (F0 m pc ls [.long v])) →
      ∀ ls : Array Slot, lv_has ls maxL (lv_args 0 av) → W p l e rm s m args below meth c s.heap [] 0 0 Q (F0 m 0 ls [])) : Met l y ws rm (va_Pc av B) (vp_Sl post) 0 0 (fun _ => False) := by
  refine Met.ofW (cc := cc) (maxL := maxL) (ret := some .long) hy hw ?_
  intro p e s m args below meth c s₁ X hml hv
  obtain ⟨rfl, hB⟩ := hv
  have hl := lv_entry av (n := maxL) hn
  rw [lg_entry_eq]
  generalize (lg_sl av ++ List.replicate (maxL - (lg_sl av).length) Slot.unset).toArray = ls at hl ⊢
  exact body _ ⟨X.exec, X.bytes, X.returns, hml, findClass_of_methodNamed X.named, atoms_spec (ws := ws) X.pre, X.notSynchronized⟩ hB (fun hp hd => W.lret X.exec X.bytes X.returns (fun t ht hW => ⟨_, rfl, hp, ht⟩) (fun q h => by cases h) hd X.notSynchronized) ls hl
theorem mk_Sz {post : Bool → Prop} (hy : plainName y.cls = true) (hw : ws = Cond.code y cc maxL (some .boolean) :: ws') (hn : (lg_sl av).length ≤ maxL)
    (body : ∀ {p : Program} {e : Env} {s : State} {m : MethodId} {args : Array Value} {below : List Frame} {meth : Method} {c : Code} (Q : State → Prop), Cx p s m args meth c cc maxL (some .boolean) ws y.cls → B s →
      (∀ {v : Int32} {b : Bool} {pc : Nat} {ls : Array Slot}, post b → v = bB b → decode cc pc = .ok (.ireturn, 1) → W p l e rm s m args below meth c s.heap [] 0 0 Q (F0 m pc ls [.int v])) →
      ∀ ls : Array Slot, lv_has ls maxL (lv_args 0 av) → W p l e rm s m args below meth c s.heap [] 0 0 Q (F0 m 0 ls [])) : Met l y ws rm (va_Pc av B) (vp_Si (fun r => ∃ b : Bool, r = bB b ∧ post b)) 0 0 (fun _ => False) := by
  refine Met.ofW (cc := cc) (maxL := maxL) (ret := some .boolean) hy hw ?_
  intro p e s m args below meth c s₁ X hml hv
  obtain ⟨rfl, hB⟩ := hv
  have hl := lv_entry av (n := maxL) hn
  rw [lg_entry_eq]
  generalize (lg_sl av ++ List.replicate (maxL - (lg_sl av).length) Slot.unset).toArray = ls at hl ⊢
  exact body _ ⟨X.exec, X.bytes, X.returns, hml, findClass_of_methodNamed X.named, atoms_spec (ws := ws) X.pre, X.notSynchronized⟩ hB (fun {v b pc ls} hp hv hd => by
    subst hv
    exact W.zret X.exec X.bytes X.returns (bB_nar b) (fun t ht hW => ⟨_, rfl, ⟨b, rfl, hp⟩, ht⟩) (fun q h => by cases h) hd X.notSynchronized) ls hl
end MK
end
section
/-! calls, throws, and what a caller sees of them -/
abbrev eI : String := "java/lang/IndexOutOfBoundsException"
abbrev eA : String := "java/lang/IllegalArgumentException"
abbrev eS : String := "java/lang/IllegalStateException"
/-- what a throw needs of the machine: the statics of Throwable, which nobody of ours writes, the texts, the classes -/
def KX (sa : Nat → Nat) (Z : Nat → Prop) (U : State) : Prop :=
  vx_Zq Bundle.tN "UNASSIGNED_STACK" Bundle.steD Z U U.heap ∧ vx_Zq Bundle.tN "SUPPRESSED_SENTINEL" Bundle.listD Z U U.heap ∧ vk_R RX0 116 "no such number" (sa 0) U ∧ vk_R RX0 123 "out of its range" (sa 1) U ∧ vk_R RX0 128 "not allowed as things stand" (sa 2) U ∧ vk_R RX0 131 "both wells are the same" (sa 3) U ∧ va_Nw (.castable eI eI) U ∧ va_Nw (.castable eA eA) U ∧ va_Nw (.castable eS eS) U ∧ va_Nw (.declares (Bundle.initS "java/lang/RuntimeException")) U ∧ va_Nw (.declares (Bundle.initS "java/lang/Exception")) U ∧ va_Nw (.declares (Bundle.initS Bundle.tN)) U
theorem KX.at {sa : Nat → Nat} {Z : Nat → Prop} {s U : State} (h : KX sa Z s) (hh : ∀ a : Nat, a < s.heap.size → ¬ Z a → U.heap[a]? = s.heap[a]?) (hW : s.WarmedH U.vm) : KX sa Z U := by
  obtain ⟨h1, h2, h3, h4, h5, h6, h7, h8, h9, h10, h11, h12⟩ := h
  exact ⟨vx_Zq.moved hW.alike (h1.kept hh), vx_Zq.moved hW.alike (h2.kept hh), vk_R.warm hW h3, vk_R.warm hW h4, vk_R.warm hW h5, vk_R.warm hW h6, va_Nw.warmC hW h7, va_Nw.warmC hW h8, va_Nw.warmC hW h9, va_Nw.warmD hW h10, va_Nw.warmD hW h11, va_Nw.warmD hW h12⟩
theorem KX.same {sa : Nat → Nat} {Z : Nat → Prop} {s U : State} (h : KX sa Z s) (hh : U.heap = s.heap) (hv : U.vm = s.vm) : KX sa Z U := by
  refine h.at (fun a _ _ => by rw [hh]) ?_
  rw [hv]
  exact State.WarmedH.refl s
theorem blX {sa : Nat → Nat} {Z : Nat → Prop} {av : List Value} : FrameBlind (va_Pc av (KX sa Z)) := fun _ _ _ _ q => ⟨q.1, q.2.same rfl rfl⟩
theorem psX {sa : Nat → Nat} {Z : Nat → Prop} {s : State} {As : List Value} (h : KX sa Z s) : PreS s s.heap (va_Pc As (KX sa Z)) As :=
  ⟨blX, fun U hU hW => ⟨rfl, h.at (fun a _ _ => by rw [hU]) hW⟩⟩
theorem psN {s : State} {H : Heap} {As : List Value} : PreS s H (va_Pc As (fun _ => True)) As := ⟨fun _ _ _ _ q => ⟨q.1, trivial⟩, fun U hU hW => ⟨rfl, trivial⟩⟩
section PV
variable {D : va_G} {ad : Nat → Nat} {cI cJ cQ : ClassId} {M : Mdl} {ts : Nat → Nat} {pu : Nat → Int64} {th : Int32} {s : State} {H : Heap} {As av : List Value}
theorem bl0 : FrameBlind (va_Pc av (KP0 D ad cI cJ cQ M ts pu)) := fun a U g mk q => ⟨q.1, va_K.moved (u := U) (U := U.calling g mk a) (Vm.Alike.refl U.vm) q.2.1, q.2.2⟩
theorem bl1 : FrameBlind (va_Pc av (KP1 D ad cI M th)) := fun a U g mk q => ⟨q.1, va_K.moved (u := U) (U := U.calling g mk a) (Vm.Alike.refl U.vm) q.2.1, q.2.2⟩
theorem rc0 (hK : va_K D vwCl [(cI, .int), (cJ, .long), (cQ, .array .int)] s) (hP : va_P D vwCl (wz 27 ad (wcE ad cI cJ cQ M ts pu)) H) : ∃ cell : Cell, H[ad 0]? = some cell ∧ cell.vm.isStatics = false ∧ s.vm.findClass RX0 = some cell.cls := by
  have h := wz_at (ad := ad) (F := wcE ad cI cJ cQ M ts pu) (show 0 < 27 by decide)
  rw [show wcE ad cI cJ cQ M ts pu 0 = .inr (0, [.ref (ad 1), .ref (ad 2), .ref (ad 3), .ref (ad 4), .ref (ad 5), .ref (ad 6), .ref (ad 7), .ref (ad 8), .ref (ad 9), .ref (ad 10), .int (nI (M 0 0)), .int (nI (M 5 0))]) from rfl] at h
  exact va_recv hK hP (ci := 0) (q0 := 0) rfl h
theorem rc1 (hK : va_K D vwCl [(cI, .int)] s) (hP : va_P D vwCl (wz 9 ad (wmE ad cI M th)) H) : ∃ cell : Cell, H[ad 0]? = some cell ∧ cell.vm.isStatics = false ∧ s.vm.findClass RX1 = some cell.cls := by
  have h := wz_at (ad := ad) (F := wmE ad cI M th) (show 0 < 9 by decide)
  rw [show wmE ad cI M th 0 = .inr (1, [.int (nI (M 0 0)), .ref (ad 1), .ref (ad 2), .ref (ad 3), .ref (ad 4), .int (nI (M 5 0)), .ref (ad 5), .ref (ad 6), .ref (ad 7), .ref (ad 8), .int th]) from rfl] at h
  exact va_recv hK hP (ci := 1) (q0 := 0) rfl h
theorem pv0 (hK : va_K D vwCl [(cI, .int), (cJ, .long), (cQ, .array .int)] s) (hP : va_P D vwCl (wz 27 ad (wcE ad cI cJ cQ M ts pu)) H) : PreV s H RX0 (ad 0) (va_Pc (.ref (ad 0) :: As) (KP0 D ad cI cJ cQ M ts pu)) As :=
  ⟨bl0, rc0 hK hP, fun U hU hW => ⟨rfl, va_K.moved hW.alike hK, by rw [hU]; exact hP⟩⟩
theorem pv1 (hK : va_K D vwCl [(cI, .int)] s) (hP : va_P D vwCl (wz 9 ad (wmE ad cI M th)) H) : PreV s H RX1 (ad 0) (va_Pc (.ref (ad 0) :: As) (KP1 D ad cI M th)) As :=
  ⟨bl1, rc1 hK hP, fun U hU hW => ⟨rfl, va_K.moved hW.alike hK, by rw [hU]; exact hP⟩⟩
/-- a class method that may throw -/
def KP0X (D : va_G) (ad : Nat → Nat) (cI cJ cQ : ClassId) (M : Mdl) (ts : Nat → Nat) (pu : Nat → Int64) (sa : Nat → Nat) (Z : Nat → Prop) (sz : Nat) (U : State) : Prop := U.heap.size = sz ∧ KX sa Z U ∧ KP0 D ad cI cJ cQ M ts pu U
/-- a method of the reference that writes -/
def KP1S (D : va_G) (ad : Nat → Nat) (cI : ClassId) (M : Mdl) (th : Int32) (sz : Nat) (U : State) : Prop := U.heap.size = sz ∧ KP1 D ad cI M th U
variable {sa : Nat → Nat} {Z : Nat → Prop} {sz : Nat}
theorem bl0X : FrameBlind (va_Pc av (KP0X D ad cI cJ cQ M ts pu sa Z sz)) := fun a U g mk q => ⟨q.1, q.2.1, q.2.2.1.same rfl rfl, (bl0 (av := av) a U g mk ⟨q.1, q.2.2.2⟩).2⟩
theorem bl1S : FrameBlind (va_Pc av (KP1S D ad cI M th sz)) := fun a U g mk q => ⟨q.1, q.2.1, (bl1 (av := av) a U g mk ⟨q.1, q.2.2⟩).2⟩
theorem pv1S (hK : va_K D vwCl [(cI, .int)] s) (hP : va_P D vwCl (wz 9 ad (wmE ad cI M th)) H) : PreV s H RX1 (ad 0) (va_Pc (.ref (ad 0) :: As) (KP1S D ad cI M th H.size)) As :=
  ⟨bl1S, rc1 hK hP, fun U hU hW => ⟨rfl, by rw [hU], va_K.moved hW.alike hK, by rw [hU]; exact hP⟩⟩
theorem pv0X {s0 : Heap} (hK : va_K D vwCl [(cI, .int), (cJ, .long), (cQ, .array .int)] s) (hP : va_P D vwCl (wz 27 ad (wcE ad cI cJ cQ M ts pu)) H) (hX : KX sa Z s) (hh : ∀ a : Nat, a < s.heap.size → ¬ Z a → H[a]? = s.heap[a]?) : PreV s H RX0 (ad 0) (va_Pc (.ref (ad 0) :: As) (KP0X D ad cI cJ cQ M ts pu sa Z H.size)) As :=
  ⟨bl0X, rc0 hK hP, fun U hU hW => ⟨rfl, by rw [hU], hX.at (by rw [hU]; exact hh) hW, va_K.moved hW.alike hK, by rw [hU]; exact hP⟩⟩
end PV
/-- an exception of one of these classes has left; no old cell has changed -/
def XCE (P : String → Prop) : String → State → State → Prop := fun E st t => P E ∧ va_F (fun _ => False) st t
section ZX
variable {p : Program} {l : Launch} {e : Env} {R : Room} {s : State} {m : MethodId} {args : Array Value} {below : List Frame} {meth : Method} {c : Code} {H : Heap} {locs : List Loc} {cells slots : Nat} {Q : State → Prop}
variable {mc ms : Nat} {a : Array Value} {pc : Nat} {ls : Array Slot} {st0 rest : List Value} {P : String → Prop}
theorem zx_v {post : Unit → Prop} (hr : vx_Run p l e R s m args below meth c H locs cells slots mc ms (F0 m pc ls st0) rest (va_Sv post a) (XCE P) (fun _ => False))
    (kx : ∀ {E : String} {ce : Cell} {q9 : Addr} {H1 : Heap}, P E → H.size ≤ H1.size → (∀ q : Nat, q < H.size → H1[q]? = H[q]?) → H1[q9]? = some ce → ce.vm = .none → s.vm.findClass E = some ce.cls → vx_W p l e R s m args below meth c H1 locs (cells + mc) (slots + ms) Q (F0 m pc ls rest) q9)
    (kk : post () → W p l e R s m args below meth c H locs (cells + mc) (slots + ms) Q (F0 m (pc + 3) ls rest)) : W p l e R s m args below meth c H locs cells slots Q (F0 m pc ls st0) := by
  intro T hT X
  rcases hr T hT X with ⟨v, st₀, t, T', L, h0, X', hL, e1, e2, ⟨hv, hp, hh⟩, st⟩ | ⟨q, st₀, t, T', L, E, ce, h0, X', hL, e1, e2, ⟨hp, hF⟩, hce, hcv, hcl, st⟩
  · cases hv
    obtain ⟨t2, a1, b1⟩ := kk hp T' (by rw [e1, hh, h0]) (Stand.forget X' (fun q h => (hL q h).elim))
    exact ⟨t2, st t2 a1, b1⟩
  · obtain ⟨hz, hk⟩ := hF
    rw [h0] at hz hk
    obtain ⟨t2, a1, b1⟩ := kx hp (by rw [e1]; exact hz) (fun q h => by rw [e1]; exact hk q h (fun z => z)) (by rw [e1]; exact hce) hcv hcl T' rfl (Stand.forget X' (fun q h => (hL q h).elim))
    exact ⟨t2, st.trans a1, b1⟩
theorem zx_i {post : Int32 → Prop} (hr : vx_Run p l e R s m args below meth c H locs cells slots mc ms (F0 m pc ls st0) rest (vp_Si post a) (XCE P) (fun _ => False))
    (kx : ∀ {E : String} {ce : Cell} {q9 : Addr} {H1 : Heap}, P E → H.size ≤ H1.size → (∀ q : Nat, q < H.size → H1[q]? = H[q]?) → H1[q9]? = some ce → ce.vm = .none → s.vm.findClass E = some ce.cls → vx_W p l e R s m args below meth c H1 locs (cells + mc) (slots + ms) Q (F0 m pc ls rest) q9)
    (kk : ∀ r : Int32, post r → W p l e R s m args below meth c H locs (cells + mc) (slots + ms) Q (F0 m (pc + 3) ls (.int r :: rest))) : W p l e R s m args below meth c H locs cells slots Q (F0 m pc ls st0) := by
  intro T hT X
  rcases hr T hT X with ⟨v, st₀, t, T', L, h0, X', hL, e1, e2, ⟨r, hv, hp, hh⟩, st⟩ | ⟨q, st₀, t, T', L, E, ce, h0, X', hL, e1, e2, ⟨hp, hF⟩, hce, hcv, hcl, st⟩
  · cases hv
    obtain ⟨t2, a1, b1⟩ := kk r hp T' (by rw [e1, hh, h0]) (Stand.forget X' (fun q h => (hL q h).elim))
    exact ⟨t2, st t2 a1, b1⟩
  · obtain ⟨hz, hk⟩ := hF
    rw [h0] at hz hk
    obtain ⟨t2, a1, b1⟩ := kx hp (by rw [e1]; exact hz) (fun q h => by rw [e1]; exact hk q h (fun z => z)) (by rw [e1]; exact hce) hcv hcl T' rfl (Stand.forget X' (fun q h => (hL q h).elim))
    exact ⟨t2, st.trans a1, b1⟩
theorem zx_l {post : Int64 → Prop} (hr : vx_Run p l e R s m args below meth c H locs cells slots mc ms (F0 m pc ls st0) rest (vp_Sl post a) (XCE P) (fun _ => False))
    (kx : ∀ {E : String} {ce : Cell} {q9 : Addr} {H1 : Heap}, P E → H.size ≤ H1.size → (∀ q : Nat, q < H.size → H1[q]? = H[q]?) → H1[q9]? = some ce → ce.vm = .none → s.vm.findClass E = some ce.cls → vx_W p l e R s m args below meth c H1 locs (cells + mc) (slots + ms) Q (F0 m pc ls rest) q9)
    (kk : ∀ r : Int64, post r → W p l e R s m args below meth c H locs (cells + mc) (slots + ms) Q (F0 m (pc + 3) ls (.long r :: rest))) : W p l e R s m args below meth c H locs cells slots Q (F0 m pc ls st0) := by
  intro T hT X
  rcases hr T hT X with ⟨v, st₀, t, T', L, h0, X', hL, e1, e2, ⟨r, hv, hp, hh⟩, st⟩ | ⟨q, st₀, t, T', L, E, ce, h0, X', hL, e1, e2, ⟨hp, hF⟩, hce, hcv, hcl, st⟩
  · cases hv
    obtain ⟨t2, a1, b1⟩ := kk r hp T' (by rw [e1, hh, h0]) (Stand.forget X' (fun q h => (hL q h).elim))
    exact ⟨t2, st t2 a1, b1⟩
  · obtain ⟨hz, hk⟩ := hF
    rw [h0] at hz hk
    obtain ⟨t2, a1, b1⟩ := kx hp (by rw [e1]; exact hz) (fun q h => by rw [e1]; exact hk q h (fun z => z)) (by rw [e1]; exact hce) hcv hcl T' rfl (Stand.forget X' (fun q h => (hL q h).elim))
    exact ⟨t2, st.trans a1, b1⟩
end ZX
/-- an exception over the frame of a method without handlers that has written nothing: out it goes -/
abbrev Out0 (p : Program) (l : Launch) (e : Env) (R : Room) (s : State) (m : MethodId) (args : Array Value) (below : List Frame) (meth : Method) (c : Code) (Q : State → Prop) (P : String → Prop) (mc ms : Nat) : Prop :=
  ∀ {E : String} {ce : Cell} {q : Addr} {H1 : Heap} {pc cells slots : Nat} {ls : Array Slot} {rest : List Value}, cells ≤ mc → slots ≤ ms → P E → s.heap.size ≤ H1.size → (∀ q : Nat, q < s.heap.size → H1[q]? = s.heap[q]?) → H1[q]? = some ce → ce.vm = .none → s.vm.findClass E = some ce.cls → vx_W p l e R s m args below meth c H1 [] cells slots Q (F0 m pc ls rest) q
theorem out0 {p : Program} {l : Launch} {e : Env} {R : Room} {s : State} {m : MethodId} {args : Array Value} {below : List Frame} {meth : Method} {c : Code} {Qc : Array Value → State → Outcome → State → Prop} {P : String → Prop} {mc ms : Nat} {free : Addr → Prop} (ht : ∀ x ∈ c.exceptionTable.toList, False) (hlocks : meth.locks = false) : Out0 p l e R s m args below meth c (vx_MQ below Qc (XCE P) args s mc ms free) P mc ms := by
  intro E ce q H1 pc cells slots ls rest hc hs hp hz hk hcell hv hcl
  exact vx_out (fun x hx => (ht x hx).elim) hlocks hcell hv hcl (fun t hT hA => ⟨hp, by rw [hT]; exact hz, fun q h _ => by rw [hT]; exact hk q h⟩) (fun z h => by cases h) hc hs
section MKX
variable {l : Launch} {y : MethodName} {ws ws' : List Cond} {rm : Room} {cc : ByteArray} {maxL : Nat} {av : List Value} {B : State → Prop} {P : String → Prop} {mc ms : Nat}
/-- a throwing method that answers nothing, and writes nothing -/
theorem mkX_Sv {post : Unit → Prop} (hy : plainName y.cls = true) (hw : ws = Cond.code y cc maxL none :: ws') (hn : (lg_sl av).length ≤ maxL)
    (body : ∀ {p : Program} {e : Env} {s : State} {m : MethodId} {args : Array Value} {below : List Frame} {meth : Method} {c : Code}, Cx p s m args meth c cc maxL none ws y.cls → (∀ x ∈ c.exceptionTable.toList, False) → B s →
      (∀ {pc cells slots : Nat} {ls : Array Slot}, cells ≤ mc → slots ≤ ms → post () → decode cc pc = .ok (.return_, 1) → W p l e rm s m args below meth c s.heap [] cells slots (vx_MQ below (va_Sv post) (XCE P) args s mc ms (fun _ => False)) (F0 m pc ls [])) →
      ∀ ls : Array Slot, lv_has ls maxL (lv_args 0 av) → W p l e rm s m args below meth c s.heap [] 0 0 (vx_MQ below (va_Sv post) (XCE P) args s mc ms (fun _ => False)) (F0 m 0 ls [])) : vx_Met l y ws rm (va_Pc av B) (va_Sv post) (XCE P) mc ms (fun _ => False) := by
  refine vx_ofW (cc := cc) (maxL := maxL) (ret := none) hy hw ?_
  intro p e s m args below meth c s₁ X hml ht hv
  obtain ⟨rfl, hB⟩ := hv
  have hl := lv_entry av (n := maxL) hn
  rw [lg_entry_eq]
  generalize (lg_sl av ++ List.replicate (maxL - (lg_sl av).length) Slot.unset).toArray = ls at hl ⊢
  exact body ⟨X.exec, X.bytes, X.returns, hml, findClass_of_methodNamed X.named, atoms_spec (ws := ws) X.pre, X.notSynchronized⟩ ht hB (fun hc hs hp hd => vx_ret (W.widen hc hs (W.vret X.exec X.bytes X.returns (fun t ht hW => ⟨rfl, hp, ht⟩) (fun q h => by cases h) hd X.notSynchronized))) ls hl
theorem mkX_Si {post : Int32 → Prop} (hy : plainName y.cls = true) (hw : ws = Cond.code y cc maxL (some .int) :: ws') (hn : (lg_sl av).length ≤ maxL)
    (body : ∀ {p : Program} {e : Env} {s : State} {m : MethodId} {args : Array Value} {below : List Frame} {meth : Method} {c : Code} (Q : State → Prop), Cx p s m args meth c cc maxL (some .int) ws y.cls → B s → Out0 p l e rm s m args below meth c Q P mc ms →
      (∀ {v : Int32} {pc cells slots : Nat} {ls : Array Slot}, cells ≤ mc → slots ≤ ms → post v → decode cc pc = .ok (.ireturn, 1) → W p l e rm s m args below meth c s.heap [] cells slots Q (F0 m pc ls [.int v])) →
      ∀ ls : Array Slot, lv_has ls maxL (lv_args 0 av) → W p l e rm s m args below meth c s.heap [] 0 0 Q (F0 m 0 ls [])) : vx_Met l y ws rm (va_Pc av B) (vp_Si post) (XCE P) mc ms (fun _ => False) := by
  refine vx_ofW (cc := cc) (maxL := maxL) (ret := some .int) hy hw ?_
  intro p e s m args below meth c s₁ X hml ht hv
  obtain ⟨rfl, hB⟩ := hv
  have hl := lv_entry av (n := maxL) hn
  rw [lg_entry_eq]
  generalize (lg_sl av ++ List.replicate (maxL - (lg_sl av).length) Slot.unset).toArray = ls at hl ⊢
  exact body _ ⟨X.exec, X.bytes, X.returns, hml, findClass_of_methodNamed X.named, atoms_spec (ws := ws) X.pre, X.notSynchronized⟩ hB (out0 ht X.notSynchronized) (fun hc hs hp hd => vx_ret (W.widen hc hs (W.iret X.exec X.bytes X.returns (fun t ht hW => ⟨_, rfl, hp, ht⟩) (fun q h => by cases h) hd X.notSynchronized))) ls hl
theorem mkX_Sl {post : Int64 → Prop} (hy : plainName y.cls = true) (hw : ws = Cond.code y cc maxL (some .long) :: ws') (hn : (lg_sl av).length ≤ maxL)
    (body : ∀ {p : Program} {e : Env} {s : State} {m : MethodId} {args : Array Value} {below : List Frame} {meth : Method} {c : Code} (Q : State → Prop), Cx p s m args meth c cc maxL (some .long) ws y.cls → B s → Out0 p l e rm s m args below meth c Q P mc ms →
      (∀ {v : Int64} {pc cells slots : Nat} {ls : Array Slot}, cells ≤ mc → slots ≤ ms → post v → decode cc pc = .ok (.lreturn, 1) → W p l e rm s m args below meth c s.heap [] cells slots Q (F0 m pc ls [.long v])) →
      ∀ ls : Array Slot, lv_has ls maxL (lv_args 0 av) → W p l e rm s m args below meth c s.heap [] 0 0 Q (F0 m 0 ls [])) : vx_Met l y ws rm (va_Pc av B) (vp_Sl post) (XCE P) mc ms (fun _ => False) := by
  refine vx_ofW (cc := cc) (maxL := maxL) (ret := some .long) hy hw ?_
  intro p e s m args below meth c s₁ X hml ht hv
  obtain ⟨rfl, hB⟩ := hv
  have hl := lv_entry av (n := maxL) hn
  rw [lg_entry_eq]
  generalize (lg_sl av ++ List.replicate (maxL - (lg_sl av).length) Slot.unset).toArray = ls at hl ⊢
  exact body _ ⟨X.exec, X.bytes, X.returns, hml, findClass_of_methodNamed X.named, atoms_spec (ws := ws) X.pre, X.notSynchronized⟩ hB (out0 ht X.notSynchronized) (fun hc hs hp hd => vx_ret (W.widen hc hs (W.lret X.exec X.bytes X.returns (fun t ht hW => ⟨_, rfl, hp, ht⟩) (fun q h => by cases h) hd X.notSynchronized))) ls hl
/-- a throwing method that writes (behind its checks) in its own cells -/
theorem mkX_Qi {S : Type} {post : Int32 → S → Prop} {BQ : S → State → Prop} {A : Nat → Prop} (hy : plainName y.cls = true) (hw : ws = Cond.code y cc maxL (some .int) :: ws') (hn : (lg_sl av).length ≤ maxL)
    (body : ∀ {p : Program} {e : Env} {s : State} {m : MethodId} {args : Array Value} {below : List Frame} {meth : Method} {c : Code} (Q : State → Prop), Cx p s m args meth c cc maxL (some .int) ws y.cls → B s → Out0 p l e rm s m args below meth c Q P mc ms →
      (∀ {v : Int32} {u : S} {H : Heap} {locs : List Loc} {pc cells slots : Nat} {ls : Array Slot}, cells ≤ mc → slots ≤ ms → post v u → va_S A s.heap H locs → (∀ t : State, t.heap = H → s.vm.Alike t.vm → BQ u t) → decode cc pc = .ok (.ireturn, 1) → W p l e rm s m args below meth c H locs cells slots Q (F0 m pc ls [.int v])) →
      ∀ ls : Array Slot, lv_has ls maxL (lv_args 0 av) → W p l e rm s m args below meth c s.heap [] 0 0 Q (F0 m 0 ls [])) : vx_Met l y ws rm (va_Pc av B) (va_Qi post BQ A) (XCE P) mc ms A := by
  refine vx_ofW (cc := cc) (maxL := maxL) (ret := some .int) hy hw ?_
  intro p e s m args below meth c s₁ X hml ht hv
  obtain ⟨rfl, hB⟩ := hv
  have hl := lv_entry av (n := maxL) hn
  rw [lg_entry_eq]
  generalize (lg_sl av ++ List.replicate (maxL - (lg_sl av).length) Slot.unset).toArray = ls at hl ⊢
  exact body _ ⟨X.exec, X.bytes, X.returns, hml, findClass_of_methodNamed X.named, atoms_spec (ws := ws) X.pre, X.notSynchronized⟩ hB (out0 ht X.notSynchronized) (fun hc hs hp hS hq hd => vx_ret (W.widen hc hs (W.iret X.exec X.bytes X.returns (fun t ht hW => ⟨⟨_, _, rfl, hp, hq t ht hW.alike⟩, hS.F ht⟩) hS.2.2 hd X.notSynchronized))) ls hl
theorem mkX_Ql {S : Type} {post : Int64 → S → Prop} {BQ : S → State → Prop} {A : Nat → Prop} (hy : plainName y.cls = true) (hw : ws = Cond.code y cc maxL (some .long) :: ws') (hn : (lg_sl av).length ≤ maxL)
    (body : ∀ {p : Program} {e : Env} {s : State} {m : MethodId} {args : Array Value} {below : List Frame} {meth : Method} {c : Code} (Q : State → Prop), Cx p s m args meth c cc maxL (some .long) ws y.cls → B s → Out0 p l e rm s m args below meth c Q P mc ms →
      (∀ {v : Int64} {u : S} {H : Heap} {locs : List Loc} {pc cells slots : Nat} {ls : Array Slot}, cells ≤ mc → slots ≤ ms → post v u → va_S A s.heap H locs → (∀ t : State, t.heap = H → s.vm.Alike t.vm → BQ u t) → decode cc pc = .ok (.lreturn, 1) → W p l e rm s m args below meth c H locs cells slots Q (F0 m pc ls [.long v])) →
      ∀ ls : Array Slot, lv_has ls maxL (lv_args 0 av) → W p l e rm s m args below meth c s.heap [] 0 0 Q (F0 m 0 ls [])) : vx_Met l y ws rm (va_Pc av B) (va_Ql post BQ A) (XCE P) mc ms A := by
  refine vx_ofW (cc := cc) (maxL := maxL) (ret := some .long) hy hw ?_
  intro p e s m args below meth c s₁ X hml ht hv
  obtain ⟨rfl, hB⟩ := hv
  have hl := lv_entry av (n := maxL) hn
  rw [lg_entry_eq]
  generalize (lg_sl av ++ List.replicate (maxL - (lg_sl av).length) Slot.unset).toArray = ls at hl ⊢
  exact body _ ⟨X.exec, X.bytes, X.returns, hml, findClass_of_methodNamed X.named, atoms_spec (ws := ws) X.pre, X.notSynchronized⟩ hB (out0 ht X.notSynchronized) (fun hc hs hp hS hq hd => vx_ret (W.widen hc hs (W.lret X.exec X.bytes X.returns (fun t ht hW => ⟨⟨_, _, rfl, hp, hq t ht hW.alike⟩, hS.F ht⟩) hS.2.2 hd X.notSynchronized))) ls hl
/-- methods that write in their own cells and throw nothing -/
theorem mk_Qi {S : Type} {post : Int32 → S → Prop} {BQ : S → State → Prop} {A : Nat → Prop} (hy : plainName y.cls = true) (hw : ws = Cond.code y cc maxL (some .int) :: ws') (hn : (lg_sl av).length ≤ maxL)
    (body : ∀ {p : Program} {e : Env} {s : State} {m : MethodId} {args : Array Value} {below : List Frame} {meth : Method} {c : Code} (Q : State → Prop), Cx p s m args meth c cc maxL (some .int) ws y.cls → B s →
      (∀ {v : Int32} {u : S} {H : Heap} {locs : List Loc} {pc : Nat} {ls : Array Slot}, post v u → va_S A s.heap H locs → (∀ t : State, t.heap = H → s.vm.Alike t.vm → BQ u t) → decode cc pc = .ok (.ireturn, 1) → W p l e rm s m args below meth c H locs 0 0 Q (F0 m pc ls [.int v])) →
      ∀ ls : Array Slot, lv_has ls maxL (lv_args 0 av) → W p l e rm s m args below meth c s.heap [] 0 0 Q (F0 m 0 ls [])) : Met l y ws rm (va_Pc av B) (va_Qi post BQ A) 0 0 A := by
  refine Met.ofW (cc := cc) (maxL := maxL) (ret := some .int) hy hw ?_
  intro p e s m args below meth c s₁ X hml hv
  obtain ⟨rfl, hB⟩ := hv
  have hl := lv_entry av (n := maxL) hn
  rw [lg_entry_eq]
  generalize (lg_sl av ++ List.replicate (maxL - (lg_sl av).length) Slot.unset).toArray = ls at hl ⊢
  exact body _ ⟨X.exec, X.bytes, X.returns, hml, findClass_of_methodNamed X.named, atoms_spec (ws := ws) X.pre, X.notSynchronized⟩ hB (fun hp hS hq hd => W.iret X.exec X.bytes X.returns (fun t ht hW => ⟨⟨_, _, rfl, hp, hq t ht hW.alike⟩, hS.F ht⟩) hS.2.2 hd X.notSynchronized) ls hl
theorem mk_Ql {S : Type} {post : Int64 → S → Prop} {BQ : S → State → Prop} {A : Nat → Prop} (hy : plainName y.cls = true) (hw : ws = Cond.code y cc maxL (some .long) :: ws') (hn : (lg_sl av).length ≤ maxL)
    (body : ∀ {p : Program} {e : Env} {s : State} {m : MethodId} {args : Array Value} {below : List Frame} {meth : Method} {c : Code} (Q : State → Prop), Cx p s m args meth c cc maxL (some .long) ws y.cls → B s →
      (∀ {v : Int64} {u : S} {H : Heap} {locs : List Loc} {pc : Nat} {ls : Array Slot}, post v u → va_S A s.heap H locs → (∀ t : State, t.heap = H → s.vm.Alike t.vm → BQ u t) → decode cc pc = .ok (.lreturn, 1) → W p l e rm s m args below meth c H locs 0 0 Q (F0 m pc ls [.long v])) →
      ∀ ls : Array Slot, lv_has ls maxL (lv_args 0 av) → W p l e rm s m args below meth c s.heap [] 0 0 Q (F0 m 0 ls [])) : Met l y ws rm (va_Pc av B) (va_Ql post BQ A) 0 0 A := by
  refine Met.ofW (cc := cc) (maxL := maxL) (ret := some .long) hy hw ?_
  intro p e s m args below meth c s₁ X hml hv
  obtain ⟨rfl, hB⟩ := hv
  have hl := lv_entry av (n := maxL) hn
  rw [lg_entry_eq]
  generalize (lg_sl av ++ List.replicate (maxL - (lg_sl av).length) Slot.unset).toArray = ls at hl ⊢
  exact body _ ⟨X.exec, X.bytes, X.returns, hml, findClass_of_methodNamed X.named, atoms_spec (ws := ws) X.pre, X.notSynchronized⟩ hB (fun hp hS hq hd => W.lret X.exec X.bytes X.returns (fun t ht hW => ⟨⟨_, _, rfl, hp, hq t ht hW.alike⟩, hS.F ht⟩) hS.2.2 hd X.notSynchronized) ls hl
theorem mk_Qz {S : Type} {post : Bool → S → Prop} {BQ : S → State → Prop} {A : Nat → Prop} (hy : plainName y.cls = true) (hw : ws = Cond.code y cc maxL (some .boolean) :: ws') (hn : (lg_sl av).length ≤ maxL)
    (body : ∀ {p : Program} {e : Env} {s : State} {m : MethodId} {args : Array Value} {below : List Frame} {meth : Method} {c : Code} (Q : State → Prop), Cx p s m args meth c cc maxL (some .boolean) ws y.cls → B s →
      (∀ {v : Int32} {b : Bool} {u : S} {H : Heap} {locs : List Loc} {pc : Nat} {ls : Array Slot}, post b u → v = bB b → va_S A s.heap H locs → (∀ t : State, t.heap = H → s.vm.Alike t.vm → BQ u t) → decode cc pc = .ok (.ireturn, 1) → W p l e rm s m args below meth c H locs 0 0 Q (F0 m pc ls [.int v])) →
      ∀ ls : Array Slot, lv_has ls maxL (lv_args 0 av) → W p l e rm s m args below meth c s.heap [] 0 0 Q (F0 m 0 ls [])) : Met l y ws rm (va_Pc av B) (va_Qi (fun r u => ∃ b : Bool, r = bB b ∧ post b u) BQ A) 0 0 A := by
  refine Met.ofW (cc := cc) (maxL := maxL) (ret := some .boolean) hy hw ?_
  intro p e s m args below meth c s₁ X hml hv
  obtain ⟨rfl, hB⟩ := hv
  have hl := lv_entry av (n := maxL) hn
  rw [lg_entry_eq]
  generalize (lg_sl av ++ List.replicate (maxL - (lg_sl av).length) Slot.unset).toArray = ls at hl ⊢
  exact body _ ⟨X.exec, X.bytes, X.returns, hml, findClass_of_methodNamed X.named, atoms_spec (ws := ws) X.pre, X.notSynchronized⟩ hB (fun {v b u H locs pc ls} hp hv hS hq hd => by
    subst hv
    exact W.zret X.exec X.bytes X.returns (bB_nar b) (fun t ht hW => ⟨⟨_, u, rfl, ⟨b, rfl, hp⟩, hq t ht hW.alike⟩, hS.F ht⟩) hS.2.2 hd X.notSynchronized) ls hl
theorem mk_Qv {S : Type} {post : S → Prop} {BQ : S → State → Prop} {A : Nat → Prop} (hy : plainName y.cls = true) (hw : ws = Cond.code y cc maxL none :: ws') (hn : (lg_sl av).length ≤ maxL)
    (body : ∀ {p : Program} {e : Env} {s : State} {m : MethodId} {args : Array Value} {below : List Frame} {meth : Method} {c : Code} (Q : State → Prop), Cx p s m args meth c cc maxL none ws y.cls → B s →
      (∀ {u : S} {H : Heap} {locs : List Loc} {pc : Nat} {ls : Array Slot}, post u → va_S A s.heap H locs → (∀ t : State, t.heap = H → s.vm.Alike t.vm → BQ u t) → decode cc pc = .ok (.return_, 1) → W p l e rm s m args below meth c H locs 0 0 Q (F0 m pc ls [])) →
      ∀ ls : Array Slot, lv_has ls maxL (lv_args 0 av) → W p l e rm s m args below meth c s.heap [] 0 0 Q (F0 m 0 ls [])) : Met l y ws rm (va_Pc av B) (va_Qv post BQ A) 0 0 A := by
  refine Met.ofW (cc := cc) (maxL := maxL) (ret := none) hy hw ?_
  intro p e s m args below meth c s₁ X hml hv
  obtain ⟨rfl, hB⟩ := hv
  have hl := lv_entry av (n := maxL) hn
  rw [lg_entry_eq]
  generalize (lg_sl av ++ List.replicate (maxL - (lg_sl av).length) Slot.unset).toArray = ls at hl ⊢
  exact body _ ⟨X.exec, X.bytes, X.returns, hml, findClass_of_methodNamed X.named, atoms_spec (ws := ws) X.pre, X.notSynchronized⟩ hB (fun hp hS hq hd => W.vret X.exec X.bytes X.returns (fun t ht hW => ⟨⟨_, rfl, hp, hq t ht hW.alike⟩, hS.F ht⟩) hS.2.2 hd X.notSynchronized) ls hl
end MKX
end
section
/-! what a store makes of the picture -/
section ST
variable {ad : Nat → Nat} {cI cJ cQ : ClassId} {M : Mdl} {ts : Nat → Nat} {pu : Nat → Int64} {th : Int32} {i x : Nat}
theorem wcS_nw : ∀ j, j < 27 → va_up (wcE ad cI cJ cQ M ts pu) 0 (.inr (0, ([.ref (ad 1), .ref (ad 2), .ref (ad 3), .ref (ad 4), .ref (ad 5), .ref (ad 6), .ref (ad 7), .ref (ad 8), .ref (ad 9), .ref (ad 10), .int (nI (M 0 0)), .int (nI (M 5 0))] : List Value).set 10 (.int (nI x)))) j = wcE ad cI cJ cQ (mup M 0 0 x) ts pu j := by
  intro j _
  have hA : ∀ a b, mup M 0 0 x (10 + 3 * a) b = M (10 + 3 * a) b := fun a b => mup_k (by omega)
  have hB : ∀ a b, mup M 0 0 x (11 + 3 * a) b = M (11 + 3 * a) b := fun a b => mup_k (by omega)
  have hC : ∀ a b, mup M 0 0 x (12 + 3 * a) b = M (12 + 3 * a) b := fun a b => mup_k (by omega)
  by_cases hj : j = 0
  · subst hj; simp [va_up, wcE, mup]
  · simp [va_up, wcE, hj, hA, hB, hC, mup_k]
theorem wcS_nv : ∀ j, j < 27 → va_up (wcE ad cI cJ cQ M ts pu) 0 (.inr (0, ([.ref (ad 1), .ref (ad 2), .ref (ad 3), .ref (ad 4), .ref (ad 5), .ref (ad 6), .ref (ad 7), .ref (ad 8), .ref (ad 9), .ref (ad 10), .int (nI (M 0 0)), .int (nI (M 5 0))] : List Value).set 11 (.int (nI x)))) j = wcE ad cI cJ cQ (mup M 5 0 x) ts pu j := by
  intro j _
  have hA : ∀ a b, mup M 5 0 x (10 + 3 * a) b = M (10 + 3 * a) b := fun a b => mup_k (by omega)
  have hB : ∀ a b, mup M 5 0 x (11 + 3 * a) b = M (11 + 3 * a) b := fun a b => mup_k (by omega)
  have hC : ∀ a b, mup M 5 0 x (12 + 3 * a) b = M (12 + 3 * a) b := fun a b => mup_k (by omega)
  by_cases hj : j = 0
  · subst hj; simp [va_up, wcE, mup]
  · simp [va_up, wcE, hj, hA, hB, hC, mup_k]
theorem nI_mup {f : Nat} : upd (fun i => nI (M f i)) i (nI x) = fun j => nI (mup M f i x f j) := by
  funext j
  by_cases h : j = i
  · simp [upd, mup, h]
  · simp [upd, mup, h]
theorem wcS_pl : ∀ j, j < 27 → va_up (wcE ad cI cJ cQ M ts pu) 1 (.inl (cI, 8, .inl (upd (fun i => nI (M 1 i)) i (nI x)))) j = wcE ad cI cJ cQ (mup M 1 i x) ts pu j := by
  intro j _
  have hA : ∀ a b, mup M 1 i x (10 + 3 * a) b = M (10 + 3 * a) b := fun a b => mup_k (by omega)
  have hB : ∀ a b, mup M 1 i x (11 + 3 * a) b = M (11 + 3 * a) b := fun a b => mup_k (by omega)
  have hC : ∀ a b, mup M 1 i x (12 + 3 * a) b = M (12 + 3 * a) b := fun a b => mup_k (by omega)
  rw [nI_mup]
  by_cases hj : j = 1
  · subst hj; simp [va_up, wcE]
  · simp [va_up, wcE, hj, hA, hB, hC, mup_k]
theorem wcS_zo : ∀ j, j < 27 → va_up (wcE ad cI cJ cQ M ts pu) 2 (.inl (cI, 8, .inl (upd (fun i => nI (M 2 i)) i (nI x)))) j = wcE ad cI cJ cQ (mup M 2 i x) ts pu j := by
  intro j _
  have hA : ∀ a b, mup M 2 i x (10 + 3 * a) b = M (10 + 3 * a) b := fun a b => mup_k (by omega)
  have hB : ∀ a b, mup M 2 i x (11 + 3 * a) b = M (11 + 3 * a) b := fun a b => mup_k (by omega)
  have hC : ∀ a b, mup M 2 i x (12 + 3 * a) b = M (12 + 3 * a) b := fun a b => mup_k (by omega)
  rw [nI_mup]
  by_cases hj : j = 2
  · subst hj; simp [va_up, wcE]
  · simp [va_up, wcE, hj, hA, hB, hC, mup_k]
theorem wcS_li : ∀ j, j < 27 → va_up (wcE ad cI cJ cQ M ts pu) 3 (.inl (cI, 8, .inl (upd (fun i => nI (M 3 i)) i (nI x)))) j = wcE ad cI cJ cQ (mup M 3 i x) ts pu j := by
  intro j _
  have hA : ∀ a b, mup M 3 i x (10 + 3 * a) b = M (10 + 3 * a) b := fun a b => mup_k (by omega)
  have hB : ∀ a b, mup M 3 i x (11 + 3 * a) b = M (11 + 3 * a) b := fun a b => mup_k (by omega)
  have hC : ∀ a b, mup M 3 i x (12 + 3 * a) b = M (12 + 3 * a) b := fun a b => mup_k (by omega)
  rw [nI_mup]
  by_cases hj : j = 3
  · subst hj; simp [va_up, wcE]
  · simp [va_up, wcE, hj, hA, hB, hC, mup_k]
theorem wcS_sp : ∀ j, j < 27 → va_up (wcE ad cI cJ cQ M ts pu) 5 (.inl (cI, 4, .inl (upd (fun i => nI (M 6 i)) i (nI x)))) j = wcE ad cI cJ cQ (mup M 6 i x) ts pu j := by
  intro j _
  have hA : ∀ a b, mup M 6 i x (10 + 3 * a) b = M (10 + 3 * a) b := fun a b => mup_k (by omega)
  have hB : ∀ a b, mup M 6 i x (11 + 3 * a) b = M (11 + 3 * a) b := fun a b => mup_k (by omega)
  have hC : ∀ a b, mup M 6 i x (12 + 3 * a) b = M (12 + 3 * a) b := fun a b => mup_k (by omega)
  rw [nI_mup]
  by_cases hj : j = 5
  · subst hj; simp [va_up, wcE]
  · simp [va_up, wcE, hj, hA, hB, hC, mup_k]
theorem wcS_lm : ∀ j, j < 27 → va_up (wcE ad cI cJ cQ M ts pu) 6 (.inl (cI, 4, .inl (upd (fun i => nI (M 7 i)) i (nI x)))) j = wcE ad cI cJ cQ (mup M 7 i x) ts pu j := by
  intro j _
  have hA : ∀ a b, mup M 7 i x (10 + 3 * a) b = M (10 + 3 * a) b := fun a b => mup_k (by omega)
  have hB : ∀ a b, mup M 7 i x (11 + 3 * a) b = M (11 + 3 * a) b := fun a b => mup_k (by omega)
  have hC : ∀ a b, mup M 7 i x (12 + 3 * a) b = M (12 + 3 * a) b := fun a b => mup_k (by omega)
  rw [nI_mup]
  by_cases hj : j = 6
  · subst hj; simp [va_up, wcE]
  · simp [va_up, wcE, hj, hA, hB, hC, mup_k]
def nup (f : Nat → Nat) (i x : Nat) : Nat → Nat := fun j => if j = i then x else f j
theorem wcS_ts : ∀ j, j < 27 → va_up (wcE ad cI cJ cQ M ts pu) 8 (.inl (cI, 5, .inl (upd (fun i => nI (ts i)) i (nI x)))) j = wcE ad cI cJ cQ M (nup ts i x) pu j := by
  intro j _
  have e : upd (fun i => nI (ts i)) i (nI x) = fun j => nI (nup ts i x j) := by
    funext j
    by_cases h : j = i
    · simp [upd, nup, h]
    · simp [upd, nup, h]
  rw [e]
  by_cases hj : j = 8
  · subst hj; simp [va_up, wcE]
  · simp [va_up, wcE, hj]
theorem wcS_pu {v : Int64} : ∀ j, j < 27 → va_up (wcE ad cI cJ cQ M ts pu) 10 (.inl (cJ, 36, .inr (.inl (vp_updL pu i v)))) j = wcE ad cI cJ cQ M ts (vp_updL pu i v) j := by
  intro j _
  by_cases hj : j = 10
  · subst hj; simp [va_up, wcE]
  · simp [va_up, wcE, hj]
theorem wcS_un {w : Nat} (hw : w < 8) : ∀ j, j < 27 → va_up (wcE ad cI cJ cQ M ts pu) (11 + w) (.inl (cI, 36, .inl (upd (fun j => nI (M (10 + 3 * w) j)) i (nI x)))) j = wcE ad cI cJ cQ (mup M (10 + 3 * w) i x) ts pu j := by
  intro j hj27
  rw [nI_mup]
  by_cases hj : j = 11 + w
  · subst hj
    rw [wcE_pump hw]
    simp [va_up]
  · have h1 : va_up (wcE ad cI cJ cQ M ts pu) (11 + w) (.inl (cI, 36, .inl (fun j => nI (mup M (10 + 3 * w) i x (10 + 3 * w) j)))) j = wcE ad cI cJ cQ M ts pu j := by simp [va_up, hj]
    rw [h1]
    have h2 : ∀ a b, a < 10 → mup M (10 + 3 * w) i x a b = M a b := fun a b h => mup_k (by omega)
    have h3 : ∀ a b, a ≠ 10 + 3 * w → mup M (10 + 3 * w) i x a b = M a b := fun a b h => mup_k h
    rcases Nat.lt_or_ge j 11 with q | q
    · rcases (show j = 0 ∨ j = 1 ∨ j = 2 ∨ j = 3 ∨ j = 4 ∨ j = 5 ∨ j = 6 ∨ j = 7 ∨ j = 8 ∨ j = 9 ∨ j = 10 by omega) with h | h | h | h | h | h | h | h | h | h | h <;> subst h <;> simp [wcE, h2]
    · rcases Nat.lt_or_ge j 19 with q2 | q2
      · obtain ⟨k, rfl⟩ : ∃ k, j = 11 + k := ⟨j - 11, by omega⟩
        rw [wcE_pump (by omega), wcE_pump (by omega)]
        simp only [h3 (10 + 3 * k) _ (by omega)]
      · rcases Nat.lt_or_ge j 24 with q3 | q3
        · obtain ⟨k, rfl⟩ : ∃ k, j = 19 + k := ⟨j - 19, by omega⟩
          rw [wcE_tab (by omega), wcE_tab (by omega)]
          simp only [h3 (11 + 3 * k) _ (by omega)]
        · obtain ⟨k, rfl⟩ : ∃ k, j = 24 + k := ⟨j - 24, by omega⟩
          rw [wcE_rat (by omega), wcE_rat (by omega)]
          simp only [h3 (12 + 3 * k) _ (by omega)]
theorem wcS_tb {w : Nat} (hw : w < 5) : ∀ j, j < 27 → va_up (wcE ad cI cJ cQ M ts pu) (19 + w) (.inl (cI, 12, .inl (upd (fun j => nI (M (11 + 3 * w) j)) i (nI x)))) j = wcE ad cI cJ cQ (mup M (11 + 3 * w) i x) ts pu j := by
  intro j hj27
  rw [nI_mup]
  by_cases hj : j = 19 + w
  · subst hj
    rw [wcE_tab hw]
    simp [va_up]
  · have h1 : va_up (wcE ad cI cJ cQ M ts pu) (19 + w) (.inl (cI, 12, .inl (fun j => nI (mup M (11 + 3 * w) i x (11 + 3 * w) j)))) j = wcE ad cI cJ cQ M ts pu j := by simp [va_up, hj]
    rw [h1]
    have h2 : ∀ a b, a < 10 → mup M (11 + 3 * w) i x a b = M a b := fun a b h => mup_k (by omega)
    have h3 : ∀ a b, a ≠ 11 + 3 * w → mup M (11 + 3 * w) i x a b = M a b := fun a b h => mup_k h
    rcases Nat.lt_or_ge j 11 with q | q
    · rcases (show j = 0 ∨ j = 1 ∨ j = 2 ∨ j = 3 ∨ j = 4 ∨ j = 5 ∨ j = 6 ∨ j = 7 ∨ j = 8 ∨ j = 9 ∨ j = 10 by omega) with h | h | h | h | h | h | h | h | h | h | h <;> subst h <;> simp [wcE, h2]
    · rcases Nat.lt_or_ge j 19 with q2 | q2
      · obtain ⟨k, rfl⟩ : ∃ k, j = 11 + k := ⟨j - 11, by omega⟩
        rw [wcE_pump (by omega), wcE_pump (by omega)]
        simp only [h3 (10 + 3 * k) _ (by omega)]
      · rcases Nat.lt_or_ge j 24 with q3 | q3
        · obtain ⟨k, rfl⟩ : ∃ k, j = 19 + k := ⟨j - 19, by omega⟩
          rw [wcE_tab (by omega), wcE_tab (by omega)]
          simp only [h3 (11 + 3 * k) _ (by omega)]
        · obtain ⟨k, rfl⟩ : ∃ k, j = 24 + k := ⟨j - 24, by omega⟩
          rw [wcE_rat (by omega), wcE_rat (by omega)]
          simp only [h3 (12 + 3 * k) _ (by omega)]
theorem wcS_ra {w : Nat} (hw : w < 3) : ∀ j, j < 27 → va_up (wcE ad cI cJ cQ M ts pu) (24 + w) (.inl (cI, 3, .inl (upd (fun j => nI (M (12 + 3 * w) j)) i (nI x)))) j = wcE ad cI cJ cQ (mup M (12 + 3 * w) i x) ts pu j := by
  intro j hj27
  rw [nI_mup]
  by_cases hj : j = 24 + w
  · subst hj
    rw [wcE_rat hw]
    simp [va_up]
  · have h1 : va_up (wcE ad cI cJ cQ M ts pu) (24 + w) (.inl (cI, 3, .inl (fun j => nI (mup M (12 + 3 * w) i x (12 + 3 * w) j)))) j = wcE ad cI cJ cQ M ts pu j := by simp [va_up, hj]
    rw [h1]
    have h2 : ∀ a b, a < 10 → mup M (12 + 3 * w) i x a b = M a b := fun a b h => mup_k (by omega)
    have h3 : ∀ a b, a ≠ 12 + 3 * w → mup M (12 + 3 * w) i x a b = M a b := fun a b h => mup_k h
    rcases Nat.lt_or_ge j 11 with q | q
    · rcases (show j = 0 ∨ j = 1 ∨ j = 2 ∨ j = 3 ∨ j = 4 ∨ j = 5 ∨ j = 6 ∨ j = 7 ∨ j = 8 ∨ j = 9 ∨ j = 10 by omega) with h | h | h | h | h | h | h | h | h | h | h <;> subst h <;> simp [wcE, h2]
    · rcases Nat.lt_or_ge j 19 with q2 | q2
      · obtain ⟨k, rfl⟩ : ∃ k, j = 11 + k := ⟨j - 11, by omega⟩
        rw [wcE_pump (by omega), wcE_pump (by omega)]
        simp only [h3 (10 + 3 * k) _ (by omega)]
      · rcases Nat.lt_or_ge j 24 with q3 | q3
        · obtain ⟨k, rfl⟩ : ∃ k, j = 19 + k := ⟨j - 19, by omega⟩
          rw [wcE_tab (by omega), wcE_tab (by omega)]
          simp only [h3 (11 + 3 * k) _ (by omega)]
        · obtain ⟨k, rfl⟩ : ∃ k, j = 24 + k := ⟨j - 24, by omega⟩
          rw [wcE_rat (by omega), wcE_rat (by omega)]
          simp only [h3 (12 + 3 * k) _ (by omega)]
/-! the reference's -/
theorem wmS_nw : ∀ j, j < 9 → va_up (wmE ad cI M th) 0 (.inr (1, ([.int (nI (M 0 0)), .ref (ad 1), .ref (ad 2), .ref (ad 3), .ref (ad 4), .int (nI (M 5 0)), .ref (ad 5), .ref (ad 6), .ref (ad 7), .ref (ad 8), .int th] : List Value).set 0 (.int (nI x)))) j = wmE ad cI (mup M 0 0 x) th j := by
  intro j _
  have hA : ∀ a b, mup M 0 0 x (10 + 3 * a) b = M (10 + 3 * a) b := fun a b => mup_k (by omega)
  have hB : ∀ a b, mup M 0 0 x (11 + 3 * a) b = M (11 + 3 * a) b := fun a b => mup_k (by omega)
  have hC : ∀ a b, mup M 0 0 x (12 + 3 * a) b = M (12 + 3 * a) b := fun a b => mup_k (by omega)
  by_cases hj : j = 0
  · subst hj; simp [va_up, wmE, mup]
  · simp [va_up, wmE, hj, hA, hB, hC, mup_k]
theorem wmS_nv : ∀ j, j < 9 → va_up (wmE ad cI M th) 0 (.inr (1, ([.int (nI (M 0 0)), .ref (ad 1), .ref (ad 2), .ref (ad 3), .ref (ad 4), .int (nI (M 5 0)), .ref (ad 5), .ref (ad 6), .ref (ad 7), .ref (ad 8), .int th] : List Value).set 5 (.int (nI x)))) j = wmE ad cI (mup M 5 0 x) th j := by
  intro j _
  have hA : ∀ a b, mup M 5 0 x (10 + 3 * a) b = M (10 + 3 * a) b := fun a b => mup_k (by omega)
  have hB : ∀ a b, mup M 5 0 x (11 + 3 * a) b = M (11 + 3 * a) b := fun a b => mup_k (by omega)
  have hC : ∀ a b, mup M 5 0 x (12 + 3 * a) b = M (12 + 3 * a) b := fun a b => mup_k (by omega)
  by_cases hj : j = 0
  · subst hj; simp [va_up, wmE, mup]
  · simp [va_up, wmE, hj, hA, hB, hC, mup_k]
theorem wmS_th {v : Int32} : ∀ j, j < 9 → va_up (wmE ad cI M th) 0 (.inr (1, ([.int (nI (M 0 0)), .ref (ad 1), .ref (ad 2), .ref (ad 3), .ref (ad 4), .int (nI (M 5 0)), .ref (ad 5), .ref (ad 6), .ref (ad 7), .ref (ad 8), .int th] : List Value).set 10 (.int v))) j = wmE ad cI M v j := by
  intro j _
  by_cases hj : j = 0
  · subst hj; simp [va_up, wmE]
  · simp [va_up, wmE, hj]
theorem wmS_pl : ∀ j, j < 9 → va_up (wmE ad cI M th) 1 (.inl (cI, 8, .inl (upd (fun i => nI (M 1 i)) i (nI x)))) j = wmE ad cI (mup M 1 i x) th j := by
  intro j _
  have hA : ∀ a b, mup M 1 i x (10 + 3 * a) b = M (10 + 3 * a) b := fun a b => mup_k (by omega)
  have hB : ∀ a b, mup M 1 i x (11 + 3 * a) b = M (11 + 3 * a) b := fun a b => mup_k (by omega)
  have hC : ∀ a b, mup M 1 i x (12 + 3 * a) b = M (12 + 3 * a) b := fun a b => mup_k (by omega)
  rw [nI_mup]
  by_cases hj : j = 1
  · subst hj; simp [va_up, wmE]
  · simp [va_up, wmE, hj, hA, hB, hC, mup_k]
theorem wmS_zo : ∀ j, j < 9 → va_up (wmE ad cI M th) 2 (.inl (cI, 8, .inl (upd (fun i => nI (M 2 i)) i (nI x)))) j = wmE ad cI (mup M 2 i x) th j := by
  intro j _
  have hA : ∀ a b, mup M 2 i x (10 + 3 * a) b = M (10 + 3 * a) b := fun a b => mup_k (by omega)
  have hB : ∀ a b, mup M 2 i x (11 + 3 * a) b = M (11 + 3 * a) b := fun a b => mup_k (by omega)
  have hC : ∀ a b, mup M 2 i x (12 + 3 * a) b = M (12 + 3 * a) b := fun a b => mup_k (by omega)
  rw [nI_mup]
  by_cases hj : j = 2
  · subst hj; simp [va_up, wmE]
  · simp [va_up, wmE, hj, hA, hB, hC, mup_k]
theorem wmS_li : ∀ j, j < 9 → va_up (wmE ad cI M th) 3 (.inl (cI, 8, .inl (upd (fun i => nI (M 3 i)) i (nI x)))) j = wmE ad cI (mup M 3 i x) th j := by
  intro j _
  have hA : ∀ a b, mup M 3 i x (10 + 3 * a) b = M (10 + 3 * a) b := fun a b => mup_k (by omega)
  have hB : ∀ a b, mup M 3 i x (11 + 3 * a) b = M (11 + 3 * a) b := fun a b => mup_k (by omega)
  have hC : ∀ a b, mup M 3 i x (12 + 3 * a) b = M (12 + 3 * a) b := fun a b => mup_k (by omega)
  rw [nI_mup]
  by_cases hj : j = 3
  · subst hj; simp [va_up, wmE]
  · simp [va_up, wmE, hj, hA, hB, hC, mup_k]
theorem wmS_sp : ∀ j, j < 9 → va_up (wmE ad cI M th) 5 (.inl (cI, 4, .inl (upd (fun i => nI (M 6 i)) i (nI x)))) j = wmE ad cI (mup M 6 i x) th j := by
  intro j _
  have hA : ∀ a b, mup M 6 i x (10 + 3 * a) b = M (10 + 3 * a) b := fun a b => mup_k (by omega)
  have hB : ∀ a b, mup M 6 i x (11 + 3 * a) b = M (11 + 3 * a) b := fun a b => mup_k (by omega)
  have hC : ∀ a b, mup M 6 i x (12 + 3 * a) b = M (12 + 3 * a) b := fun a b => mup_k (by omega)
  rw [nI_mup]
  by_cases hj : j = 5
  · subst hj; simp [va_up, wmE]
  · simp [va_up, wmE, hj, hA, hB, hC, mup_k]
theorem wmS_lm : ∀ j, j < 9 → va_up (wmE ad cI M th) 6 (.inl (cI, 4, .inl (upd (fun i => nI (M 7 i)) i (nI x)))) j = wmE ad cI (mup M 7 i x) th j := by
  intro j _
  have hA : ∀ a b, mup M 7 i x (10 + 3 * a) b = M (10 + 3 * a) b := fun a b => mup_k (by omega)
  have hB : ∀ a b, mup M 7 i x (11 + 3 * a) b = M (11 + 3 * a) b := fun a b => mup_k (by omega)
  have hC : ∀ a b, mup M 7 i x (12 + 3 * a) b = M (12 + 3 * a) b := fun a b => mup_k (by omega)
  rw [nI_mup]
  by_cases hj : j = 6
  · subst hj; simp [va_up, wmE]
  · simp [va_up, wmE, hj, hA, hB, hC, mup_k]
theorem wmS_un {w : Nat} (hw : w < 8) (hi : i < 36) : ∀ j, j < 9 → va_up (wmE ad cI M th) 4 (.inl (cI, 288, .inl (upd (fun i => nI (M (10 + 3 * (i / 36)) (i % 36))) (36 * w + i) (nI x)))) j = wmE ad cI (mup M (10 + 3 * w) i x) th j := by
  intro j hj9
  have h2 : ∀ a b, a < 10 → mup M (10 + 3 * w) i x a b = M a b := fun a b h => mup_k (by omega)
  have h3 : ∀ a b, a ≠ 10 + 3 * w → mup M (10 + 3 * w) i x a b = M a b := fun a b h => mup_k h
  have e : upd (fun i => nI (M (10 + 3 * (i / 36)) (i % 36))) (36 * w + i) (nI x) = fun k => nI (mup M (10 + 3 * w) i x (10 + 3 * (k / 36)) (k % 36)) := by
    funext k
    by_cases h : k = 36 * w + i
    · have e1 : 10 + 3 * (k / 36) = 10 + 3 * w := by omega
      have e2 : k % 36 = i := by omega
      simp only [upd, if_pos h]
      rw [e1, e2, mup_s]
    · have h9 : ¬ (10 + 3 * (k / 36) = 10 + 3 * w ∧ k % 36 = i) := by omega
      simp only [upd, if_neg h, mup, if_neg h9]
  rw [e]
  by_cases hj : j = 4
  · subst hj
    simp [va_up, wmE]
  · have h5 : ∀ a b, 10 + 3 * a ≠ 10 + 3 * w → mup M (10 + 3 * w) i x (10 + 3 * a) b = M (10 + 3 * a) b := fun a b h => h3 _ _ (by omega)
    have h6 : ∀ a b, mup M (10 + 3 * w) i x (11 + 3 * a) b = M (11 + 3 * a) b := fun a b => h3 _ _ (by omega)
    have h7 : ∀ a b, mup M (10 + 3 * w) i x (12 + 3 * a) b = M (12 + 3 * a) b := fun a b => h3 _ _ (by omega)
    rcases (show j = 0 ∨ j = 1 ∨ j = 2 ∨ j = 3 ∨ j = 4 ∨ j = 5 ∨ j = 6 ∨ j = 7 ∨ j = 8 by omega) with h | h | h | h | h | h | h | h | h <;> subst h <;> first | exact absurd rfl hj | (simp [va_up, wmE, h2]; done) | (simp [va_up, wmE, h5]; done) | (simp [va_up, wmE, h6]; done) | (simp [va_up, wmE, h7]; done)
theorem wmS_tb {w : Nat} (hw : w < 5) (hi : i < 12) : ∀ j, j < 9 → va_up (wmE ad cI M th) 7 (.inl (cI, 60, .inl (upd (fun i => nI (M (11 + 3 * (i / 12)) (i % 12))) (12 * w + i) (nI x)))) j = wmE ad cI (mup M (11 + 3 * w) i x) th j := by
  intro j hj9
  have h2 : ∀ a b, a < 10 → mup M (11 + 3 * w) i x a b = M a b := fun a b h => mup_k (by omega)
  have h3 : ∀ a b, a ≠ 11 + 3 * w → mup M (11 + 3 * w) i x a b = M a b := fun a b h => mup_k h
  have e : upd (fun i => nI (M (11 + 3 * (i / 12)) (i % 12))) (12 * w + i) (nI x) = fun k => nI (mup M (11 + 3 * w) i x (11 + 3 * (k / 12)) (k % 12)) := by
    funext k
    by_cases h : k = 12 * w + i
    · have e1 : 11 + 3 * (k / 12) = 11 + 3 * w := by omega
      have e2 : k % 12 = i := by omega
      simp only [upd, if_pos h]
      rw [e1, e2, mup_s]
    · have h9 : ¬ (11 + 3 * (k / 12) = 11 + 3 * w ∧ k % 12 = i) := by omega
      simp only [upd, if_neg h, mup, if_neg h9]
  rw [e]
  by_cases hj : j = 7
  · subst hj
    simp [va_up, wmE]
  · have h5 : ∀ a b, mup M (11 + 3 * w) i x (10 + 3 * a) b = M (10 + 3 * a) b := fun a b => h3 _ _ (by omega)
    have h6 : ∀ a b, 11 + 3 * a ≠ 11 + 3 * w → mup M (11 + 3 * w) i x (11 + 3 * a) b = M (11 + 3 * a) b := fun a b h => h3 _ _ (by omega)
    have h7 : ∀ a b, mup M (11 + 3 * w) i x (12 + 3 * a) b = M (12 + 3 * a) b := fun a b => h3 _ _ (by omega)
    rcases (show j = 0 ∨ j = 1 ∨ j = 2 ∨ j = 3 ∨ j = 4 ∨ j = 5 ∨ j = 6 ∨ j = 7 ∨ j = 8 by omega) with h | h | h | h | h | h | h | h | h <;> subst h <;> first | exact absurd rfl hj | (simp [va_up, wmE, h2]; done) | (simp [va_up, wmE, h5]; done) | (simp [va_up, wmE, h6]; done) | (simp [va_up, wmE, h7]; done)
theorem wmS_ra {w : Nat} (hw : w < 3) (hi : i < 3) : ∀ j, j < 9 → va_up (wmE ad cI M th) 8 (.inl (cI, 9, .inl (upd (fun i => nI (M (12 + 3 * (i / 3)) (i % 3))) (3 * w + i) (nI x)))) j = wmE ad cI (mup M (12 + 3 * w) i x) th j := by
  intro j hj9
  have h2 : ∀ a b, a < 10 → mup M (12 + 3 * w) i x a b = M a b := fun a b h => mup_k (by omega)
  have h3 : ∀ a b, a ≠ 12 + 3 * w → mup M (12 + 3 * w) i x a b = M a b := fun a b h => mup_k h
  have e : upd (fun i => nI (M (12 + 3 * (i / 3)) (i % 3))) (3 * w + i) (nI x) = fun k => nI (mup M (12 + 3 * w) i x (12 + 3 * (k / 3)) (k % 3)) := by
    funext k
    by_cases h : k = 3 * w + i
    · have e1 : 12 + 3 * (k / 3) = 12 + 3 * w := by omega
      have e2 : k % 3 = i := by omega
      simp only [upd, if_pos h]
      rw [e1, e2, mup_s]
    · have h9 : ¬ (12 + 3 * (k / 3) = 12 + 3 * w ∧ k % 3 = i) := by omega
      simp only [upd, if_neg h, mup, if_neg h9]
  rw [e]
  by_cases hj : j = 8
  · subst hj
    simp [va_up, wmE]
  · have h5 : ∀ a b, mup M (12 + 3 * w) i x (10 + 3 * a) b = M (10 + 3 * a) b := fun a b => h3 _ _ (by omega)
    have h6 : ∀ a b, mup M (12 + 3 * w) i x (11 + 3 * a) b = M (11 + 3 * a) b := fun a b => h3 _ _ (by omega)
    have h7 : ∀ a b, 12 + 3 * a ≠ 12 + 3 * w → mup M (12 + 3 * w) i x (12 + 3 * a) b = M (12 + 3 * a) b := fun a b h => h3 _ _ (by omega)
    rcases (show j = 0 ∨ j = 1 ∨ j = 2 ∨ j = 3 ∨ j = 4 ∨ j = 5 ∨ j = 6 ∨ j = 7 ∨ j = 8 by omega) with h | h | h | h | h | h | h | h | h <;> subst h <;> first | exact absurd rfl hj | (simp [va_up, wmE, h2]; done) | (simp [va_up, wmE, h5]; done) | (simp [va_up, wmE, h6]; done) | (simp [va_up, wmE, h7]; done)
end ST
end
section
/-! the numbers that both sides tell -/
def d12 (x : Nat) : Nat := if x ≤ 12 then x else 12
theorem d12_s (x : Nat) : d12 x ≤ 12 ∧ d12 x ≤ x ∧ (d12 x = 12 ∨ d12 x = x) := by
  unfold d12
  split <;> omega
/-- how far a well is from a watch -/
def rch (M : Mdl) (w v : Nat) : Nat := ((M 1 w - M 6 v) + (M 6 v - M 1 w)) / 10
/-- the table's number -/
def tbn (M : Mdl) (r d : Nat) : Nat := if r < 5 then M (11 + 3 * r) d else 0
def ans (M : Mdl) (w v d : Nat) : Nat := if rch M w v < 5 ∧ d < 12 then M (11 + 3 * rch M w v) d else 0
theorem ans_tb {M : Mdl} {w v d : Nat} (h : d < 12) : ans M w v d = tbn M (rch M w v) d := by
  unfold ans tbn
  by_cases q : rch M w v < 5
  · rw [if_pos ⟨q, h⟩, if_pos q]
  · rw [if_neg (fun z => q z.1), if_neg q]
theorem ans_0 {M : Mdl} {w v d : Nat} (h : 12 ≤ d) : ans M w v d = 0 := if_neg (fun z => by omega)
theorem tbn_le {M : Mdl} (hI : Inv M) (r d : Nat) : tbn M r d ≤ 1000 := by
  unfold tbn
  split
  · next h => exact hI.tb r h d
  · omega
theorem ans_le {M : Mdl} (hI : Inv M) (w v d : Nat) : ans M w v d ≤ 1000 := by
  unfold ans
  split
  · next h => exact hI.tb _ h.1 d
  · omega
/-- what a well pumps in a year -/
def yr (M : Mdl) (w y : Nat) : Nat := ssum (fun k => M (10 + 3 * w) (y * 12 + k)) 12
theorem yr_le {M : Mdl} (hI : Inv M) {w : Nat} (hw : w < 8) (y : Nat) : yr M w y ≤ 12000 := by
  have h := ssum_le (f := fun k => M (10 + 3 * w) (y * 12 + k)) (c := 1000) (n := 12) (fun k _ => hI.un w hw _)
  exact h
/-- the drawdown of a watch by one well, as the class adds it up -/
def ddw (M : Mdl) (v m w : Nat) : Nat := ssum (fun d => M (10 + 3 * w) (m - d) * tbn M (rch M w v) d) (d12 (m + 1))
def dd (M : Mdl) (v m : Nat) : Nat := ssum (fun w => ddw M v m w) (M 0 0)
/-- .. as the reference does -/
def drw (M : Mdl) (v m w : Nat) : Nat := ssum (fun k => M (10 + 3 * w) k * ans M w v (m - k)) (m + 1)
theorem drw_eq (M : Mdl) (v m w : Nat) : drw M v m w = ddw M v m w := by
  unfold drw ddw
  have e1 : ssum (fun k => M (10 + 3 * w) k * ans M w v (m - k)) (m + 1) = ssum (fun k => (fun d => M (10 + 3 * w) (m - d) * ans M w v d) (m - k)) (m + 1) := ssum_congr (fun k hk => by
    show M (10 + 3 * w) k * ans M w v (m - k) = M (10 + 3 * w) (m - (m - k)) * ans M w v (m - k)
    rw [show m - (m - k) = k by omega])
  refine e1.trans ((ssum_r (f := fun d => M (10 + 3 * w) (m - d) * ans M w v d)).trans ?_)
  have hs := d12_s (m + 1)
  rw [ssum_cut (a := d12 (m + 1)) hs.2.1 (fun k h1 h2 => by rw [ans_0 (by omega), Nat.mul_zero])]
  exact ssum_congr (fun k hk => by rw [ans_tb (by omega)])
theorem drd_eq (M : Mdl) (v m : Nat) : ssum (fun w => drw M v m w) (M 0 0) = dd M v m := ssum_congr (fun k _ => drw_eq M v m k)
theorem ddw_le {M : Mdl} (hI : Inv M) {w : Nat} (hw : w < 8) (v m : Nat) : ddw M v m w ≤ 12000000 := by
  unfold ddw
  have hs := d12_s (m + 1)
  have h := ssum_le (f := fun d => M (10 + 3 * w) (m - d) * tbn M (rch M w v) d) (c := 1000000) (n := d12 (m + 1)) (fun k _ => Nat.le_trans (Nat.mul_le_mul (hI.un w hw _) (tbn_le hI _ _)) (by decide))
  have h2 : d12 (m + 1) * 1000000 ≤ 12 * 1000000 := Nat.mul_le_mul_right _ hs.1
  omega
theorem dd_le {M : Mdl} (hI : Inv M) (v m : Nat) : dd M v m ≤ 96000000 := by
  unfold dd
  have h := ssum_le (f := fun w => ddw M v m w) (c := 12000000) (n := M 0 0) (fun k hk => ddw_le hI (by have := hI.nw; omega) v m)
  have h2 : M 0 0 * 12000000 ≤ 8 * 12000000 := Nat.mul_le_mul_right _ hI.nw
  omega
/-- how much more, by one watch: up to D delays -/
def ulf (M : Mdl) (v r m : Nat) : Nat → Nat
  | 0 => 1000
  | d + 1 => if 0 < tbn M r d then min (ulf M v r m d) ((1000 * M 7 v - dd M v (m + d)) / tbn M r d) else ulf M v r m d
theorem ulf_le (M : Mdl) (v r m : Nat) : ∀ D, ulf M v r m D ≤ 1000
  | 0 => Nat.le_refl _
  | d + 1 => by
    have h := ulf_le M v r m d
    unfold ulf
    split <;> omega
def hdr (M : Mdl) (w m : Nat) : Nat → Nat
  | 0 => 1000 - M (10 + 3 * w) m
  | v + 1 => min (hdr M w m v) (ulf M v (rch M w v) m (d12 (36 - m)))
theorem hdr_le (M : Mdl) (w m : Nat) : ∀ v, hdr M w m v ≤ 1000
  | 0 => by show 1000 - _ ≤ 1000; omega
  | v + 1 => by
    have h := hdr_le M w m v
    show min _ _ ≤ 1000
    omega
/-- .. the reference's, from a start -/
def hdi (M : Mdl) (w v m x : Nat) : Nat → Nat
  | 0 => x
  | d + 1 => if 0 < ans M w v d then min (hdi M w v m x d) ((1000 * M 7 v - dd M v (m + d)) / ans M w v d) else hdi M w v m x d
theorem hdi_eq (M : Mdl) (w v m x : Nat) (hx : x ≤ 1000) : ∀ D, D ≤ 12 → hdi M w v m x D = min x (ulf M v (rch M w v) m D)
  | 0, _ => by show x = min x 1000; omega
  | d + 1, h => by
    have e := hdi_eq M w v m x hx d (by omega)
    unfold hdi ulf
    rw [ans_tb (by omega : d < 12), e]
    split <;> omega
theorem hdi_le (M : Mdl) (w v m x : Nat) (hx : x ≤ 1000) : ∀ D, hdi M w v m x D ≤ 1000
  | 0 => hx
  | d + 1 => by
    have h := hdi_le M w v m x hx d
    unfold hdi
    split <;> omega
/-- what a well's pumping of a month lowers in all -/
def lia (M : Mdl) (w v m : Nat) : Nat := ssum (fun d => M (10 + 3 * w) m * tbn M (rch M w v) d) (d12 (36 - m))
theorem lia_le {M : Mdl} (hI : Inv M) {w : Nat} (hw : w < 8) (v m : Nat) : lia M w v m ≤ 12000000 := by
  unfold lia
  have hs := d12_s (36 - m)
  have h := ssum_le (f := fun d => M (10 + 3 * w) m * tbn M (rch M w v) d) (c := 1000000) (n := d12 (36 - m)) (fun k _ => Nat.le_trans (Nat.mul_le_mul (hI.un w hw _) (tbn_le hI _ _)) (by decide))
  have h2 : d12 (36 - m) * 1000000 ≤ 12 * 1000000 := Nat.mul_le_mul_right _ hs.1
  omega
def hvm (M : Mdl) (v m : Nat) : Nat → Nat
  | 0 => 0
  | w + 1 => if hvm M v m w < lia M w v m then lia M w v m else hvm M v m w
def hvb (M : Mdl) (v m : Nat) : Nat → Int32
  | 0 => -1
  | w + 1 => if hvm M v m w < lia M w v m then nI w else hvb M v m w
theorem hvm_le {M : Mdl} (hI : Inv M) (v m : Nat) : ∀ w, w ≤ 8 → hvm M v m w ≤ 12000000
  | 0, _ => by show 0 ≤ _; omega
  | w + 1, h => by
    have h1 := hvm_le hI v m w (by omega)
    have h2 := lia_le hI (show w < 8 by omega) v m
    unfold hvm
    split <;> omega
/-- what a well takes of the stream in a year by its first E months -/
def tks (M : Mdl) (w y m : Nat) : Nat := (if (m + M 1 w / 5) / 12 = y then M (10 + 3 * w) m - M (10 + 3 * w) m / 2 else 0) + (if (m + M 1 w / 5 + 1) / 12 = y then M (10 + 3 * w) m / 2 else 0)
def tk (M : Mdl) (w y E : Nat) : Nat := ssum (fun m => tks M w y m) E
/-- licences -/
def als (M : Mdl) (w v : Nat) : Nat := ssum (fun d => ans M w v d) 12
theorem als_le {M : Mdl} (hI : Inv M) (w v : Nat) : als M w v ≤ 12000 := by
  have h := ssum_le (f := fun d => ans M w v d) (c := 1000) (n := 12) (fun k _ => ans_le hI w v k)
  exact h
theorem als_5 {M : Mdl} {w v : Nat} (h : rch M w v < 5) : als M w v = ssum (fun d => M (11 + 3 * rch M w v) d) 12 := ssum_congr (fun k hk => if_pos ⟨h, hk⟩)
theorem als_0 {M : Mdl} {w v : Nat} (h : 5 ≤ rch M w v) : als M w v = 0 := ssum_0s (fun k hk => if_neg (fun z => by omega))
def bud (M : Mdl) (v : Nat) : Nat := ssum (fun w => M 3 w * als M w v) (M 0 0)
def gt (M : Mdl) (f t u : Nat) : Nat := u * M (12 + 3 * M 2 f) (M 2 t) / 100
theorem gt_le {M : Mdl} (hI : Inv M) (f t : Nat) {u : Nat} (hu : u ≤ 5000) : u * M (12 + 3 * M 2 f) (M 2 t) ≤ 1000000 ∧ gt M f t u ≤ 10000 := by
  have h := hI.ra (M 2 f) (by have := hI.zo f; omega) (M 2 t)
  have h2 : u * M (12 + 3 * M 2 f) (M 2 t) ≤ 5000 * 200 := Nat.mul_le_mul hu h
  refine ⟨h2, ?_⟩
  unfold gt
  omega
def cnv (M : Mdl) (f t u : Nat) : Nat → Bool
  | 0 => true
  | v + 1 => cnv M f t u v && decide (gt M f t u * als M t v ≤ u * als M f v)
def cn (M : Mdl) (f t u : Nat) : Bool := decide (u ≤ M 3 f) && decide (M 3 t + gt M f t u ≤ 20000) && cnv M f t u (M 5 0)
theorem cnv_f {M : Mdl} {f t u : Nat} {v : Nat} : ∀ {n : Nat}, v < n → ¬ gt M f t u * als M t v ≤ u * als M f v → cnv M f t u n = false
  | 0, h, _ => by omega
  | n + 1, h, hn => by
    unfold cnv
    rcases Nat.lt_or_ge v n with q | q
    · rw [cnv_f q hn]
      rfl
    · have e : v = n := by omega
      subst e
      simp [hn]
def mtr (M : Mdl) (f t : Nat) : Nat → Nat
  | 0 => 0
  | u + 1 => if cn M f t (u + 1) = true then u + 1 else mtr M f t u
theorem mtr_cut {M : Mdl} {f t : Nat} {a : Nat} (h : M 3 f ≤ a) : ∀ b, a ≤ b → mtr M f t b = mtr M f t a
  | 0, hb => by rw [show a = 0 by omega]
  | b + 1, hb => by
    rcases Nat.lt_or_ge b a with q | q
    · rw [show a = b + 1 by omega]
    · have e : cn M f t (b + 1) = false := by
        unfold cn
        rw [decide_eq_false (show ¬ b + 1 ≤ M 3 f by omega)]
        rfl
      show (if cn M f t (b + 1) = true then b + 1 else mtr M f t b) = _
      rw [e, if_neg (by decide)]
      exact mtr_cut h b q
/-- the greatest month, so far -/
def wst (M : Mdl) (v : Nat) : Nat → Nat
  | 0 => 0
  | k + 1 => if dd M v (wst M v k) < dd M v (k + 1) then k + 1 else wst M v k
theorem wst_le (M : Mdl) (v : Nat) : ∀ k, wst M v k ≤ k
  | 0 => Nat.le_refl _
  | k + 1 => by
    have h := wst_le M v k
    unfold wst
    split <;> omega
def ovc (M : Mdl) (v m : Nat) : Nat := if 1000 * M 7 v < dd M v m then 1 else 0
def ovr (M : Mdl) (v : Nat) : Nat := ssum (fun m => ovc M v m) 36
def byd (M : Mdl) (y : Nat) : Nat := ssum (fun w => yr M w y - M 3 w) (M 0 0)
def tka (M : Mdl) (y : Nat) : Nat := ssum (fun w => tk M w y 36) (M 0 0)
/-- a well rests -/
def rst (M : Mdl) (w m : Nat) : Nat → Mdl
  | 0 => M
  | k + 1 => mup (rst M w m k) (10 + 3 * w) (m + k) 0
def rss (M : Mdl) (w m n : Nat) : Nat := ssum (fun k => M (10 + 3 * w) (m + k)) n
theorem rst_at (M : Mdl) (w m : Nat) : ∀ k j, k ≤ j → rst M w m k (10 + 3 * w) (m + j) = M (10 + 3 * w) (m + j)
  | 0, _, _ => rfl
  | k + 1, j, h => by
    show mup (rst M w m k) (10 + 3 * w) (m + k) 0 (10 + 3 * w) (m + j) = _
    rw [mup_i (by omega), rst_at M w m k j (by omega)]
/-- signed differences -/
theorem lt_sub0 {a b : Nat} (ha : a < 2 ^ 62) (hb : b < 2 ^ 62) : lN a - lN b < lN 0 ↔ a < b := by
  rw [Int64.lt_iff_toInt_lt, Int64.toInt_sub, pk_lT (by omega), pk_lT (by omega), pk_lT (by decide)]
  have e : ((a : Int) - (b : Int)).bmod (2 ^ 64) = (a : Int) - b := by
    rw [Int.bmod_eq_of_le (by omega) (by omega)]
  rw [e]
  omega
theorem max_sub0 {a b : Nat} (ha : a < 2 ^ 62) (hb : b < 2 ^ 62) : (if lN a - lN b < lN 0 then lN 0 else lN a - lN b) = lN (a - b) := by
  by_cases h : a < b
  · rw [if_pos ((lt_sub0 ha hb).mpr h), show a - b = 0 by omega]
  · rw [if_neg (fun q => h ((lt_sub0 ha hb).mp q)), lN_sub (by omega)]
theorem min_lN {a b : Nat} (ha : a < 2 ^ 62) (hb : b < 2 ^ 62) : (if lN b < lN a then lN b else lN a) = lN (min a b) := by
  by_cases h : b < a
  · rw [if_pos ((pk_lLT (by omega) (by omega)).mpr h), show min a b = b by omega]
  · rw [if_neg (fun q => h ((pk_lLT (by omega) (by omega)).mp q)), show min a b = a by omega]
theorem nlt_sub0 {a b : Nat} (ha : a < 2 ^ 30) (hb : b < 2 ^ 30) : nI 0 < nI a - nI b ↔ b < a := by
  rw [Int32.lt_iff_toInt_lt, pk_sub_toInt ha hb, nI_toInt (by decide)]
  omega
theorem nmax_sub0 {a b : Nat} (ha : a < 2 ^ 30) (hb : b < 2 ^ 30) : (if nI 0 < nI a - nI b then nI a - nI b else nI 0) = nI (a - b) := by
  by_cases h : b < a
  · rw [if_pos ((nlt_sub0 ha hb).mpr h), pk_sub (by omega)]
  · rw [if_neg (fun q => h ((nlt_sub0 ha hb).mp q)), show a - b = 0 by omega]
theorem nmin_nI {a b : Nat} (ha : a < 2 ^ 31) (hb : b < 2 ^ 31) : (if nI b < nI a then nI b else nI a) = nI (min a b) := by
  by_cases h : b < a
  · rw [if_pos ((nI_ltI (by omega) (by omega)).mpr h), show min a b = b by omega]
  · rw [if_neg (fun q => h ((nI_ltI (by omega) (by omega)).mp q)), show min a b = a by omega]
/-- the distance -/
theorem abs_nI {a b : Nat} (ha : a < 2 ^ 30) (hb : b < 2 ^ 30) : (if 0 ≤ nI a - nI b then nI a - nI b else 0 - (nI a - nI b)) = nI ((a - b) + (b - a)) := by
  have h1 : (0 ≤ nI a - nI b) ↔ b ≤ a := by
    rw [Int32.le_iff_toInt_le, pk_sub_toInt ha hb]
    have : (0 : Int32).toInt = 0 := by decide
    rw [this]
    omega
  by_cases h : b ≤ a
  · rw [if_pos (h1.mpr h), pk_sub h, show (a - b) + (b - a) = a - b by omega]
  · rw [if_neg (fun q => h (h1.mp q)), show (a - b) + (b - a) = b - a by omega, ← pk_sub (by omega : a ≤ b)]
    rw [Int32.zero_sub, Int32.neg_sub]
theorem neg_nI {a b : Nat} (ha : a < 2 ^ 30) (hb : b < 2 ^ 30) (h : a < b) : -(nI a - nI b) = nI (b - a) := by
  rw [Int32.neg_sub, pk_sub (by omega)]
theorem fl_un {M : Mdl} {w m : Nat} (h : m < 36) : (fun i => nI (M (10 + 3 * (i / 36)) (i % 36))) (36 * w + m) = nI (M (10 + 3 * w) m) := by
  show nI (M (10 + 3 * ((36 * w + m) / 36)) ((36 * w + m) % 36)) = _
  rw [show (36 * w + m) / 36 = w by omega, show (36 * w + m) % 36 = m by omega]
theorem fl_tb {M : Mdl} {w m : Nat} (h : m < 12) : (fun i => nI (M (11 + 3 * (i / 12)) (i % 12))) (12 * w + m) = nI (M (11 + 3 * w) m) := by
  show nI (M (11 + 3 * ((12 * w + m) / 12)) ((12 * w + m) % 12)) = _
  rw [show (12 * w + m) / 12 = w by omega, show (12 * w + m) % 12 = m by omega]
theorem fl_ra {M : Mdl} {w m : Nat} (h : m < 3) : (fun i => nI (M (12 + 3 * (i / 3)) (i % 3))) (3 * w + m) = nI (M (12 + 3 * w) m) := by
  show nI (M (12 + 3 * ((3 * w + m) / 3)) ((3 * w + m) % 3)) = _
  rw [show (3 * w + m) / 3 = w by omega, show (3 * w + m) % 3 = m by omega]
theorem rch_le {M : Mdl} (hI : Inv M) (w v : Nat) : rch M w v ≤ 9 := by
  have h1 := hI.pl w
  have h2 := hI.sp v
  unfold rch
  omega
/-- the machine's own tests, told in truth values -/
def ixB (x : Int32) (n : Nat) : Bool := decide (0 ≤ x ∧ x < nI n)
def rgB (x lo hi : Int32) : Bool := decide (lo ≤ x ∧ x ≤ hi)
theorem ixB_of {x : Int32} {n : Nat} (hn : n < 2 ^ 31) (h : ixB x n = true) : ∃ j : Nat, j < n ∧ x = nI j := by
  obtain ⟨h1, h2⟩ := of_decide_eq_true h
  have h0 : ¬ x < 0 := by
    rw [Int32.lt_iff_toInt_lt]
    rw [Int32.le_iff_toInt_le] at h1
    omega
  obtain ⟨j, hj, rfl⟩ := nI_of h0
  exact ⟨j, (nI_ltI hj hn).mp h2, rfl⟩
theorem ixB_nI {j n : Nat} (hn : n < 2 ^ 31) (h : j < n) : ixB (nI j) n = true := decide_eq_true ⟨nI_pos' (by omega), (nI_ltI (by omega) hn).mpr h⟩
theorem rgB_of {x : Int32} {a b : Nat} (hb : b < 2 ^ 31) (h : rgB x (nI a) (nI b) = true) (ha : a < 2 ^ 31) : ∃ j : Nat, a ≤ j ∧ j ≤ b ∧ x = nI j := by
  obtain ⟨h1, h2⟩ := of_decide_eq_true h
  have h0 : ¬ x < 0 := by
    rw [Int32.lt_iff_toInt_lt]
    rw [Int32.le_iff_toInt_le, nI_toInt ha] at h1
    have : (0 : Int32).toInt = 0 := by decide
    omega
  obtain ⟨j, hj, rfl⟩ := nI_of h0
  exact ⟨j, (nI_leI ha hj).mp h1, (nI_leI hj hb).mp h2, rfl⟩
theorem rg_ix {x : Int32} {n : Nat} (hn : n + 1 < 2 ^ 31) : rgB x (nI 0) (nI n) = ixB x (n + 1) := by
  unfold rgB ixB
  apply decide_eq_decide.mpr
  rw [nI_0]
  refine and_congr_right (fun _ => ?_)
  rw [Int32.le_iff_toInt_le, Int32.lt_iff_toInt_lt, nI_toInt (by omega), nI_toInt hn]
  omega
/-- .. up to one less than a number that may be 0 -/
theorem rg_ixm {x : Int32} {n : Nat} (hn : n < 2 ^ 30) : rgB x (nI 0) (nI n - nI 1) = ixB x n := by
  unfold rgB ixB
  apply decide_eq_decide.mpr
  rw [nI_0]
  refine and_congr_right (fun _ => ?_)
  rw [Int32.le_iff_toInt_le, Int32.lt_iff_toInt_lt, pk_sub_toInt hn (by decide), nI_toInt (by omega)]
  omega
abbrev clN (x : Int32) : Nat := x.toNatClampNeg
theorem ls0_of {a b : Nat} (ha : a < 2 ^ 62) (hb : b < 2 ^ 62) (h : lN 0 ≤ lN a - lN b) : b ≤ a := by
  rcases Nat.lt_or_ge a b with q | q
  · have h1 := (lt_sub0 ha hb).mpr q
    rw [Int64.lt_iff_toInt_lt] at h1
    rw [Int64.le_iff_toInt_le] at h
    omega
  · exact q
end
section
section ZL
variable {p : Program} {l : Launch} {e : Env} {R : Room} {s : State} {m : MethodId} {args : Array Value} {below : List Frame} {meth : Method} {c : Code} {H : Heap} {locs : List Loc} {cells slots : Nat} {Q : State → Prop}
variable {cc : ByteArray} {pc : Nat} {ls : Array Slot} {rest : List Value}
theorem zbL_le (hx : p.tables.exec = Jvm.exec) (hb : c.code = cc) {a b : Nat} (ha : a < 2 ^ 62) (hb2 : b < 2 ^ 62) {off : Int} {tgt : Nat} (hd0 : decode cc pc = .ok (.lcmp, 1)) (hdg : decode cc (pc + 1) = .ok (.ifCond .le off, 3)) (ht : (pc : Int) + 1 + off = (tgt : Int))
    (kt : a ≤ b → W p l e R s m args below meth c H locs cells slots Q (F0 m tgt ls rest)) (kf : b < a → W p l e R s m args below meth c H locs cells slots Q (F0 m (pc + 4) ls rest)) : W p l e R s m args below meth c H locs cells slots Q (F0 m pc ls (.long (lN b) :: .long (lN a) :: rest)) :=
  zb_lle hx hb hd0 hdg ht (fun h => kt ((pk_lLE (by omega) (by omega)).mp h)) (fun h => kf ((pk_lLT (by omega) (by omega)).mp h))
theorem zbL_ge (hx : p.tables.exec = Jvm.exec) (hb : c.code = cc) {a b : Nat} (ha : a < 2 ^ 62) (hb2 : b < 2 ^ 62) {off : Int} {tgt : Nat} (hd0 : decode cc pc = .ok (.lcmp, 1)) (hdg : decode cc (pc + 1) = .ok (.ifCond .ge off, 3)) (ht : (pc : Int) + 1 + off = (tgt : Int))
    (kt : b ≤ a → W p l e R s m args below meth c H locs cells slots Q (F0 m tgt ls rest)) (kf : a < b → W p l e R s m args below meth c H locs cells slots Q (F0 m (pc + 4) ls rest)) : W p l e R s m args below meth c H locs cells slots Q (F0 m pc ls (.long (lN b) :: .long (lN a) :: rest)) :=
  zb_lge hx hb hd0 hdg ht (fun h => kt ((pk_lLE (by omega) (by omega)).mp h)) (fun h => kf ((pk_lLT (by omega) (by omega)).mp h))
/-- a difference against 0 -/
theorem zbS_ge (hx : p.tables.exec = Jvm.exec) (hb : c.code = cc) {a b : Nat} (ha : a < 2 ^ 62) (hb2 : b < 2 ^ 62) {off : Int} {tgt : Nat} (hd0 : decode cc pc = .ok (.lcmp, 1)) (hdg : decode cc (pc + 1) = .ok (.ifCond .ge off, 3)) (ht : (pc : Int) + 1 + off = (tgt : Int))
    (kt : b ≤ a → W p l e R s m args below meth c H locs cells slots Q (F0 m tgt ls rest)) (kf : a < b → W p l e R s m args below meth c H locs cells slots Q (F0 m (pc + 4) ls rest)) : W p l e R s m args below meth c H locs cells slots Q (F0 m pc ls (.long (lN 0) :: .long (lN a - lN b) :: rest)) :=
  zb_lge hx hb hd0 hdg ht (fun h => kt (ls0_of ha hb2 h)) (fun h => kf ((lt_sub0 ha hb2).mp h))
end ZL
end
section
set_option maxHeartbeats 4000000 in
set_option maxRecDepth 100000 in
/-- what a well pumps in a year -/
theorem c0_unitsOfYear (l : Launch) {D : va_G} {ad : Nat → Nat} {cI cJ cQ : ClassId} {M : Mdl} {ts : Nat → Nat} {pu : Nat → Int64} (hI : Inv M) {w y : Nat} (hw : w < M 0 0) (hy : y < 3) : Met l yX0_unitsOfYear wsX0_unitsOfYear (rmP 0) (va_Pc [.ref (ad 0), .int (nI (w)), .int (nI (y))] (KP0 D ad cI cJ cQ M ts pu)) (vp_Si (fun r_ => r_ = nI (yr M w y))) 0 0 (fun _ => False) := by
  refine mk_Si (post := fun r_ => r_ = nI (yr M w y)) (cc := cX0_unitsOfYear) (maxL := 6) (by decide) rfl (Nat.le_of_ble_eq_true rfl) ?_
  intro p e s m args below meth c Q C0 B0 hret ls hl
  obtain ⟨hx, hb, hr, hml, hown, hts, hlocks⟩ := C0
  have hown : s.vm.findClass RX0 = some m.cls := hown
  obtain ⟨hK, hP⟩ := B0
  have hw0 : ∀ w ∈ wsX00, w.before args s = true := fun w h => hts w ((by decide +kernel : ∀ w ∈ wsX00, w ∈ wsX0_unitsOfYear) w h)
  have b_nw := hI.nw
  have b_nv := hI.nv
  have hl : lv_has ls 6 [(0, .ref (ad 0)), (1, .int (nI (w))), (2, .int (nI (y)))] := hl
  refine lv_iload_n hx hb dX0_unitsOfYear_0 rfl (lv_at hl 2 rfl) ?_
  refine lv_bipush (v := nI 12) hx hb dX0_unitsOfYear_1 (by decide) ?_
  refine zr_imul hx hb dX0_unitsOfYear_3 ?_
  refine lv_istore_n (lv' := [(3, .int (nI ((y) * (12)))), (0, .ref (ad 0)), (1, .int (nI (w))), (2, .int (nI (y)))]) hx hb dX0_unitsOfYear_4 rfl hl (by decide) rfl (fun ls hl => ?_)
  refine lv_iconst (v := nI 0) hx hb dX0_unitsOfYear_5 (by decide) ?_
  refine lv_istore (lv' := [(4, .int (nI (0))), (3, .int (nI ((y) * (12)))), (0, .ref (ad 0)), (1, .int (nI (w))), (2, .int (nI (y)))]) hx hb dX0_unitsOfYear_6 hl (by decide) rfl (fun ls hl => ?_)
  refine lv_iload_n hx hb dX0_unitsOfYear_8 rfl (lv_at hl 1 rfl) ?_
  refine lv_istore (lv' := [(5, .int (nI ((y) * (12)))), (4, .int (nI (0))), (3, .int (nI ((y) * (12)))), (0, .ref (ad 0)), (1, .int (nI (w))), (2, .int (nI (y)))]) hx hb dX0_unitsOfYear_9 hl (by decide) rfl (fun ls hl => ?_)
  have lp11 : ∀ (n k : Nat), k ≤ 12 → 12 - k < n → ∀ ls : Array Slot, lv_has ls 6 [(0, .ref (ad 0)), (1, .int (nI (w))), (3, .int (nI ((y) * (12)))), (4, .int (nI (ssum (fun k => M (10 + 3 * w) (y * 12 + k)) (k)))), (5, .int (nI ((y) * (12) + (k))))] → W p l e (rmP 0) s m args below meth c s.heap [] 0 0 Q (F0 m 11 ls []) := by
    intro n
    induction n with
    | zero => intro k q1 q2; omega
    | succ n ih11 =>
      intro k q1_11 q2_11 ls hl
      refine lv_iload hx hb dX0_unitsOfYear_11 (lv_at hl 4 rfl) ?_
      refine lv_iload_n hx hb dX0_unitsOfYear_13 rfl (lv_at hl 2 rfl) ?_
      refine lv_bipush (v := nI 12) hx hb dX0_unitsOfYear_14 (by decide) ?_
      refine zr_iadd hx hb dX0_unitsOfYear_16 ?_
      refine zb_ge (tgt := 40) hx hb (by omega) (by omega) dX0_unitsOfYear_17 (by decide) (fun c_1 => ?_) (fun c_1 => ?_)
      · skip
        have q_2 : k = 12 := by omega
        subst q_2
        refine lv_iload hx hb dX0_unitsOfYear_40 (lv_at hl 3 rfl) ?_
        exact hret rfl dX0_unitsOfYear_42
      · skip
        refine lv_iload hx hb dX0_unitsOfYear_20 (lv_at hl 3 rfl) ?_
        refine lv_aload_n hx hb dX0_unitsOfYear_22 rfl (lv_at hl 0 rfl) ?_
        refine zg0 hx hb hw0 hown hK hP (by decide) rfl 3 (by decide) (hts (.fieldLink RX0 21 "WellField" "pumping" "[[I") (by decide +kernel)) rfl rfl dX0_unitsOfYear_23 ?_
        refine lv_iload_n hx hb dX0_unitsOfYear_26 rfl (lv_at hl 1 rfl) ?_
        refine zq_ld hx hb hK hP 4 (by decide) 2 rfl rfl (by decide) (i := w) (by omega) (a := ad (11 + (w))) rfl dX0_unitsOfYear_27 ?_
        refine lv_iload hx hb dX0_unitsOfYear_28 (lv_at hl 4 rfl) ?_
        refine zi_ld hx hb hK hP (11 + (w)) (by omega) 0 (wcE_pump (by omega)) rfl (by decide) (i := (y) * (12) + (k)) (by omega) (v := nI (M (10 + 3 * (w)) ((y) * (12) + (k)))) rfl dX0_unitsOfYear_30 ?_
        have f_3 := hI.un (w) (by omega) ((y) * (12) + (k))
        refine zr_iadd hx hb dX0_unitsOfYear_31 ?_
        refine lv_istore (lv' := [(4, .int (nI ((ssum (fun k => M (10 + 3 * w) (y * 12 + k)) (k)) + (M (10 + 3 * (w)) ((y) * (12) + (k)))))), (0, .ref (ad 0)), (1, .int (nI (w))), (3, .int (nI ((y) * (12)))), (5, .int (nI ((y) * (12) + (k))))]) hx hb dX0_unitsOfYear_32 hl (by decide) rfl (fun ls hl => ?_)
        refine lv_iinc (v := nI ((y) * (12) + (k) + 1)) (lv' := [(5, .int (nI ((y) * (12) + (k) + 1))), (4, .int (nI ((ssum (fun k => M (10 + 3 * w) (y * 12 + k)) (k)) + (M (10 + 3 * (w)) ((y) * (12) + (k)))))), (0, .ref (ad 0)), (1, .int (nI (w))), (3, .int (nI ((y) * (12))))]) hx hb dX0_unitsOfYear_34 hl (k := 4) rfl (zn_inc ((y) * (12) + (k))) (by decide) rfl (fun ls hl => ?_)
        refine lv_goto (tgt := 11) hx hb dX0_unitsOfYear_37 (by decide) ?_
        exact ih11 (k + 1) (by omega) (by omega) _ (lv_sub hl [2, 3, 4, 1, 0] rfl)
  exact lp11 (12 - (0) + 1) (0) (by omega) (by omega) _ (lv_sub hl [3, 4, 2, 1, 0] rfl)
set_option maxHeartbeats 4000000 in
set_option maxRecDepth 100000 in
/-- the reach -/
theorem c0_reachOf (l : Launch) {D : va_G} {ad : Nat → Nat} {cI cJ cQ : ClassId} {M : Mdl} {ts : Nat → Nat} {pu : Nat → Int64} (hI : Inv M) {w v : Nat} (hw : w < M 0 0) (hv : v < M 5 0) : Met l yX0_reachOf wsX0_reachOf (rmP 1) (va_Pc [.ref (ad 0), .int (nI (w)), .int (nI (v))] (KP0 D ad cI cJ cQ M ts pu)) (vp_Si (fun r_ => r_ = nI (rch M w v))) 0 0 (fun _ => False) := by
  refine mk_Si (post := fun r_ => r_ = nI (rch M w v)) (cc := cX0_reachOf) (maxL := 3) (by decide) rfl (Nat.le_of_ble_eq_true rfl) ?_
  intro p e s m args below meth c Q C0 B0 hret ls hl
  obtain ⟨hx, hb, hr, hml, hown, hts, hlocks⟩ := C0
  have hown : s.vm.findClass RX0 = some m.cls := hown
  obtain ⟨hK, hP⟩ := B0
  have hw0 : ∀ w ∈ wsX00, w.before args s = true := fun w h => hts w ((by decide +kernel : ∀ w ∈ wsX00, w ∈ wsX0_reachOf) w h)
  have b_nw := hI.nw
  have b_nv := hI.nv
  have hl : lv_has ls 3 [(0, .ref (ad 0)), (1, .int (nI (w))), (2, .int (nI (v)))] := hl
  refine lv_aload_n hx hb dX0_reachOf_0 rfl (lv_at hl 0 rfl) ?_
  refine zg0 hx hb hw0 hown hK hP (by decide) rfl 0 (by decide) (hts (.fieldLink RX0 9 "WellField" "wellPlaces" "[I") (by decide +kernel)) rfl rfl dX0_reachOf_1 ?_
  refine lv_iload_n hx hb dX0_reachOf_4 rfl (lv_at hl 1 rfl) ?_
  refine zi_ld hx hb hK hP 1 (by decide) 0 rfl rfl (by decide) (i := w) (by omega) (v := nI (M 1 (w))) rfl dX0_reachOf_5 ?_
  have f_1 := hI.pl (w)
  refine lv_aload_n hx hb dX0_reachOf_6 rfl (lv_at hl 0 rfl) ?_
  refine zg0 hx hb hw0 hown hK hP (by decide) rfl 4 (by decide) (hts (.fieldLink RX0 24 "WellField" "watchPlaces" "[I") (by decide +kernel)) rfl rfl dX0_reachOf_7 ?_
  refine lv_iload_n hx hb dX0_reachOf_10 rfl (lv_at hl 2 rfl) ?_
  refine zi_ld hx hb hK hP 5 (by decide) 0 rfl rfl (by decide) (i := v) (by omega) (v := nI (M 6 (v))) rfl dX0_reachOf_11 ?_
  have f_2 := hI.sp (v)
  refine lv_isub hx hb dX0_reachOf_12 ?_
  refine va_mabs hx hb (hml.trans hl.1.symm) hown (hts (.methodLink RX0 133 Lib.Math.abs.name) (by decide +kernel)) (hts (.static Lib.Math.abs.name) (by decide +kernel)) (hts (.initialized "java/lang/Math") (by decide +kernel)) (hts (.code Lib.Math.abs.name Lib.Math.abs.code 1 (some .int)) (by decide +kernel)) (by decide) (Nat.le_of_ble_eq_true rfl) (by decide) (by decide) dX0_reachOf_13 ?_
  refine zt_i (abs_nI (by omega) (by omega)) ?_
  refine lv_bipush (v := nI 10) hx hb dX0_reachOf_16 (by decide) ?_
  refine zr_idiv hx hb (by omega) (by omega) (by omega) dX0_reachOf_18 ?_
  exact hret rfl dX0_reachOf_19
set_option maxHeartbeats 4000000 in
set_option maxRecDepth 100000 in
/-- a number of the table -/
theorem c0_tableNumber (l : Launch) {D : va_G} {ad : Nat → Nat} {cI cJ cQ : ClassId} {M : Mdl} {ts : Nat → Nat} {pu : Nat → Int64} (hI : Inv M) {r d : Nat} (hr9 : r ≤ 9) (hd : d < 12) : Met l yX0_tableNumber wsX0_tableNumber (rmP 0) (va_Pc [.ref (ad 0), .int (nI (r)), .int (nI (d))] (KP0 D ad cI cJ cQ M ts pu)) (vp_Si (fun r_ => r_ = nI (tbn M r d))) 0 0 (fun _ => False) := by
  refine mk_Si (post := fun r_ => r_ = nI (tbn M r d)) (cc := cX0_tableNumber) (maxL := 3) (by decide) rfl (Nat.le_of_ble_eq_true rfl) ?_
  intro p e s m args below meth c Q C0 B0 hret ls hl
  obtain ⟨hx, hb, hr, hml, hown, hts, hlocks⟩ := C0
  have hown : s.vm.findClass RX0 = some m.cls := hown
  obtain ⟨hK, hP⟩ := B0
  have hw0 : ∀ w ∈ wsX00, w.before args s = true := fun w h => hts w ((by decide +kernel : ∀ w ∈ wsX00, w ∈ wsX0_tableNumber) w h)
  have b_nw := hI.nw
  have b_nv := hI.nv
  have hl : lv_has ls 3 [(0, .ref (ad 0)), (1, .int (nI (r))), (2, .int (nI (d)))] := hl
  refine lv_iload_n hx hb dX0_tableNumber_0 rfl (lv_at hl 1 rfl) ?_
  refine lv_iconst (v := nI 5) hx hb dX0_tableNumber_1 (by decide) ?_
  refine zb_ge (tgt := 16) hx hb (by omega) (by omega) dX0_tableNumber_2 (by decide) (fun c_1 => ?_) (fun c_1 => ?_)
  · skip
    refine lv_iconst (v := nI 0) hx hb dX0_tableNumber_16 (by decide) ?_
    exact hret (by show nI _ = nI _; unfold tbn; split <;> first | rfl | omega) dX0_tableNumber_17
  · skip
    refine lv_aload_n hx hb dX0_tableNumber_5 rfl (lv_at hl 0 rfl) ?_
    refine zg0 hx hb hw0 hown hK hP (by decide) rfl 6 (by decide) (hts (.fieldLink RX0 30 "WellField" "table" "[[I") (by decide +kernel)) rfl rfl dX0_tableNumber_6 ?_
    refine lv_iload_n hx hb dX0_tableNumber_9 rfl (lv_at hl 1 rfl) ?_
    refine zq_ld hx hb hK hP 7 (by decide) 2 rfl rfl (by decide) (i := r) (by omega) (a := ad (19 + (r))) rfl dX0_tableNumber_10 ?_
    refine lv_iload_n hx hb dX0_tableNumber_11 rfl (lv_at hl 2 rfl) ?_
    refine zi_ld hx hb hK hP (19 + (r)) (by omega) 0 (wcE_tab (by omega)) rfl (by decide) (i := d) (by omega) (v := nI (M (11 + 3 * (r)) (d))) rfl dX0_tableNumber_12 ?_
    have f_2 := hI.tb (r) (by omega) (d)
    refine lv_goto (tgt := 17) hx hb dX0_tableNumber_13 (by decide) ?_
    exact hret (by show nI _ = nI _; unfold tbn; split <;> first | rfl | omega) dX0_tableNumber_17
set_option maxHeartbeats 4000000 in
set_option maxRecDepth 100000 in
/-- is a month in a year -/
theorem c0_isInYear (l : Launch)  {a y : Nat} (ha : a < 2 ^ 30) (hy : y < 2 ^ 30) : Met l yX0_isInYear wsX0_isInYear (rmP 0) (va_Pc [.int (nI (a)), .int (nI (y))] (fun _ => True)) (vp_Si (fun r => ∃ b : Bool, r = bB b ∧ b = decide (a / 12 = y))) 0 0 (fun _ => False) := by
  refine mk_Sz (post := fun b => b = decide (a / 12 = y)) (cc := cX0_isInYear) (maxL := 2) (by decide) rfl (Nat.le_of_ble_eq_true rfl) ?_
  intro p e s m args below meth c Q C0 B0 hret ls hl
  obtain ⟨hx, hb, hr, hml, hown, hts, hlocks⟩ := C0
  have hown : s.vm.findClass RX0 = some m.cls := hown
  have hl : lv_has ls 2 [(0, .int (nI (a))), (1, .int (nI (y)))] := hl
  refine lv_iload_n hx hb dX0_isInYear_0 rfl (lv_at hl 0 rfl) ?_
  refine lv_bipush (v := nI 12) hx hb dX0_isInYear_1 (by decide) ?_
  refine zr_idiv hx hb (by omega) (by omega) (by omega) dX0_isInYear_3 ?_
  refine lv_iload_n hx hb dX0_isInYear_4 rfl (lv_at hl 1 rfl) ?_
  refine zb_ne (tgt := 12) hx hb (by omega) (by omega) dX0_isInYear_5 (by decide) (fun c_1 => ?_) (fun c_1 => ?_)
  · skip
    refine lv_iconst (v := nI 0) hx hb dX0_isInYear_12 (by decide) ?_
    exact hret (b := false) (by first | exact (decide_eq_true (by omega)).symm | exact (decide_eq_false (by omega)).symm) rfl dX0_isInYear_13
  · skip
    refine lv_iconst (v := nI 1) hx hb dX0_isInYear_8 (by decide) ?_
    refine lv_goto (tgt := 13) hx hb dX0_isInYear_9 (by decide) ?_
    exact hret (b := true) (by first | exact (decide_eq_true (by omega)).symm | exact (decide_eq_false (by omega)).symm) rfl dX0_isInYear_13
set_option maxHeartbeats 4000000 in
set_option maxRecDepth 100000 in
/-- the drawdown -/
theorem c0_loweredIn (l : Launch) {D : va_G} {ad : Nat → Nat} {cI cJ cQ : ClassId} {M : Mdl} {ts : Nat → Nat} {pu : Nat → Int64} (hI : Inv M) {v mo : Nat} (hv : v < M 5 0) (hm : mo < 36) : Met l yX0_loweredIn wsX0_loweredIn (rmP 2) (va_Pc [.ref (ad 0), .int (nI (v)), .int (nI (mo))] (KP0 D ad cI cJ cQ M ts pu)) (vp_Sl (fun r_ => r_ = lN (dd M v mo))) 0 0 (fun _ => False) := by
  refine mk_Sl (post := fun r_ => r_ = lN (dd M v mo)) (cc := cX0_loweredIn) (maxL := 8) (by decide) rfl (Nat.le_of_ble_eq_true rfl) ?_
  intro p e s m args below meth c Q C0 B0 hret ls hl
  obtain ⟨hx, hb, hr, hml, hown, hts, hlocks⟩ := C0
  have hown : s.vm.findClass RX0 = some m.cls := hown
  obtain ⟨hK, hP⟩ := B0
  have hw0 : ∀ w ∈ wsX00, w.before args s = true := fun w h => hts w ((by decide +kernel : ∀ w ∈ wsX00, w ∈ wsX0_loweredIn) w h)
  have b_nw := hI.nw
  have b_nv := hI.nv
  have hD := d12_s (mo + 1)
  have hl : lv_has ls 8 [(0, .ref (ad 0)), (1, .int (nI (v))), (2, .int (nI (mo)))] := hl
  refine lv_lconst (v := lN 0) hx hb dX0_loweredIn_0 (by decide) ?_
  refine lv_lstore_n (lv' := [(3, .long (lN (0))), (0, .ref (ad 0)), (1, .int (nI (v))), (2, .int (nI (mo)))]) hx hb dX0_loweredIn_1 rfl hl (by decide) rfl (fun ls hl => ?_)
  refine lv_iconst (v := nI 0) hx hb dX0_loweredIn_2 (by decide) ?_
  refine lv_istore (lv' := [(5, .int (nI (0))), (3, .long (lN (0))), (0, .ref (ad 0)), (1, .int (nI (v))), (2, .int (nI (mo)))]) hx hb dX0_loweredIn_3 hl (by decide) rfl (fun ls hl => ?_)
  have lp5 : ∀ (n w : Nat), w ≤ M 0 0 → M 0 0 - w < n → ∀ ls : Array Slot, lv_has ls 8 [(0, .ref (ad 0)), (1, .int (nI (v))), (2, .int (nI (mo))), (3, .long (lN (ssum (fun w => ddw M v mo w) (w)))), (5, .int (nI (w)))] → W p l e (rmP 2) s m args below meth c s.heap [] 0 0 Q (F0 m 5 ls []) := by
    intro n
    induction n with
    | zero => intro w q1 q2; omega
    | succ n ih5 =>
      intro w q1_5 q2_5 ls hl
      refine lv_iload hx hb dX0_loweredIn_5 (lv_at hl 4 rfl) ?_
      refine lv_aload_n hx hb dX0_loweredIn_7 rfl (lv_at hl 0 rfl) ?_
      refine zg0 hx hb hw0 hown hK hP (by decide) rfl 10 (by decide) (hts (.fieldLink RX0 47 "WellField" "wellCount" "I") (by decide +kernel)) rfl rfl dX0_loweredIn_8 ?_
      refine zb_ge (tgt := 77) hx hb (by omega) (by omega) dX0_loweredIn_11 (by decide) (fun c_1 => ?_) (fun c_1 => ?_)
      · skip
        have q_2 : w = M 0 0 := by omega
        subst q_2
        refine lv_lload_n hx hb dX0_loweredIn_77 rfl (lv_at hl 3 rfl) ?_
        exact hret rfl dX0_loweredIn_78
      · skip
        refine lv_aload_n hx hb dX0_loweredIn_14 rfl (lv_at hl 0 rfl) ?_
        refine lv_iload hx hb dX0_loweredIn_15 (lv_at hl 4 rfl) ?_
        refine lv_iload_n hx hb dX0_loweredIn_17 rfl (lv_at hl 1 rfl) ?_
        refine vp_callSi (W.runV (As := [.int (nI (w)), .int (nI (v))]) (rest := []) ⟨hx, hb, hml, hown, hts⟩ (c0_reachOf l hI (w := w) (v := v) (by omega) (by omega)) (cwV 2 hts gX0_loweredIn_X0_reachOf rfl rfl rfl (by decide +kernel) (by decide)) (pv0 hK hP) rfl rfl hl.1 rfl (lv_room (Nat.le_of_ble_eq_true rfl)) dX0_loweredIn_18 (by decide)) (fun r_3 hr_3 => ?_)
        subst hr_3
        have f_4 := rch_le hI (w) (v)
        refine lv_istore (lv' := [(6, .int (nI (rch M (w) (v)))), (0, .ref (ad 0)), (1, .int (nI (v))), (2, .int (nI (mo))), (3, .long (lN (ssum (fun w => ddw M v mo w) (w)))), (5, .int (nI (w)))]) hx hb dX0_loweredIn_21 hl (by decide) rfl (fun ls hl => ?_)
        refine lv_iconst (v := nI 0) hx hb dX0_loweredIn_23 (by decide) ?_
        refine lv_istore (lv' := [(7, .int (nI (0))), (6, .int (nI (rch M (w) (v)))), (0, .ref (ad 0)), (1, .int (nI (v))), (2, .int (nI (mo))), (3, .long (lN (ssum (fun w => ddw M v mo w) (w)))), (5, .int (nI (w)))]) hx hb dX0_loweredIn_24 hl (by decide) rfl (fun ls hl => ?_)
        have lp26 : ∀ (n d : Nat), d ≤ d12 (mo + 1) → d12 (mo + 1) - d < n → ∀ ls : Array Slot, lv_has ls 8 [(0, .ref (ad 0)), (1, .int (nI (v))), (2, .int (nI (mo))), (3, .long (lN ((ssum (fun w => ddw M v mo w) (w)) + (ssum (fun d => M (10 + 3 * w) (mo - d) * tbn M (rch M w v) d) (d))))), (5, .int (nI (w))), (6, .int (nI (rch M (w) (v)))), (7, .int (nI (d)))] → W p l e (rmP 2) s m args below meth c s.heap [] 0 0 Q (F0 m 26 ls []) := by
          intro n
          induction n with
          | zero => intro d q1 q2; omega
          | succ n ih26 =>
            intro d q1_26 q2_26 ls hl
            refine lv_iload hx hb dX0_loweredIn_26 (lv_at hl 6 rfl) ?_
            refine lv_bipush (v := nI 12) hx hb dX0_loweredIn_28 (by decide) ?_
            refine zb_ge (tgt := 71) hx hb (by omega) (by omega) dX0_loweredIn_30 (by decide) (fun c_5 => ?_) (fun c_5 => ?_)
            · skip
              have q_6 : d = d12 (mo + 1) := by omega
              subst q_6
              refine lv_iinc (v := nI (w + 1)) (lv' := [(5, .int (nI (w + 1))), (0, .ref (ad 0)), (1, .int (nI (v))), (2, .int (nI (mo))), (3, .long (lN ((ssum (fun w => ddw M v mo w) (w)) + (ssum (fun d => M (10 + 3 * w) (mo - d) * tbn M (rch M w v) d) (d12 (mo + 1)))))), (6, .int (nI (rch M (w) (v)))), (7, .int (nI (d12 (mo + 1))))]) hx hb dX0_loweredIn_71 hl (k := 4) rfl (zn_inc (w)) (by decide) rfl (fun ls hl => ?_)
              refine lv_goto (tgt := 5) hx hb dX0_loweredIn_74 (by decide) ?_
              exact ih5 (w + 1) (by omega) (by omega) _ (lv_sub hl [1, 2, 3, 4, 0] rfl)
            · skip
              refine lv_iload hx hb dX0_loweredIn_33 (lv_at hl 6 rfl) ?_
              refine lv_iload_n hx hb dX0_loweredIn_35 rfl (lv_at hl 2 rfl) ?_
              refine zb_gt (tgt := 71) hx hb (by omega) (by omega) dX0_loweredIn_36 (by decide) (fun c_7 => ?_) (fun c_7 => ?_)
              · skip
                have q_8 : d = d12 (mo + 1) := by omega
                subst q_8
                refine lv_iinc (v := nI (w + 1)) (lv' := [(5, .int (nI (w + 1))), (0, .ref (ad 0)), (1, .int (nI (v))), (2, .int (nI (mo))), (3, .long (lN ((ssum (fun w => ddw M v mo w) (w)) + (ssum (fun d => M (10 + 3 * w) (mo - d) * tbn M (rch M w v) d) (d12 (mo + 1)))))), (6, .int (nI (rch M (w) (v)))), (7, .int (nI (d12 (mo + 1))))]) hx hb dX0_loweredIn_71 hl (k := 4) rfl (zn_inc (w)) (by decide) rfl (fun ls hl => ?_)
                refine lv_goto (tgt := 5) hx hb dX0_loweredIn_74 (by decide) ?_
                exact ih5 (w + 1) (by omega) (by omega) _ (lv_sub hl [1, 2, 3, 4, 0] rfl)
              · skip
                refine lv_lload_n hx hb dX0_loweredIn_39 rfl (lv_at hl 3 rfl) ?_
                refine lv_aload_n hx hb dX0_loweredIn_40 rfl (lv_at hl 0 rfl) ?_
                refine zg0 hx hb hw0 hown hK hP (by decide) rfl 3 (by decide) (hts (.fieldLink RX0 21 "WellField" "pumping" "[[I") (by decide +kernel)) rfl rfl dX0_loweredIn_41 ?_
                refine lv_iload hx hb dX0_loweredIn_44 (lv_at hl 4 rfl) ?_
                refine zq_ld hx hb hK hP 4 (by decide) 2 rfl rfl (by decide) (i := w) (by omega) (a := ad (11 + (w))) rfl dX0_loweredIn_46 ?_
                refine lv_iload_n hx hb dX0_loweredIn_47 rfl (lv_at hl 2 rfl) ?_
                refine lv_iload hx hb dX0_loweredIn_48 (lv_at hl 6 rfl) ?_
                refine zr_isub hx hb (by omega) dX0_loweredIn_50 ?_
                refine zi_ld hx hb hK hP (11 + (w)) (by omega) 0 (wcE_pump (by omega)) rfl (by decide) (i := (mo) - (d)) (by omega) (v := nI (M (10 + 3 * (w)) ((mo) - (d)))) rfl dX0_loweredIn_51 ?_
                have f_9 := hI.un (w) (by omega) ((mo) - (d))
                refine zr_i2l hx hb (by omega) dX0_loweredIn_52 ?_
                refine lv_aload_n hx hb dX0_loweredIn_53 rfl (lv_at hl 0 rfl) ?_
                refine lv_iload hx hb dX0_loweredIn_54 (lv_at hl 5 rfl) ?_
                refine lv_iload hx hb dX0_loweredIn_56 (lv_at hl 6 rfl) ?_
                refine vp_callSi (W.runV (As := [.int (nI (rch M (w) (v))), .int (nI (d))]) (rest := [.long (lN (M (10 + 3 * (w)) ((mo) - (d)))), .long (lN ((ssum (fun w => ddw M v mo w) (w)) + (ssum (fun d => M (10 + 3 * w) (mo - d) * tbn M (rch M w v) d) (d))))]) ⟨hx, hb, hml, hown, hts⟩ (c0_tableNumber l hI (r := rch M (w) (v)) (d := d) (by omega) (by omega)) (cwV 2 hts gX0_loweredIn_X0_tableNumber rfl rfl rfl (by decide +kernel) (by decide)) (pv0 hK hP) rfl rfl hl.1 rfl (lv_room (Nat.le_of_ble_eq_true rfl)) dX0_loweredIn_58 (by decide)) (fun r_10 hr_10 => ?_)
                subst hr_10
                have f_11 := tbn_le hI (rch M (w) (v)) (d)
                refine zr_i2l hx hb (by omega) dX0_loweredIn_61 ?_
                refine zr_lmul hx hb dX0_loweredIn_62 ?_
                refine zr_ladd hx hb dX0_loweredIn_63 ?_
                refine lv_lstore_n (lv' := [(3, .long (lN (((ssum (fun w => ddw M v mo w) (w)) + (ssum (fun d => M (10 + 3 * w) (mo - d) * tbn M (rch M w v) d) (d))) + ((M (10 + 3 * (w)) ((mo) - (d))) * (tbn M (rch M (w) (v)) (d)))))), (0, .ref (ad 0)), (1, .int (nI (v))), (2, .int (nI (mo))), (5, .int (nI (w))), (6, .int (nI (rch M (w) (v)))), (7, .int (nI (d)))]) hx hb dX0_loweredIn_64 rfl hl (by decide) rfl (fun ls hl => ?_)
                have hl := lv_cast (l2 := [(3, .long (lN ((ssum (fun w => ddw M v mo w) (w)) + (ssum (fun d => M (10 + 3 * w) (mo - d) * tbn M (rch M w v) d) (d + 1))))), (0, .ref (ad 0)), (1, .int (nI (v))), (2, .int (nI (mo))), (5, .int (nI (w))), (6, .int (nI (rch M (w) (v)))), (7, .int (nI (d)))]) hl (by rw [show ((ssum (fun w => ddw M v mo w) (w)) + (ssum (fun d => M (10 + 3 * w) (mo - d) * tbn M (rch M w v) d) (d + 1))) = (((ssum (fun w => ddw M v mo w) (w)) + (ssum (fun d => M (10 + 3 * w) (mo - d) * tbn M (rch M w v) d) (d))) + ((M (10 + 3 * (w)) ((mo) - (d))) * (tbn M (rch M (w) (v)) (d)))) from (by rw [ssum_s, Nat.add_assoc])])
                refine lv_iinc (v := nI (d + 1)) (lv' := [(7, .int (nI (d + 1))), (3, .long (lN ((ssum (fun w => ddw M v mo w) (w)) + (ssum (fun d => M (10 + 3 * w) (mo - d) * tbn M (rch M w v) d) (d + 1))))), (0, .ref (ad 0)), (1, .int (nI (v))), (2, .int (nI (mo))), (5, .int (nI (w))), (6, .int (nI (rch M (w) (v))))]) hx hb dX0_loweredIn_65 hl (k := 6) rfl (zn_inc (d)) (by decide) rfl (fun ls hl => ?_)
                refine lv_goto (tgt := 26) hx hb dX0_loweredIn_68 (by decide) ?_
                exact ih26 (d + 1) (by omega) (by omega) _ (lv_sub hl [2, 3, 4, 1, 5, 6, 0] rfl)
        exact lp26 (d12 (mo + 1) - (0) + 1) (0) (by omega) (by omega) _ (lv_sub hl [2, 3, 4, 5, 6, 1, 0] rfl)
  exact lp5 (M 0 0 - (0) + 1) (0) (by omega) (by omega) _ (lv_sub hl [2, 3, 4, 1, 0] rfl)
set_option maxHeartbeats 4000000 in
set_option maxRecDepth 100000 in
/-- what is left to the limit -/
theorem c0_thousandthsLeft (l : Launch) {D : va_G} {ad : Nat → Nat} {cI cJ cQ : ClassId} {M : Mdl} {ts : Nat → Nat} {pu : Nat → Int64} (hI : Inv M) {v mo : Nat} (hv : v < M 5 0) (hm : mo < 36) : Met l yX0_thousandthsLeft wsX0_thousandthsLeft (rmP 3) (va_Pc [.ref (ad 0), .int (nI (v)), .int (nI (mo))] (KP0 D ad cI cJ cQ M ts pu)) (vp_Sl (fun r_ => r_ = lN (1000 * M 7 v) - lN (dd M v mo))) 0 0 (fun _ => False) := by
  refine mk_Sl (post := fun r_ => r_ = lN (1000 * M 7 v) - lN (dd M v mo)) (cc := cX0_thousandthsLeft) (maxL := 3) (by decide) rfl (Nat.le_of_ble_eq_true rfl) ?_
  intro p e s m args below meth c Q C0 B0 hret ls hl
  obtain ⟨hx, hb, hr, hml, hown, hts, hlocks⟩ := C0
  have hown : s.vm.findClass RX0 = some m.cls := hown
  obtain ⟨hK, hP⟩ := B0
  have hw0 : ∀ w ∈ wsX00, w.before args s = true := fun w h => hts w ((by decide +kernel : ∀ w ∈ wsX00, w ∈ wsX0_thousandthsLeft) w h)
  have b_nw := hI.nw
  have b_nv := hI.nv
  have hl : lv_has ls 3 [(0, .ref (ad 0)), (1, .int (nI (v))), (2, .int (nI (mo)))] := hl
  refine lv_ldc2 (own := RX0) (v := 1000) hx hb hown (hts (.constantLong RX0 140 1000) (by decide +kernel)) dX0_thousandthsLeft_0 ?_
  refine zt_l (y := lN 1000) rfl ?_
  refine lv_aload_n hx hb dX0_thousandthsLeft_3 rfl (lv_at hl 0 rfl) ?_
  refine zg0 hx hb hw0 hown hK hP (by decide) rfl 5 (by decide) (hts (.fieldLink RX0 27 "WellField" "limits" "[I") (by decide +kernel)) rfl rfl dX0_thousandthsLeft_4 ?_
  refine lv_iload_n hx hb dX0_thousandthsLeft_7 rfl (lv_at hl 1 rfl) ?_
  refine zi_ld hx hb hK hP 6 (by decide) 0 rfl rfl (by decide) (i := v) (by omega) (v := nI (M 7 (v))) rfl dX0_thousandthsLeft_8 ?_
  have f_1 := hI.lm (v)
  refine zr_i2l hx hb (by omega) dX0_thousandthsLeft_9 ?_
  refine zr_lmul hx hb dX0_thousandthsLeft_10 ?_
  refine lv_aload_n hx hb dX0_thousandthsLeft_11 rfl (lv_at hl 0 rfl) ?_
  refine lv_iload_n hx hb dX0_thousandthsLeft_12 rfl (lv_at hl 1 rfl) ?_
  refine lv_iload_n hx hb dX0_thousandthsLeft_13 rfl (lv_at hl 2 rfl) ?_
  refine vp_callSl (W.runV (As := [.int (nI (v)), .int (nI (mo))]) (rest := [.long (lN ((1000) * (M 7 (v))))]) ⟨hx, hb, hml, hown, hts⟩ (c0_loweredIn l hI (v := v) (mo := mo) (by omega) (by omega)) (cwV 2 hts gX0_thousandthsLeft_X0_loweredIn rfl rfl rfl (by decide +kernel) (by decide)) (pv0 hK hP) rfl rfl hl.1 rfl (lv_room (Nat.le_of_ble_eq_true rfl)) dX0_thousandthsLeft_14 (by decide)) (fun r_2 hr_2 => ?_)
  subst hr_2
  have f_3 := dd_le hI (v) (mo)
  refine lv_lsub hx hb dX0_thousandthsLeft_17 ?_
  exact hret rfl dX0_thousandthsLeft_18
set_option maxHeartbeats 4000000 in
set_option maxRecDepth 100000 in
/-- the room that a watch leaves -/
theorem c0_unitsLeft (l : Launch) {D : va_G} {ad : Nat → Nat} {cI cJ cQ : ClassId} {M : Mdl} {ts : Nat → Nat} {pu : Nat → Int64} (hI : Inv M) {v r mo : Nat} (hv : v < M 5 0) (hr9 : r ≤ 9) (hm : mo < 36) : Met l yX0_unitsLeft wsX0_unitsLeft (rmP 4) (va_Pc [.ref (ad 0), .int (nI (v)), .int (nI (r)), .int (nI (mo))] (KP0 D ad cI cJ cQ M ts pu)) (vp_Sl (fun r_ => r_ = lN (ulf M v r mo (d12 (36 - mo))))) 0 0 (fun _ => False) := by
  refine mk_Sl (post := fun r_ => r_ = lN (ulf M v r mo (d12 (36 - mo)))) (cc := cX0_unitsLeft) (maxL := 8) (by decide) rfl (Nat.le_of_ble_eq_true rfl) ?_
  intro p e s m args below meth c Q C0 B0 hret ls hl
  obtain ⟨hx, hb, hr, hml, hown, hts, hlocks⟩ := C0
  have hown : s.vm.findClass RX0 = some m.cls := hown
  obtain ⟨hK, hP⟩ := B0
  have hw0 : ∀ w ∈ wsX00, w.before args s = true := fun w h => hts w ((by decide +kernel : ∀ w ∈ wsX00, w ∈ wsX0_unitsLeft) w h)
  have b_nw := hI.nw
  have b_nv := hI.nv
  have hD := d12_s (36 - mo)
  have hl : lv_has ls 8 [(0, .ref (ad 0)), (1, .int (nI (v))), (2, .int (nI (r))), (3, .int (nI (mo)))] := hl
  refine lv_ldc2 (own := RX0) (v := 1000) hx hb hown (hts (.constantLong RX0 140 1000) (by decide +kernel)) dX0_unitsLeft_0 ?_
  refine zt_l (y := lN 1000) rfl ?_
  refine lv_lstore (lv' := [(4, .long (lN (1000))), (0, .ref (ad 0)), (1, .int (nI (v))), (2, .int (nI (r))), (3, .int (nI (mo)))]) hx hb dX0_unitsLeft_3 hl (by decide) rfl (fun ls hl => ?_)
  refine lv_iconst (v := nI 0) hx hb dX0_unitsLeft_5 (by decide) ?_
  refine lv_istore (lv' := [(6, .int (nI (0))), (4, .long (lN (1000))), (0, .ref (ad 0)), (1, .int (nI (v))), (2, .int (nI (r))), (3, .int (nI (mo)))]) hx hb dX0_unitsLeft_6 hl (by decide) rfl (fun ls hl => ?_)
  have lp8 : ∀ (n d : Nat), d ≤ d12 (36 - mo) → d12 (36 - mo) - d < n → ∀ ls : Array Slot, lv_has ls 8 [(0, .ref (ad 0)), (1, .int (nI (v))), (2, .int (nI (r))), (3, .int (nI (mo))), (4, .long (lN (ulf M v r mo (d)))), (6, .int (nI (d)))] → W p l e (rmP 4) s m args below meth c s.heap [] 0 0 Q (F0 m 8 ls []) := by
    intro n
    induction n with
    | zero => intro d q1 q2; omega
    | succ n ih8 =>
      intro d q1_8 q2_8 ls hl
      have u_d := ulf_le M v r mo d
      refine lv_iload hx hb dX0_unitsLeft_8 (lv_at hl 5 rfl) ?_
      refine lv_bipush (v := nI 12) hx hb dX0_unitsLeft_10 (by decide) ?_
      refine zb_ge (tgt := 68) hx hb (by omega) (by omega) dX0_unitsLeft_12 (by decide) (fun c_1 => ?_) (fun c_1 => ?_)
      · skip
        have q_2 : d = d12 (36 - mo) := by omega
        subst q_2
        refine lv_lload hx hb dX0_unitsLeft_68 (lv_at hl 4 rfl) ?_
        exact hret rfl dX0_unitsLeft_70
      · skip
        refine lv_iload_n hx hb dX0_unitsLeft_15 rfl (lv_at hl 3 rfl) ?_
        refine lv_iload hx hb dX0_unitsLeft_16 (lv_at hl 5 rfl) ?_
        refine zr_iadd hx hb dX0_unitsLeft_18 ?_
        refine lv_bipush (v := nI 36) hx hb dX0_unitsLeft_19 (by decide) ?_
        refine zb_ge (tgt := 68) hx hb (by omega) (by omega) dX0_unitsLeft_21 (by decide) (fun c_3 => ?_) (fun c_3 => ?_)
        · skip
          have q_4 : d = d12 (36 - mo) := by omega
          subst q_4
          refine lv_lload hx hb dX0_unitsLeft_68 (lv_at hl 4 rfl) ?_
          exact hret rfl dX0_unitsLeft_70
        · skip
          refine lv_aload_n hx hb dX0_unitsLeft_24 rfl (lv_at hl 0 rfl) ?_
          refine lv_iload_n hx hb dX0_unitsLeft_25 rfl (lv_at hl 2 rfl) ?_
          refine lv_iload hx hb dX0_unitsLeft_26 (lv_at hl 5 rfl) ?_
          refine vp_callSi (W.runV (As := [.int (nI (r)), .int (nI (d))]) (rest := []) ⟨hx, hb, hml, hown, hts⟩ (c0_tableNumber l hI (r := r) (d := d) (by omega) (by omega)) (cwV 2 hts gX0_unitsLeft_X0_tableNumber rfl rfl rfl (by decide +kernel) (by decide)) (pv0 hK hP) rfl rfl hl.1 rfl (lv_room (Nat.le_of_ble_eq_true rfl)) dX0_unitsLeft_28 (by decide)) (fun r_5 hr_5 => ?_)
          subst hr_5
          have f_6 := tbn_le hI (r) (d)
          refine lv_istore (lv' := [(7, .int (nI (tbn M (r) (d)))), (0, .ref (ad 0)), (1, .int (nI (v))), (2, .int (nI (r))), (3, .int (nI (mo))), (4, .long (lN (ulf M v r mo (d)))), (6, .int (nI (d)))]) hx hb dX0_unitsLeft_31 hl (by decide) rfl (fun ls hl => ?_)
          refine lv_iload hx hb dX0_unitsLeft_33 (lv_at hl 0 rfl) ?_
          refine zb_0le (tgt := 62) hx hb (by omega) dX0_unitsLeft_35 (by decide) (fun c_7 => ?_) (fun c_7 => ?_)
          · skip
            have hl := lv_cast (l2 := [(7, .int (nI (tbn M (r) (d)))), (0, .ref (ad 0)), (1, .int (nI (v))), (2, .int (nI (r))), (3, .int (nI (mo))), (4, .long (lN (ulf M v r mo (d + 1)))), (6, .int (nI (d)))]) hl (by rw [show (ulf M v r mo (d + 1)) = (ulf M v r mo (d)) from (by show (if 0 < tbn M r d then _ else _) = _; split <;> first | rfl | omega)])
            refine lv_iinc (v := nI (d + 1)) (lv' := [(6, .int (nI (d + 1))), (7, .int (nI (tbn M (r) (d)))), (0, .ref (ad 0)), (1, .int (nI (v))), (2, .int (nI (r))), (3, .int (nI (mo))), (4, .long (lN (ulf M v r mo (d + 1))))]) hx hb dX0_unitsLeft_62 hl (k := 6) rfl (zn_inc (d)) (by decide) rfl (fun ls hl => ?_)
            refine lv_goto (tgt := 8) hx hb dX0_unitsLeft_65 (by decide) ?_
            exact ih8 (d + 1) (by omega) (by omega) _ (lv_sub hl [2, 3, 4, 5, 6, 0] rfl)
          · skip
            refine lv_lload hx hb dX0_unitsLeft_38 (lv_at hl 5 rfl) ?_
            refine lv_lconst (v := lN 0) hx hb dX0_unitsLeft_40 (by decide) ?_
            refine lv_aload_n hx hb dX0_unitsLeft_41 rfl (lv_at hl 1 rfl) ?_
            refine lv_iload_n hx hb dX0_unitsLeft_42 rfl (lv_at hl 2 rfl) ?_
            refine lv_iload_n hx hb dX0_unitsLeft_43 rfl (lv_at hl 4 rfl) ?_
            refine lv_iload hx hb dX0_unitsLeft_44 (lv_at hl 6 rfl) ?_
            refine zr_iadd hx hb dX0_unitsLeft_46 ?_
            refine vp_callSl (W.runV (As := [.int (nI (v)), .int (nI ((mo) + (d)))]) (rest := [.long (lN (0)), .long (lN (ulf M v r mo (d)))]) ⟨hx, hb, hml, hown, hts⟩ (c0_thousandthsLeft l hI (v := v) (mo := (mo) + (d)) (by omega) (by omega)) (cwV 2 hts gX0_unitsLeft_X0_thousandthsLeft rfl rfl rfl (by decide +kernel) (by decide)) (pv0 hK hP) rfl rfl hl.1 rfl (lv_room (Nat.le_of_ble_eq_true rfl)) dX0_unitsLeft_47 (by decide)) (fun r_8 hr_8 => ?_)
            subst hr_8
            have f_9 := dd_le hI (v) ((mo) + (d))
            have f_10 := hI.lm (v)
            refine va_mmax_long hx hb (hml.trans hl.1.symm) hown (hts (.methodLink RX0 142 Lib.MathLoose.max_long.x) (by decide +kernel)) (hts (.static Lib.MathLoose.max_long.x) (by decide +kernel)) (hts (.initialized "java/lang/Math") (by decide +kernel)) (hts (.code Lib.MathLoose.max_long.x Lib.MathLoose.max_long.code 4 (some .long)) (by decide +kernel)) (by decide) (Nat.le_of_ble_eq_true rfl) (by decide) (by decide) dX0_unitsLeft_50 ?_
            refine zt_l (max_sub0 (by omega) (by omega)) ?_
            refine lv_iload hx hb dX0_unitsLeft_53 (lv_at hl 0 rfl) ?_
            refine zr_i2l hx hb (by omega) dX0_unitsLeft_55 ?_
            refine zr_ldiv hx hb (by omega) (by omega) (by omega) dX0_unitsLeft_56 ?_
            refine va_mmin_long hx hb (hml.trans hl.1.symm) hown (hts (.methodLink RX0 91 Lib.MathLoose.min_long.x) (by decide +kernel)) (hts (.static Lib.MathLoose.min_long.x) (by decide +kernel)) (hts (.initialized "java/lang/Math") (by decide +kernel)) (hts (.code Lib.MathLoose.min_long.x Lib.MathLoose.min_long.code 4 (some .long)) (by decide +kernel)) (by decide) (Nat.le_of_ble_eq_true rfl) (by decide) (by decide) dX0_unitsLeft_57 ?_
            have f_11 := Nat.div_le_self ((1000 * M 7 (v)) - (dd M (v) ((mo) + (d)))) (tbn M (r) (d))
            refine zt_l (min_lN (by omega) (by omega)) ?_
            refine lv_lstore (lv' := [(4, .long (lN (min (ulf M v r mo (d)) (((1000 * M 7 (v)) - (dd M (v) ((mo) + (d)))) / (tbn M (r) (d)))))), (7, .int (nI (tbn M (r) (d)))), (0, .ref (ad 0)), (1, .int (nI (v))), (2, .int (nI (r))), (3, .int (nI (mo))), (6, .int (nI (d)))]) hx hb dX0_unitsLeft_60 hl (by decide) rfl (fun ls hl => ?_)
            have hl := lv_cast (l2 := [(4, .long (lN (ulf M v r mo (d + 1)))), (7, .int (nI (tbn M (r) (d)))), (0, .ref (ad 0)), (1, .int (nI (v))), (2, .int (nI (r))), (3, .int (nI (mo))), (6, .int (nI (d)))]) hl (by rw [show (ulf M v r mo (d + 1)) = (min (ulf M v r mo (d)) (((1000 * M 7 (v)) - (dd M (v) ((mo) + (d)))) / (tbn M (r) (d)))) from (by show (if 0 < tbn M r d then _ else _) = _; split <;> first | rfl | omega)])
            refine lv_iinc (v := nI (d + 1)) (lv' := [(6, .int (nI (d + 1))), (4, .long (lN (ulf M v r mo (d + 1)))), (7, .int (nI (tbn M (r) (d)))), (0, .ref (ad 0)), (1, .int (nI (v))), (2, .int (nI (r))), (3, .int (nI (mo)))]) hx hb dX0_unitsLeft_62 hl (k := 6) rfl (zn_inc (d)) (by decide) rfl (fun ls hl => ?_)
            refine lv_goto (tgt := 8) hx hb dX0_unitsLeft_65 (by decide) ?_
            exact ih8 (d + 1) (by omega) (by omega) _ (lv_sub hl [3, 4, 5, 6, 1, 0] rfl)
  exact lp8 (d12 (36 - mo) - (0) + 1) (0) (by omega) (by omega) _ (lv_sub hl [2, 3, 4, 5, 1, 0] rfl)
set_option maxHeartbeats 4000000 in
set_option maxRecDepth 100000 in
/-- what a month of pumping lowers in all -/
theorem c0_loweredInAll (l : Launch) {D : va_G} {ad : Nat → Nat} {cI cJ cQ : ClassId} {M : Mdl} {ts : Nat → Nat} {pu : Nat → Int64} (hI : Inv M) {w v mo : Nat} (hw : w < M 0 0) (hv : v < M 5 0) (hm : mo < 36) : Met l yX0_loweredInAll wsX0_loweredInAll (rmP 2) (va_Pc [.ref (ad 0), .int (nI (w)), .int (nI (v)), .int (nI (mo))] (KP0 D ad cI cJ cQ M ts pu)) (vp_Sl (fun r_ => r_ = lN (lia M w v mo))) 0 0 (fun _ => False) := by
  refine mk_Sl (post := fun r_ => r_ = lN (lia M w v mo)) (cc := cX0_loweredInAll) (maxL := 8) (by decide) rfl (Nat.le_of_ble_eq_true rfl) ?_
  intro p e s m args below meth c Q C0 B0 hret ls hl
  obtain ⟨hx, hb, hr, hml, hown, hts, hlocks⟩ := C0
  have hown : s.vm.findClass RX0 = some m.cls := hown
  obtain ⟨hK, hP⟩ := B0
  have hw0 : ∀ w ∈ wsX00, w.before args s = true := fun w h => hts w ((by decide +kernel : ∀ w ∈ wsX00, w ∈ wsX0_loweredInAll) w h)
  have b_nw := hI.nw
  have b_nv := hI.nv
  have hD := d12_s (36 - mo)
  have hl : lv_has ls 8 [(0, .ref (ad 0)), (1, .int (nI (w))), (2, .int (nI (v))), (3, .int (nI (mo)))] := hl
  refine lv_aload_n hx hb dX0_loweredInAll_0 rfl (lv_at hl 0 rfl) ?_
  refine lv_iload_n hx hb dX0_loweredInAll_1 rfl (lv_at hl 1 rfl) ?_
  refine lv_iload_n hx hb dX0_loweredInAll_2 rfl (lv_at hl 2 rfl) ?_
  refine vp_callSi (W.runV (As := [.int (nI (w)), .int (nI (v))]) (rest := []) ⟨hx, hb, hml, hown, hts⟩ (c0_reachOf l hI (w := w) (v := v) (by omega) (by omega)) (cwV 2 hts gX0_loweredInAll_X0_reachOf rfl rfl rfl (by decide +kernel) (by decide)) (pv0 hK hP) rfl rfl hl.1 rfl (lv_room (Nat.le_of_ble_eq_true rfl)) dX0_loweredInAll_3 (by decide)) (fun r_1 hr_1 => ?_)
  subst hr_1
  have f_2 := rch_le hI (w) (v)
  refine lv_istore (lv' := [(4, .int (nI (rch M (w) (v)))), (0, .ref (ad 0)), (1, .int (nI (w))), (2, .int (nI (v))), (3, .int (nI (mo)))]) hx hb dX0_loweredInAll_6 hl (by decide) rfl (fun ls hl => ?_)
  refine lv_lconst (v := lN 0) hx hb dX0_loweredInAll_8 (by decide) ?_
  refine lv_lstore (lv' := [(5, .long (lN (0))), (4, .int (nI (rch M (w) (v)))), (0, .ref (ad 0)), (1, .int (nI (w))), (2, .int (nI (v))), (3, .int (nI (mo)))]) hx hb dX0_loweredInAll_9 hl (by decide) rfl (fun ls hl => ?_)
  refine lv_iconst (v := nI 0) hx hb dX0_loweredInAll_11 (by decide) ?_
  refine lv_istore (lv' := [(7, .int (nI (0))), (5, .long (lN (0))), (4, .int (nI (rch M (w) (v)))), (0, .ref (ad 0)), (1, .int (nI (w))), (2, .int (nI (v))), (3, .int (nI (mo)))]) hx hb dX0_loweredInAll_12 hl (by decide) rfl (fun ls hl => ?_)
  have lp14 : ∀ (n d : Nat), d ≤ d12 (36 - mo) → d12 (36 - mo) - d < n → ∀ ls : Array Slot, lv_has ls 8 [(0, .ref (ad 0)), (1, .int (nI (w))), (2, .int (nI (v))), (3, .int (nI (mo))), (4, .int (nI (rch M (w) (v)))), (5, .long (lN (ssum (fun d => M (10 + 3 * w) mo * tbn M (rch M w v) d) (d)))), (7, .int (nI (d)))] → W p l e (rmP 2) s m args below meth c s.heap [] 0 0 Q (F0 m 14 ls []) := by
    intro n
    induction n with
    | zero => intro d q1 q2; omega
    | succ n ih14 =>
      intro d q1_14 q2_14 ls hl
      refine lv_iload hx hb dX0_loweredInAll_14 (lv_at hl 6 rfl) ?_
      refine lv_bipush (v := nI 12) hx hb dX0_loweredInAll_16 (by decide) ?_
      refine zb_ge (tgt := 60) hx hb (by omega) (by omega) dX0_loweredInAll_18 (by decide) (fun c_3 => ?_) (fun c_3 => ?_)
      · skip
        have q_4 : d = d12 (36 - mo) := by omega
        subst q_4
        refine lv_lload hx hb dX0_loweredInAll_60 (lv_at hl 5 rfl) ?_
        exact hret rfl dX0_loweredInAll_62
      · skip
        refine lv_iload_n hx hb dX0_loweredInAll_21 rfl (lv_at hl 3 rfl) ?_
        refine lv_iload hx hb dX0_loweredInAll_22 (lv_at hl 6 rfl) ?_
        refine zr_iadd hx hb dX0_loweredInAll_24 ?_
        refine lv_bipush (v := nI 36) hx hb dX0_loweredInAll_25 (by decide) ?_
        refine zb_ge (tgt := 60) hx hb (by omega) (by omega) dX0_loweredInAll_27 (by decide) (fun c_5 => ?_) (fun c_5 => ?_)
        · skip
          have q_6 : d = d12 (36 - mo) := by omega
          subst q_6
          refine lv_lload hx hb dX0_loweredInAll_60 (lv_at hl 5 rfl) ?_
          exact hret rfl dX0_loweredInAll_62
        · skip
          refine lv_lload hx hb dX0_loweredInAll_30 (lv_at hl 5 rfl) ?_
          refine lv_aload_n hx hb dX0_loweredInAll_32 rfl (lv_at hl 0 rfl) ?_
          refine zg0 hx hb hw0 hown hK hP (by decide) rfl 3 (by decide) (hts (.fieldLink RX0 21 "WellField" "pumping" "[[I") (by decide +kernel)) rfl rfl dX0_loweredInAll_33 ?_
          refine lv_iload_n hx hb dX0_loweredInAll_36 rfl (lv_at hl 1 rfl) ?_
          refine zq_ld hx hb hK hP 4 (by decide) 2 rfl rfl (by decide) (i := w) (by omega) (a := ad (11 + (w))) rfl dX0_loweredInAll_37 ?_
          refine lv_iload_n hx hb dX0_loweredInAll_38 rfl (lv_at hl 3 rfl) ?_
          refine zi_ld hx hb hK hP (11 + (w)) (by omega) 0 (wcE_pump (by omega)) rfl (by decide) (i := mo) (by omega) (v := nI (M (10 + 3 * (w)) (mo))) rfl dX0_loweredInAll_39 ?_
          have f_7 := hI.un (w) (by omega) (mo)
          refine zr_i2l hx hb (by omega) dX0_loweredInAll_40 ?_
          refine lv_aload_n hx hb dX0_loweredInAll_41 rfl (lv_at hl 0 rfl) ?_
          refine lv_iload hx hb dX0_loweredInAll_42 (lv_at hl 4 rfl) ?_
          refine lv_iload hx hb dX0_loweredInAll_44 (lv_at hl 6 rfl) ?_
          refine vp_callSi (W.runV (As := [.int (nI (rch M (w) (v))), .int (nI (d))]) (rest := [.long (lN (M (10 + 3 * (w)) (mo))), .long (lN (ssum (fun d => M (10 + 3 * w) mo * tbn M (rch M w v) d) (d)))]) ⟨hx, hb, hml, hown, hts⟩ (c0_tableNumber l hI (r := rch M (w) (v)) (d := d) (by omega) (by omega)) (cwV 2 hts gX0_loweredInAll_X0_tableNumber rfl rfl rfl (by decide +kernel) (by decide)) (pv0 hK hP) rfl rfl hl.1 rfl (lv_room (Nat.le_of_ble_eq_true rfl)) dX0_loweredInAll_46 (by decide)) (fun r_8 hr_8 => ?_)
          subst hr_8
          have f_9 := tbn_le hI (rch M (w) (v)) (d)
          refine zr_i2l hx hb (by omega) dX0_loweredInAll_49 ?_
          refine zr_lmul hx hb dX0_loweredInAll_50 ?_
          refine zr_ladd hx hb dX0_loweredInAll_51 ?_
          refine lv_lstore (lv' := [(5, .long (lN ((ssum (fun d => M (10 + 3 * w) mo * tbn M (rch M w v) d) (d)) + ((M (10 + 3 * (w)) (mo)) * (tbn M (rch M (w) (v)) (d)))))), (0, .ref (ad 0)), (1, .int (nI (w))), (2, .int (nI (v))), (3, .int (nI (mo))), (4, .int (nI (rch M (w) (v)))), (7, .int (nI (d)))]) hx hb dX0_loweredInAll_52 hl (by decide) rfl (fun ls hl => ?_)
          refine lv_iinc (v := nI (d + 1)) (lv' := [(7, .int (nI (d + 1))), (5, .long (lN ((ssum (fun d => M (10 + 3 * w) mo * tbn M (rch M w v) d) (d)) + ((M (10 + 3 * (w)) (mo)) * (tbn M (rch M (w) (v)) (d)))))), (0, .ref (ad 0)), (1, .int (nI (w))), (2, .int (nI (v))), (3, .int (nI (mo))), (4, .int (nI (rch M (w) (v))))]) hx hb dX0_loweredInAll_54 hl (k := 6) rfl (zn_inc (d)) (by decide) rfl (fun ls hl => ?_)
          refine lv_goto (tgt := 14) hx hb dX0_loweredInAll_57 (by decide) ?_
          exact ih14 (d + 1) (by omega) (by omega) _ (lv_sub hl [2, 3, 4, 5, 6, 1, 0] rfl)
  exact lp14 (d12 (36 - mo) - (0) + 1) (0) (by omega) (by omega) _ (lv_sub hl [3, 4, 5, 6, 2, 1, 0] rfl)
set_option maxHeartbeats 4000000 in
set_option maxRecDepth 100000 in
/-- what is taken of the stream in a year by the first months -/
theorem c0_takenOfMonthsBefore (l : Launch) {D : va_G} {ad : Nat → Nat} {cI cJ cQ : ClassId} {M : Mdl} {ts : Nat → Nat} {pu : Nat → Int64} (hI : Inv M) {w E y : Nat} (hw : w < M 0 0) (hE : E ≤ 36) (hy : y < 3) : Met l yX0_takenOfMonthsBefore wsX0_takenOfMonthsBefore (rmP 1) (va_Pc [.ref (ad 0), .int (nI (w)), .int (nI (E)), .int (nI (y))] (KP0 D ad cI cJ cQ M ts pu)) (vp_Si (fun r_ => r_ = nI (tk M w y E))) 0 0 (fun _ => False) := by
  refine mk_Si (post := fun r_ => r_ = nI (tk M w y E)) (cc := cX0_takenOfMonthsBefore) (maxL := 9) (by decide) rfl (Nat.le_of_ble_eq_true rfl) ?_
  intro p e s m args below meth c Q C0 B0 hret ls hl
  obtain ⟨hx, hb, hr, hml, hown, hts, hlocks⟩ := C0
  have hown : s.vm.findClass RX0 = some m.cls := hown
  obtain ⟨hK, hP⟩ := B0
  have hw0 : ∀ w ∈ wsX00, w.before args s = true := fun w h => hts w ((by decide +kernel : ∀ w ∈ wsX00, w ∈ wsX0_takenOfMonthsBefore) w h)
  have b_nw := hI.nw
  have b_nv := hI.nv
  have hl : lv_has ls 9 [(0, .ref (ad 0)), (1, .int (nI (w))), (2, .int (nI (E))), (3, .int (nI (y)))] := hl
  refine lv_aload_n hx hb dX0_takenOfMonthsBefore_0 rfl (lv_at hl 0 rfl) ?_
  refine zg0 hx hb hw0 hown hK hP (by decide) rfl 0 (by decide) (hts (.fieldLink RX0 9 "WellField" "wellPlaces" "[I") (by decide +kernel)) rfl rfl dX0_takenOfMonthsBefore_1 ?_
  refine lv_iload_n hx hb dX0_takenOfMonthsBefore_4 rfl (lv_at hl 1 rfl) ?_
  refine zi_ld hx hb hK hP 1 (by decide) 0 rfl rfl (by decide) (i := w) (by omega) (v := nI (M 1 (w))) rfl dX0_takenOfMonthsBefore_5 ?_
  have f_1 := hI.pl (w)
  refine lv_iconst (v := nI 5) hx hb dX0_takenOfMonthsBefore_6 (by decide) ?_
  refine zr_idiv hx hb (by omega) (by omega) (by omega) dX0_takenOfMonthsBefore_7 ?_
  refine lv_istore (lv' := [(4, .int (nI ((M 1 (w)) / (5)))), (0, .ref (ad 0)), (1, .int (nI (w))), (2, .int (nI (E))), (3, .int (nI (y)))]) hx hb dX0_takenOfMonthsBefore_8 hl (by decide) rfl (fun ls hl => ?_)
  refine lv_iconst (v := nI 0) hx hb dX0_takenOfMonthsBefore_10 (by decide) ?_
  refine lv_istore (lv' := [(5, .int (nI (0))), (4, .int (nI ((M 1 (w)) / (5)))), (0, .ref (ad 0)), (1, .int (nI (w))), (2, .int (nI (E))), (3, .int (nI (y)))]) hx hb dX0_takenOfMonthsBefore_11 hl (by decide) rfl (fun ls hl => ?_)
  refine lv_iconst (v := nI 0) hx hb dX0_takenOfMonthsBefore_13 (by decide) ?_
  refine lv_istore (lv' := [(6, .int (nI (0))), (5, .int (nI (0))), (4, .int (nI ((M 1 (w)) / (5)))), (0, .ref (ad 0)), (1, .int (nI (w))), (2, .int (nI (E))), (3, .int (nI (y)))]) hx hb dX0_takenOfMonthsBefore_14 hl (by decide) rfl (fun ls hl => ?_)
  have lp16 : ∀ (n j : Nat), j ≤ E → E - j < n → ∀ ls : Array Slot, lv_has ls 9 [(0, .ref (ad 0)), (1, .int (nI (w))), (2, .int (nI (E))), (3, .int (nI (y))), (4, .int (nI ((M 1 (w)) / (5)))), (5, .int (nI (ssum (fun m => tks M w y m) (j)))), (6, .int (nI (j)))] → W p l e (rmP 1) s m args below meth c s.heap [] 0 0 Q (F0 m 16 ls []) := by
    intro n
    induction n with
    | zero => intro j q1 q2; omega
    | succ n ih16 =>
      intro j q1_16 q2_16 ls hl
      refine lv_iload hx hb dX0_takenOfMonthsBefore_16 (lv_at hl 6 rfl) ?_
      refine lv_iload_n hx hb dX0_takenOfMonthsBefore_18 rfl (lv_at hl 2 rfl) ?_
      refine zb_ge (tgt := 103) hx hb (by omega) (by omega) dX0_takenOfMonthsBefore_19 (by decide) (fun c_2 => ?_) (fun c_2 => ?_)
      · skip
        have q_3 : j = E := by omega
        subst q_3
        refine lv_iload hx hb dX0_takenOfMonthsBefore_103 (lv_at hl 5 rfl) ?_
        exact hret rfl dX0_takenOfMonthsBefore_105
      · skip
        refine lv_aload_n hx hb dX0_takenOfMonthsBefore_22 rfl (lv_at hl 0 rfl) ?_
        refine zg0 hx hb hw0 hown hK hP (by decide) rfl 3 (by decide) (hts (.fieldLink RX0 21 "WellField" "pumping" "[[I") (by decide +kernel)) rfl rfl dX0_takenOfMonthsBefore_23 ?_
        refine lv_iload_n hx hb dX0_takenOfMonthsBefore_26 rfl (lv_at hl 1 rfl) ?_
        refine zq_ld hx hb hK hP 4 (by decide) 2 rfl rfl (by decide) (i := w) (by omega) (a := ad (11 + (w))) rfl dX0_takenOfMonthsBefore_27 ?_
        refine lv_iload hx hb dX0_takenOfMonthsBefore_28 (lv_at hl 6 rfl) ?_
        refine zi_ld hx hb hK hP (11 + (w)) (by omega) 0 (wcE_pump (by omega)) rfl (by decide) (i := j) (by omega) (v := nI (M (10 + 3 * (w)) (j))) rfl dX0_takenOfMonthsBefore_30 ?_
        have f_4 := hI.un (w) (by omega) (j)
        refine lv_iconst (v := nI 2) hx hb dX0_takenOfMonthsBefore_31 (by decide) ?_
        refine zr_idiv hx hb (by omega) (by omega) (by omega) dX0_takenOfMonthsBefore_32 ?_
        refine lv_istore (lv' := [(7, .int (nI ((M (10 + 3 * (w)) (j)) / (2)))), (0, .ref (ad 0)), (1, .int (nI (w))), (2, .int (nI (E))), (3, .int (nI (y))), (4, .int (nI ((M 1 (w)) / (5)))), (5, .int (nI (ssum (fun m => tks M w y m) (j)))), (6, .int (nI (j)))]) hx hb dX0_takenOfMonthsBefore_33 hl (by decide) rfl (fun ls hl => ?_)
        refine lv_aload_n hx hb dX0_takenOfMonthsBefore_35 rfl (lv_at hl 1 rfl) ?_
        refine zg0 hx hb hw0 hown hK hP (by decide) rfl 3 (by decide) (hts (.fieldLink RX0 21 "WellField" "pumping" "[[I") (by decide +kernel)) rfl rfl dX0_takenOfMonthsBefore_36 ?_
        refine lv_iload_n hx hb dX0_takenOfMonthsBefore_39 rfl (lv_at hl 2 rfl) ?_
        refine zq_ld hx hb hK hP 4 (by decide) 2 rfl rfl (by decide) (i := w) (by omega) (a := ad (11 + (w))) rfl dX0_takenOfMonthsBefore_40 ?_
        refine lv_iload hx hb dX0_takenOfMonthsBefore_41 (lv_at hl 7 rfl) ?_
        refine zi_ld hx hb hK hP (11 + (w)) (by omega) 0 (wcE_pump (by omega)) rfl (by decide) (i := j) (by omega) (v := nI (M (10 + 3 * (w)) (j))) rfl dX0_takenOfMonthsBefore_43 ?_
        have f_5 := hI.un (w) (by omega) (j)
        refine lv_iload hx hb dX0_takenOfMonthsBefore_44 (lv_at hl 0 rfl) ?_
        refine zr_isub hx hb (by omega) dX0_takenOfMonthsBefore_46 ?_
        refine lv_istore (lv' := [(8, .int (nI ((M (10 + 3 * (w)) (j)) - ((M (10 + 3 * (w)) (j)) / (2))))), (7, .int (nI ((M (10 + 3 * (w)) (j)) / (2)))), (0, .ref (ad 0)), (1, .int (nI (w))), (2, .int (nI (E))), (3, .int (nI (y))), (4, .int (nI ((M 1 (w)) / (5)))), (5, .int (nI (ssum (fun m => tks M w y m) (j)))), (6, .int (nI (j)))]) hx hb dX0_takenOfMonthsBefore_47 hl (by decide) rfl (fun ls hl => ?_)
        refine lv_iload hx hb dX0_takenOfMonthsBefore_49 (lv_at hl 7 rfl) ?_
        refine lv_iload hx hb dX0_takenOfMonthsBefore_51 (lv_at hl 8 rfl) ?_
        refine lv_iload hx hb dX0_takenOfMonthsBefore_53 (lv_at hl 6 rfl) ?_
        refine zr_iadd hx hb dX0_takenOfMonthsBefore_55 ?_
        refine lv_iload_n hx hb dX0_takenOfMonthsBefore_56 rfl (lv_at hl 5 rfl) ?_
        refine vp_callSi (W.runS (As := [.int (nI ((j) + ((M 1 (w)) / (5)))), .int (nI (y))]) (rest := [.int (nI (ssum (fun m => tks M w y m) (j)))]) ⟨hx, hb, hml, hown, hts⟩ (c0_isInYear l (a := (j) + ((M 1 (w)) / (5))) (y := y) (by omega) (by omega)) (va_cwS 2 hts gX0_takenOfMonthsBefore_X0_isInYear rfl rfl rfl (by decide +kernel) (by decide)) psN rfl rfl hl.1 rfl (lv_room (Nat.le_of_ble_eq_true rfl)) dX0_takenOfMonthsBefore_57 (by decide)) (fun r_6 hr_6 => ?_)
        obtain ⟨b_7, rfl, hb_7⟩ := hr_6
        subst hb_7
        refine zb_Beq (tgt := 68) hx hb dX0_takenOfMonthsBefore_60 (by decide) (fun c_8 => ?_) (fun c_8 => ?_)
        · skip
          refine lv_iconst (v := nI 0) hx hb dX0_takenOfMonthsBefore_68 (by decide) ?_
          refine zt_i (y := nI (if (j + M 1 w / 5) / 12 = y then M (10 + 3 * w) j - M (10 + 3 * w) j / 2 else 0)) (congrArg nI (by simp_all)) ?_
          refine zr_iadd hx hb dX0_takenOfMonthsBefore_69 ?_
          refine lv_istore (lv' := [(5, .int (nI ((ssum (fun m => tks M w y m) (j)) + (if (j + M 1 w / 5) / 12 = y then M (10 + 3 * w) j - M (10 + 3 * w) j / 2 else 0)))), (8, .int (nI ((M (10 + 3 * (w)) (j)) - ((M (10 + 3 * (w)) (j)) / (2))))), (7, .int (nI ((M (10 + 3 * (w)) (j)) / (2)))), (0, .ref (ad 0)), (1, .int (nI (w))), (2, .int (nI (E))), (3, .int (nI (y))), (4, .int (nI ((M 1 (w)) / (5)))), (6, .int (nI (j)))]) hx hb dX0_takenOfMonthsBefore_70 hl (by decide) rfl (fun ls hl => ?_)
          refine lv_iload hx hb dX0_takenOfMonthsBefore_72 (lv_at hl 0 rfl) ?_
          refine lv_iload hx hb dX0_takenOfMonthsBefore_74 (lv_at hl 8 rfl) ?_
          refine lv_iload hx hb dX0_takenOfMonthsBefore_76 (lv_at hl 7 rfl) ?_
          refine zr_iadd hx hb dX0_takenOfMonthsBefore_78 ?_
          refine lv_iconst (v := nI 1) hx hb dX0_takenOfMonthsBefore_79 (by decide) ?_
          refine zr_iadd hx hb dX0_takenOfMonthsBefore_80 ?_
          refine lv_iload_n hx hb dX0_takenOfMonthsBefore_81 rfl (lv_at hl 6 rfl) ?_
          refine vp_callSi (W.runS (As := [.int (nI (((j) + ((M 1 (w)) / (5))) + (1))), .int (nI (y))]) (rest := [.int (nI ((ssum (fun m => tks M w y m) (j)) + (if (j + M 1 w / 5) / 12 = y then M (10 + 3 * w) j - M (10 + 3 * w) j / 2 else 0)))]) ⟨hx, hb, hml, hown, hts⟩ (c0_isInYear l (a := ((j) + ((M 1 (w)) / (5))) + (1)) (y := y) (by omega) (by omega)) (va_cwS 2 hts gX0_takenOfMonthsBefore_X0_isInYear rfl rfl rfl (by decide +kernel) (by decide)) psN rfl rfl hl.1 rfl (lv_room (Nat.le_of_ble_eq_true rfl)) dX0_takenOfMonthsBefore_82 (by decide)) (fun r_9 hr_9 => ?_)
          obtain ⟨b_10, rfl, hb_10⟩ := hr_9
          subst hb_10
          refine zb_Beq (tgt := 93) hx hb dX0_takenOfMonthsBefore_85 (by decide) (fun c_11 => ?_) (fun c_11 => ?_)
          · skip
            refine lv_iconst (v := nI 0) hx hb dX0_takenOfMonthsBefore_93 (by decide) ?_
            refine zt_i (y := nI (if (j + M 1 w / 5 + 1) / 12 = y then M (10 + 3 * w) j / 2 else 0)) (congrArg nI (by simp_all)) ?_
            refine zr_iadd hx hb dX0_takenOfMonthsBefore_94 ?_
            refine lv_istore (lv' := [(5, .int (nI (((ssum (fun m => tks M w y m) (j)) + (if (j + M 1 w / 5) / 12 = y then M (10 + 3 * w) j - M (10 + 3 * w) j / 2 else 0)) + (if (j + M 1 w / 5 + 1) / 12 = y then M (10 + 3 * w) j / 2 else 0)))), (8, .int (nI ((M (10 + 3 * (w)) (j)) - ((M (10 + 3 * (w)) (j)) / (2))))), (7, .int (nI ((M (10 + 3 * (w)) (j)) / (2)))), (0, .ref (ad 0)), (1, .int (nI (w))), (2, .int (nI (E))), (3, .int (nI (y))), (4, .int (nI ((M 1 (w)) / (5)))), (6, .int (nI (j)))]) hx hb dX0_takenOfMonthsBefore_95 hl (by decide) rfl (fun ls hl => ?_)
            have hl := lv_cast (l2 := [(5, .int (nI (ssum (fun m => tks M w y m) (j + 1)))), (8, .int (nI ((M (10 + 3 * (w)) (j)) - ((M (10 + 3 * (w)) (j)) / (2))))), (7, .int (nI ((M (10 + 3 * (w)) (j)) / (2)))), (0, .ref (ad 0)), (1, .int (nI (w))), (2, .int (nI (E))), (3, .int (nI (y))), (4, .int (nI ((M 1 (w)) / (5)))), (6, .int (nI (j)))]) hl (by rw [show (ssum (fun m => tks M w y m) (j + 1)) = (((ssum (fun m => tks M w y m) (j)) + (if (j + M 1 w / 5) / 12 = y then M (10 + 3 * w) j - M (10 + 3 * w) j / 2 else 0)) + (if (j + M 1 w / 5 + 1) / 12 = y then M (10 + 3 * w) j / 2 else 0)) from (by rw [ssum_s, tks]; exact (Nat.add_assoc _ _ _).symm)])
            refine lv_iinc (v := nI (j + 1)) (lv' := [(6, .int (nI (j + 1))), (5, .int (nI (ssum (fun m => tks M w y m) (j + 1)))), (8, .int (nI ((M (10 + 3 * (w)) (j)) - ((M (10 + 3 * (w)) (j)) / (2))))), (7, .int (nI ((M (10 + 3 * (w)) (j)) / (2)))), (0, .ref (ad 0)), (1, .int (nI (w))), (2, .int (nI (E))), (3, .int (nI (y))), (4, .int (nI ((M 1 (w)) / (5))))]) hx hb dX0_takenOfMonthsBefore_97 hl (k := 8) rfl (zn_inc (j)) (by decide) rfl (fun ls hl => ?_)
            refine lv_goto (tgt := 16) hx hb dX0_takenOfMonthsBefore_100 (by decide) ?_
            exact ih16 (j + 1) (by omega) (by omega) _ (lv_sub hl [4, 5, 6, 7, 8, 1, 0] rfl)
          · skip
            refine lv_iload hx hb dX0_takenOfMonthsBefore_88 (lv_at hl 2 rfl) ?_
            refine lv_goto (tgt := 94) hx hb dX0_takenOfMonthsBefore_90 (by decide) ?_
            refine zt_i (y := nI (if (j + M 1 w / 5 + 1) / 12 = y then M (10 + 3 * w) j / 2 else 0)) (congrArg nI (by simp_all)) ?_
            refine zr_iadd hx hb dX0_takenOfMonthsBefore_94 ?_
            refine lv_istore (lv' := [(5, .int (nI (((ssum (fun m => tks M w y m) (j)) + (if (j + M 1 w / 5) / 12 = y then M (10 + 3 * w) j - M (10 + 3 * w) j / 2 else 0)) + (if (j + M 1 w / 5 + 1) / 12 = y then M (10 + 3 * w) j / 2 else 0)))), (8, .int (nI ((M (10 + 3 * (w)) (j)) - ((M (10 + 3 * (w)) (j)) / (2))))), (7, .int (nI ((M (10 + 3 * (w)) (j)) / (2)))), (0, .ref (ad 0)), (1, .int (nI (w))), (2, .int (nI (E))), (3, .int (nI (y))), (4, .int (nI ((M 1 (w)) / (5)))), (6, .int (nI (j)))]) hx hb dX0_takenOfMonthsBefore_95 hl (by decide) rfl (fun ls hl => ?_)
            have hl := lv_cast (l2 := [(5, .int (nI (ssum (fun m => tks M w y m) (j + 1)))), (8, .int (nI ((M (10 + 3 * (w)) (j)) - ((M (10 + 3 * (w)) (j)) / (2))))), (7, .int (nI ((M (10 + 3 * (w)) (j)) / (2)))), (0, .ref (ad 0)), (1, .int (nI (w))), (2, .int (nI (E))), (3, .int (nI (y))), (4, .int (nI ((M 1 (w)) / (5)))), (6, .int (nI (j)))]) hl (by rw [show (ssum (fun m => tks M w y m) (j + 1)) = (((ssum (fun m => tks M w y m) (j)) + (if (j + M 1 w / 5) / 12 = y then M (10 + 3 * w) j - M (10 + 3 * w) j / 2 else 0)) + (if (j + M 1 w / 5 + 1) / 12 = y then M (10 + 3 * w) j / 2 else 0)) from (by rw [ssum_s, tks]; exact (Nat.add_assoc _ _ _).symm)])
            refine lv_iinc (v := nI (j + 1)) (lv' := [(6, .int (nI (j + 1))), (5, .int (nI (ssum (fun m => tks M w y m) (j + 1)))), (8, .int (nI ((M (10 + 3 * (w)) (j)) - ((M (10 + 3 * (w)) (j)) / (2))))), (7, .int (nI ((M (10 + 3 * (w)) (j)) / (2)))), (0, .ref (ad 0)), (1, .int (nI (w))), (2, .int (nI (E))), (3, .int (nI (y))), (4, .int (nI ((M 1 (w)) / (5))))]) hx hb dX0_takenOfMonthsBefore_97 hl (k := 8) rfl (zn_inc (j)) (by decide) rfl (fun ls hl => ?_)
            refine lv_goto (tgt := 16) hx hb dX0_takenOfMonthsBefore_100 (by decide) ?_
            exact ih16 (j + 1) (by omega) (by omega) _ (lv_sub hl [4, 5, 6, 7, 8, 1, 0] rfl)
        · skip
          refine lv_iload hx hb dX0_takenOfMonthsBefore_63 (lv_at hl 0 rfl) ?_
          refine lv_goto (tgt := 69) hx hb dX0_takenOfMonthsBefore_65 (by decide) ?_
          refine zt_i (y := nI (if (j + M 1 w / 5) / 12 = y then M (10 + 3 * w) j - M (10 + 3 * w) j / 2 else 0)) (congrArg nI (by simp_all)) ?_
          refine zr_iadd hx hb dX0_takenOfMonthsBefore_69 ?_
          refine lv_istore (lv' := [(5, .int (nI ((ssum (fun m => tks M w y m) (j)) + (if (j + M 1 w / 5) / 12 = y then M (10 + 3 * w) j - M (10 + 3 * w) j / 2 else 0)))), (8, .int (nI ((M (10 + 3 * (w)) (j)) - ((M (10 + 3 * (w)) (j)) / (2))))), (7, .int (nI ((M (10 + 3 * (w)) (j)) / (2)))), (0, .ref (ad 0)), (1, .int (nI (w))), (2, .int (nI (E))), (3, .int (nI (y))), (4, .int (nI ((M 1 (w)) / (5)))), (6, .int (nI (j)))]) hx hb dX0_takenOfMonthsBefore_70 hl (by decide) rfl (fun ls hl => ?_)
          refine lv_iload hx hb dX0_takenOfMonthsBefore_72 (lv_at hl 0 rfl) ?_
          refine lv_iload hx hb dX0_takenOfMonthsBefore_74 (lv_at hl 8 rfl) ?_
          refine lv_iload hx hb dX0_takenOfMonthsBefore_76 (lv_at hl 7 rfl) ?_
          refine zr_iadd hx hb dX0_takenOfMonthsBefore_78 ?_
          refine lv_iconst (v := nI 1) hx hb dX0_takenOfMonthsBefore_79 (by decide) ?_
          refine zr_iadd hx hb dX0_takenOfMonthsBefore_80 ?_
          refine lv_iload_n hx hb dX0_takenOfMonthsBefore_81 rfl (lv_at hl 6 rfl) ?_
          refine vp_callSi (W.runS (As := [.int (nI (((j) + ((M 1 (w)) / (5))) + (1))), .int (nI (y))]) (rest := [.int (nI ((ssum (fun m => tks M w y m) (j)) + (if (j + M 1 w / 5) / 12 = y then M (10 + 3 * w) j - M (10 + 3 * w) j / 2 else 0)))]) ⟨hx, hb, hml, hown, hts⟩ (c0_isInYear l (a := ((j) + ((M 1 (w)) / (5))) + (1)) (y := y) (by omega) (by omega)) (va_cwS 2 hts gX0_takenOfMonthsBefore_X0_isInYear rfl rfl rfl (by decide +kernel) (by decide)) psN rfl rfl hl.1 rfl (lv_room (Nat.le_of_ble_eq_true rfl)) dX0_takenOfMonthsBefore_82 (by decide)) (fun r_12 hr_12 => ?_)
          obtain ⟨b_13, rfl, hb_13⟩ := hr_12
          subst hb_13
          refine zb_Beq (tgt := 93) hx hb dX0_takenOfMonthsBefore_85 (by decide) (fun c_14 => ?_) (fun c_14 => ?_)
          · skip
            refine lv_iconst (v := nI 0) hx hb dX0_takenOfMonthsBefore_93 (by decide) ?_
            refine zt_i (y := nI (if (j + M 1 w / 5 + 1) / 12 = y then M (10 + 3 * w) j / 2 else 0)) (congrArg nI (by simp_all)) ?_
            refine zr_iadd hx hb dX0_takenOfMonthsBefore_94 ?_
            refine lv_istore (lv' := [(5, .int (nI (((ssum (fun m => tks M w y m) (j)) + (if (j + M 1 w / 5) / 12 = y then M (10 + 3 * w) j - M (10 + 3 * w) j / 2 else 0)) + (if (j + M 1 w / 5 + 1) / 12 = y then M (10 + 3 * w) j / 2 else 0)))), (8, .int (nI ((M (10 + 3 * (w)) (j)) - ((M (10 + 3 * (w)) (j)) / (2))))), (7, .int (nI ((M (10 + 3 * (w)) (j)) / (2)))), (0, .ref (ad 0)), (1, .int (nI (w))), (2, .int (nI (E))), (3, .int (nI (y))), (4, .int (nI ((M 1 (w)) / (5)))), (6, .int (nI (j)))]) hx hb dX0_takenOfMonthsBefore_95 hl (by decide) rfl (fun ls hl => ?_)
            have hl := lv_cast (l2 := [(5, .int (nI (ssum (fun m => tks M w y m) (j + 1)))), (8, .int (nI ((M (10 + 3 * (w)) (j)) - ((M (10 + 3 * (w)) (j)) / (2))))), (7, .int (nI ((M (10 + 3 * (w)) (j)) / (2)))), (0, .ref (ad 0)), (1, .int (nI (w))), (2, .int (nI (E))), (3, .int (nI (y))), (4, .int (nI ((M 1 (w)) / (5)))), (6, .int (nI (j)))]) hl (by rw [show (ssum (fun m => tks M w y m) (j + 1)) = (((ssum (fun m => tks M w y m) (j)) + (if (j + M 1 w / 5) / 12 = y then M (10 + 3 * w) j - M (10 + 3 * w) j / 2 else 0)) + (if (j + M 1 w / 5 + 1) / 12 = y then M (10 + 3 * w) j / 2 else 0)) from (by rw [ssum_s, tks]; exact (Nat.add_assoc _ _ _).symm)])
            refine lv_iinc (v := nI (j + 1)) (lv' := [(6, .int (nI (j + 1))), (5, .int (nI (ssum (fun m => tks M w y m) (j + 1)))), (8, .int (nI ((M (10 + 3 * (w)) (j)) - ((M (10 + 3 * (w)) (j)) / (2))))), (7, .int (nI ((M (10 + 3 * (w)) (j)) / (2)))), (0, .ref (ad 0)), (1, .int (nI (w))), (2, .int (nI (E))), (3, .int (nI (y))), (4, .int (nI ((M 1 (w)) / (5))))]) hx hb dX0_takenOfMonthsBefore_97 hl (k := 8) rfl (zn_inc (j)) (by decide) rfl (fun ls hl => ?_)
            refine lv_goto (tgt := 16) hx hb dX0_takenOfMonthsBefore_100 (by decide) ?_
            exact ih16 (j + 1) (by omega) (by omega) _ (lv_sub hl [4, 5, 6, 7, 8, 1, 0] rfl)
          · skip
            refine lv_iload hx hb dX0_takenOfMonthsBefore_88 (lv_at hl 2 rfl) ?_
            refine lv_goto (tgt := 94) hx hb dX0_takenOfMonthsBefore_90 (by decide) ?_
            refine zt_i (y := nI (if (j + M 1 w / 5 + 1) / 12 = y then M (10 + 3 * w) j / 2 else 0)) (congrArg nI (by simp_all)) ?_
            refine zr_iadd hx hb dX0_takenOfMonthsBefore_94 ?_
            refine lv_istore (lv' := [(5, .int (nI (((ssum (fun m => tks M w y m) (j)) + (if (j + M 1 w / 5) / 12 = y then M (10 + 3 * w) j - M (10 + 3 * w) j / 2 else 0)) + (if (j + M 1 w / 5 + 1) / 12 = y then M (10 + 3 * w) j / 2 else 0)))), (8, .int (nI ((M (10 + 3 * (w)) (j)) - ((M (10 + 3 * (w)) (j)) / (2))))), (7, .int (nI ((M (10 + 3 * (w)) (j)) / (2)))), (0, .ref (ad 0)), (1, .int (nI (w))), (2, .int (nI (E))), (3, .int (nI (y))), (4, .int (nI ((M 1 (w)) / (5)))), (6, .int (nI (j)))]) hx hb dX0_takenOfMonthsBefore_95 hl (by decide) rfl (fun ls hl => ?_)
            have hl := lv_cast (l2 := [(5, .int (nI (ssum (fun m => tks M w y m) (j + 1)))), (8, .int (nI ((M (10 + 3 * (w)) (j)) - ((M (10 + 3 * (w)) (j)) / (2))))), (7, .int (nI ((M (10 + 3 * (w)) (j)) / (2)))), (0, .ref (ad 0)), (1, .int (nI (w))), (2, .int (nI (E))), (3, .int (nI (y))), (4, .int (nI ((M 1 (w)) / (5)))), (6, .int (nI (j)))]) hl (by rw [show (ssum (fun m => tks M w y m) (j + 1)) = (((ssum (fun m => tks M w y m) (j)) + (if (j + M 1 w / 5) / 12 = y then M (10 + 3 * w) j - M (10 + 3 * w) j / 2 else 0)) + (if (j + M 1 w / 5 + 1) / 12 = y then M (10 + 3 * w) j / 2 else 0)) from (by rw [ssum_s, tks]; exact (Nat.add_assoc _ _ _).symm)])
            refine lv_iinc (v := nI (j + 1)) (lv' := [(6, .int (nI (j + 1))), (5, .int (nI (ssum (fun m => tks M w y m) (j + 1)))), (8, .int (nI ((M (10 + 3 * (w)) (j)) - ((M (10 + 3 * (w)) (j)) / (2))))), (7, .int (nI ((M (10 + 3 * (w)) (j)) / (2)))), (0, .ref (ad 0)), (1, .int (nI (w))), (2, .int (nI (E))), (3, .int (nI (y))), (4, .int (nI ((M 1 (w)) / (5))))]) hx hb dX0_takenOfMonthsBefore_97 hl (k := 8) rfl (zn_inc (j)) (by decide) rfl (fun ls hl => ?_)
            refine lv_goto (tgt := 16) hx hb dX0_takenOfMonthsBefore_100 (by decide) ?_
            exact ih16 (j + 1) (by omega) (by omega) _ (lv_sub hl [4, 5, 6, 7, 8, 1, 0] rfl)
  exact lp16 (E - (0) + 1) (0) (by omega) (by omega) _ (lv_sub hl [3, 4, 5, 6, 2, 1, 0] rfl)
set_option maxHeartbeats 4000000 in
set_option maxRecDepth 100000 in
/-- the burden of some units -/
theorem c0_burdenOfUnits (l : Launch) {D : va_G} {ad : Nat → Nat} {cI cJ cQ : ClassId} {M : Mdl} {ts : Nat → Nat} {pu : Nat → Int64} (hI : Inv M) {w v x : Nat} (hw : w < M 0 0) (hv : v < M 5 0) (hx31 : x < 2 ^ 31) (hT : ∀ r, r < 5 → ts r = ssum (fun d => M (11 + 3 * r) d) 12) : Met l yX0_burdenOfUnits wsX0_burdenOfUnits (rmP 2) (va_Pc [.ref (ad 0), .int (nI (w)), .int (nI (v)), .int (nI (x))] (KP0 D ad cI cJ cQ M ts pu)) (vp_Sl (fun r_ => r_ = lN (x * als M w v))) 0 0 (fun _ => False) := by
  refine mk_Sl (post := fun r_ => r_ = lN (x * als M w v)) (cc := cX0_burdenOfUnits) (maxL := 5) (by decide) rfl (Nat.le_of_ble_eq_true rfl) ?_
  intro p e s m args below meth c Q C0 B0 hret ls hl
  obtain ⟨hx, hb, hr, hml, hown, hts, hlocks⟩ := C0
  have hown : s.vm.findClass RX0 = some m.cls := hown
  obtain ⟨hK, hP⟩ := B0
  have hw0 : ∀ w ∈ wsX00, w.before args s = true := fun w h => hts w ((by decide +kernel : ∀ w ∈ wsX00, w ∈ wsX0_burdenOfUnits) w h)
  have b_nw := hI.nw
  have b_nv := hI.nv
  have hl : lv_has ls 5 [(0, .ref (ad 0)), (1, .int (nI (w))), (2, .int (nI (v))), (3, .int (nI (x)))] := hl
  refine lv_aload_n hx hb dX0_burdenOfUnits_0 rfl (lv_at hl 0 rfl) ?_
  refine lv_iload_n hx hb dX0_burdenOfUnits_1 rfl (lv_at hl 1 rfl) ?_
  refine lv_iload_n hx hb dX0_burdenOfUnits_2 rfl (lv_at hl 2 rfl) ?_
  refine vp_callSi (W.runV (As := [.int (nI (w)), .int (nI (v))]) (rest := []) ⟨hx, hb, hml, hown, hts⟩ (c0_reachOf l hI (w := w) (v := v) (by omega) (by omega)) (cwV 2 hts gX0_burdenOfUnits_X0_reachOf rfl rfl rfl (by decide +kernel) (by decide)) (pv0 hK hP) rfl rfl hl.1 rfl (lv_room (Nat.le_of_ble_eq_true rfl)) dX0_burdenOfUnits_3 (by decide)) (fun r_1 hr_1 => ?_)
  subst hr_1
  have f_2 := rch_le hI (w) (v)
  refine lv_istore (lv' := [(4, .int (nI (rch M (w) (v)))), (0, .ref (ad 0)), (1, .int (nI (w))), (2, .int (nI (v))), (3, .int (nI (x)))]) hx hb dX0_burdenOfUnits_6 hl (by decide) rfl (fun ls hl => ?_)
  refine lv_iload hx hb dX0_burdenOfUnits_8 (lv_at hl 0 rfl) ?_
  refine lv_iconst (v := nI 5) hx hb dX0_burdenOfUnits_10 (by decide) ?_
  refine zb_ge (tgt := 28) hx hb (by omega) (by omega) dX0_burdenOfUnits_11 (by decide) (fun c_3 => ?_) (fun c_3 => ?_)
  · skip
    refine lv_lconst (v := lN 0) hx hb dX0_burdenOfUnits_28 (by decide) ?_
    refine zt_l (y := lN (x * als M w v)) (congrArg lN (by rw [als_0 (by omega), Nat.mul_zero])) ?_
    exact hret rfl dX0_burdenOfUnits_29
  · skip
    refine lv_iload_n hx hb dX0_burdenOfUnits_14 rfl (lv_at hl 4 rfl) ?_
    refine zr_i2l hx hb (by omega) dX0_burdenOfUnits_15 ?_
    refine lv_aload_n hx hb dX0_burdenOfUnits_16 rfl (lv_at hl 1 rfl) ?_
    refine zg0 hx hb hw0 hown hK hP (by decide) rfl 7 (by decide) (hts (.fieldLink RX0 33 "WellField" "tableSums" "[I") (by decide +kernel)) rfl rfl dX0_burdenOfUnits_17 ?_
    refine lv_iload hx hb dX0_burdenOfUnits_20 (lv_at hl 0 rfl) ?_
    refine zi_ld hx hb hK hP 8 (by decide) 0 rfl rfl (by decide) (i := rch M (w) (v)) (by omega) (v := nI ((ts) (rch M (w) (v)))) rfl dX0_burdenOfUnits_22 ?_
    refine zr_i2l hx hb (by rw [hT _ (by omega)]; exact Nat.lt_of_le_of_lt (ssum_le (c := 1000) (fun k _ => hI.tb _ (by omega) k)) (by decide)) dX0_burdenOfUnits_23 ?_
    refine zr_lmul hx hb dX0_burdenOfUnits_24 ?_
    refine lv_goto (tgt := 29) hx hb dX0_burdenOfUnits_25 (by decide) ?_
    refine zt_l (y := lN (x * als M w v)) (congrArg lN (by rw [als_5 (by omega), hT _ (by omega)])) ?_
    exact hret rfl dX0_burdenOfUnits_29
set_option maxHeartbeats 4000000 in
set_option maxRecDepth 100000 in
/-- what the other well gets -/
theorem c0_unitsGot (l : Launch) {D : va_G} {ad : Nat → Nat} {cI cJ cQ : ClassId} {M : Mdl} {ts : Nat → Nat} {pu : Nat → Int64} (hI : Inv M) {f t u : Nat} (hf : f < M 0 0) (ht : t < M 0 0) (hu : u ≤ 5000) : Met l yX0_unitsGot wsX0_unitsGot (rmP 0) (va_Pc [.ref (ad 0), .int (nI (f)), .int (nI (t)), .int (nI (u))] (KP0 D ad cI cJ cQ M ts pu)) (vp_Si (fun r_ => r_ = nI (gt M f t u))) 0 0 (fun _ => False) := by
  refine mk_Si (post := fun r_ => r_ = nI (gt M f t u)) (cc := cX0_unitsGot) (maxL := 4) (by decide) rfl (Nat.le_of_ble_eq_true rfl) ?_
  intro p e s m args below meth c Q C0 B0 hret ls hl
  obtain ⟨hx, hb, hr, hml, hown, hts, hlocks⟩ := C0
  have hown : s.vm.findClass RX0 = some m.cls := hown
  obtain ⟨hK, hP⟩ := B0
  have hw0 : ∀ w ∈ wsX00, w.before args s = true := fun w h => hts w ((by decide +kernel : ∀ w ∈ wsX00, w ∈ wsX0_unitsGot) w h)
  have b_nw := hI.nw
  have b_nv := hI.nv
  have hl : lv_has ls 4 [(0, .ref (ad 0)), (1, .int (nI (f))), (2, .int (nI (t))), (3, .int (nI (u)))] := hl
  refine lv_iload_n hx hb dX0_unitsGot_0 rfl (lv_at hl 3 rfl) ?_
  refine lv_aload_n hx hb dX0_unitsGot_1 rfl (lv_at hl 0 rfl) ?_
  refine zg0 hx hb hw0 hown hK hP (by decide) rfl 8 (by decide) (hts (.fieldLink RX0 36 "WellField" "ratios" "[[I") (by decide +kernel)) rfl rfl dX0_unitsGot_2 ?_
  refine lv_aload_n hx hb dX0_unitsGot_5 rfl (lv_at hl 0 rfl) ?_
  refine zg0 hx hb hw0 hown hK hP (by decide) rfl 1 (by decide) (hts (.fieldLink RX0 13 "WellField" "wellZones" "[I") (by decide +kernel)) rfl rfl dX0_unitsGot_6 ?_
  refine lv_iload_n hx hb dX0_unitsGot_9 rfl (lv_at hl 1 rfl) ?_
  refine zi_ld hx hb hK hP 2 (by decide) 0 rfl rfl (by decide) (i := f) (by omega) (v := nI (M 2 (f))) rfl dX0_unitsGot_10 ?_
  have f_1 := hI.zo (f)
  refine zq_ld hx hb hK hP 9 (by decide) 2 rfl rfl (by decide) (i := M 2 (f)) (by omega) (a := ad (24 + (M 2 (f)))) rfl dX0_unitsGot_11 ?_
  refine lv_aload_n hx hb dX0_unitsGot_12 rfl (lv_at hl 0 rfl) ?_
  refine zg0 hx hb hw0 hown hK hP (by decide) rfl 1 (by decide) (hts (.fieldLink RX0 13 "WellField" "wellZones" "[I") (by decide +kernel)) rfl rfl dX0_unitsGot_13 ?_
  refine lv_iload_n hx hb dX0_unitsGot_16 rfl (lv_at hl 2 rfl) ?_
  refine zi_ld hx hb hK hP 2 (by decide) 0 rfl rfl (by decide) (i := t) (by omega) (v := nI (M 2 (t))) rfl dX0_unitsGot_17 ?_
  have f_2 := hI.zo (t)
  refine zi_ld hx hb hK hP (24 + (M 2 (f))) (by omega) 0 (wcE_rat (by omega)) rfl (by decide) (i := M 2 (t)) (by omega) (v := nI (M (12 + 3 * (M 2 (f))) (M 2 (t)))) rfl dX0_unitsGot_18 ?_
  have f_3 := hI.ra (M 2 (f)) (by omega) (M 2 (t))
  refine zr_imul hx hb dX0_unitsGot_19 ?_
  refine lv_bipush (v := nI 100) hx hb dX0_unitsGot_20 (by decide) ?_
  refine zr_idiv hx hb (by have := (gt_le hI f t hu).1; omega) (by omega) (by omega) dX0_unitsGot_22 ?_
  exact hret rfl dX0_unitsGot_23
set_option maxHeartbeats 4000000 in
set_option maxRecDepth 100000 in
/-- can a trade be made -/
theorem c0_canTrade (l : Launch) {D : va_G} {ad : Nat → Nat} {cI cJ cQ : ClassId} {M : Mdl} {ts : Nat → Nat} {pu : Nat → Int64} (hI : Inv M) {f t u : Nat} (hf : f < M 0 0) (ht : t < M 0 0) (hu : u ≤ 5000) (hT : ∀ r, r < 5 → ts r = ssum (fun d => M (11 + 3 * r) d) 12) : Met l yX0_canTrade wsX0_canTrade (rmP 3) (va_Pc [.ref (ad 0), .int (nI (f)), .int (nI (t)), .int (nI (u))] (KP0 D ad cI cJ cQ M ts pu)) (vp_Si (fun r => ∃ b : Bool, r = bB b ∧ b = cn M f t u)) 0 0 (fun _ => False) := by
  refine mk_Sz (post := fun b => b = cn M f t u) (cc := cX0_canTrade) (maxL := 6) (by decide) rfl (Nat.le_of_ble_eq_true rfl) ?_
  intro p e s m args below meth c Q C0 B0 hret ls hl
  obtain ⟨hx, hb, hr, hml, hown, hts, hlocks⟩ := C0
  have hown : s.vm.findClass RX0 = some m.cls := hown
  obtain ⟨hK, hP⟩ := B0
  have hw0 : ∀ w ∈ wsX00, w.before args s = true := fun w h => hts w ((by decide +kernel : ∀ w ∈ wsX00, w ∈ wsX0_canTrade) w h)
  have b_nw := hI.nw
  have b_nv := hI.nv
  have b_gt := (gt_le hI f t hu).2
  have hl : lv_has ls 6 [(0, .ref (ad 0)), (1, .int (nI (f))), (2, .int (nI (t))), (3, .int (nI (u)))] := hl
  refine lv_aload_n hx hb dX0_canTrade_0 rfl (lv_at hl 0 rfl) ?_
  refine lv_iload_n hx hb dX0_canTrade_1 rfl (lv_at hl 1 rfl) ?_
  refine lv_iload_n hx hb dX0_canTrade_2 rfl (lv_at hl 2 rfl) ?_
  refine lv_iload_n hx hb dX0_canTrade_3 rfl (lv_at hl 3 rfl) ?_
  refine vp_callSi (W.runV (As := [.int (nI (f)), .int (nI (t)), .int (nI (u))]) (rest := []) ⟨hx, hb, hml, hown, hts⟩ (c0_unitsGot l hI (f := f) (t := t) (u := u) (by omega) (by omega) (by omega)) (cwV 3 hts gX0_canTrade_X0_unitsGot rfl rfl rfl (by decide +kernel) (by decide)) (pv0 hK hP) rfl rfl hl.1 rfl (lv_room (Nat.le_of_ble_eq_true rfl)) dX0_canTrade_4 (by decide)) (fun r_1 hr_1 => ?_)
  subst hr_1
  have f_2 := (gt_le hI (f) (t) (u := u) (by omega)).2
  refine lv_istore (lv' := [(4, .int (nI (gt M (f) (t) (u)))), (0, .ref (ad 0)), (1, .int (nI (f))), (2, .int (nI (t))), (3, .int (nI (u)))]) hx hb dX0_canTrade_7 hl (by decide) rfl (fun ls hl => ?_)
  refine lv_aload_n hx hb dX0_canTrade_9 rfl (lv_at hl 1 rfl) ?_
  refine zg0 hx hb hw0 hown hK hP (by decide) rfl 2 (by decide) (hts (.fieldLink RX0 16 "WellField" "licences" "[I") (by decide +kernel)) rfl rfl dX0_canTrade_10 ?_
  refine lv_iload_n hx hb dX0_canTrade_13 rfl (lv_at hl 2 rfl) ?_
  refine zi_ld hx hb hK hP 3 (by decide) 0 rfl rfl (by decide) (i := f) (by omega) (v := nI (M 3 (f))) rfl dX0_canTrade_14 ?_
  have f_3 := hI.li (f)
  refine lv_iload_n hx hb dX0_canTrade_15 rfl (lv_at hl 4 rfl) ?_
  refine zb_lt (tgt := 34) hx hb (by omega) (by omega) dX0_canTrade_16 (by decide) (fun c_4 => ?_) (fun c_4 => ?_)
  · skip
    refine lv_iconst (v := nI 0) hx hb dX0_canTrade_34 (by decide) ?_
    exact hret (b := false) (by show false = cn M f t u; unfold cn; first | (rw [decide_eq_false (show ¬ u ≤ M 3 f by omega)]; rfl) | (rw [decide_eq_false (show ¬ M 3 t + gt M f t u ≤ 20000 by omega)]; simp; done) | (rw [cnv_f (v := v) (by omega) (by omega)]; simp; done)) rfl dX0_canTrade_35
  · skip
    refine lv_aload_n hx hb dX0_canTrade_19 rfl (lv_at hl 1 rfl) ?_
    refine zg0 hx hb hw0 hown hK hP (by decide) rfl 2 (by decide) (hts (.fieldLink RX0 16 "WellField" "licences" "[I") (by decide +kernel)) rfl rfl dX0_canTrade_20 ?_
    refine lv_iload_n hx hb dX0_canTrade_23 rfl (lv_at hl 3 rfl) ?_
    refine zi_ld hx hb hK hP 3 (by decide) 0 rfl rfl (by decide) (i := t) (by omega) (v := nI (M 3 (t))) rfl dX0_canTrade_24 ?_
    have f_5 := hI.li (t)
    refine lv_iload hx hb dX0_canTrade_25 (lv_at hl 0 rfl) ?_
    refine zr_iadd hx hb dX0_canTrade_27 ?_
    refine lv_sipush (v := nI 20000) hx hb dX0_canTrade_28 (by decide) ?_
    refine zb_le (tgt := 36) hx hb (by omega) (by omega) dX0_canTrade_31 (by decide) (fun c_6 => ?_) (fun c_6 => ?_)
    · skip
      refine lv_iconst (v := nI 0) hx hb dX0_canTrade_36 (by decide) ?_
      refine lv_istore (lv' := [(5, .int (nI (0))), (4, .int (nI (gt M (f) (t) (u)))), (0, .ref (ad 0)), (1, .int (nI (f))), (2, .int (nI (t))), (3, .int (nI (u)))]) hx hb dX0_canTrade_37 hl (by decide) rfl (fun ls hl => ?_)
      have lp39 : ∀ (n v : Nat), v ≤ M 5 0 → M 5 0 - v < n → cnv M f t u v = true → ∀ ls : Array Slot, lv_has ls 6 [(0, .ref (ad 0)), (1, .int (nI (f))), (2, .int (nI (t))), (3, .int (nI (u))), (4, .int (nI (gt M (f) (t) (u)))), (5, .int (nI (v)))] → W p l e (rmP 3) s m args below meth c s.heap [] 0 0 Q (F0 m 39 ls []) := by
        intro n
        induction n with
        | zero => intro v q1 q2; omega
        | succ n ih39 =>
          intro v q1_39 q2_39 cv ls hl
          refine lv_iload hx hb dX0_canTrade_39 (lv_at hl 5 rfl) ?_
          refine lv_aload_n hx hb dX0_canTrade_41 rfl (lv_at hl 0 rfl) ?_
          refine zg0 hx hb hw0 hown hK hP (by decide) rfl 11 (by decide) (hts (.fieldLink RX0 55 "WellField" "watchCount" "I") (by decide +kernel)) rfl rfl dX0_canTrade_42 ?_
          refine zb_ge (tgt := 77) hx hb (by omega) (by omega) dX0_canTrade_45 (by decide) (fun c_7 => ?_) (fun c_7 => ?_)
          · skip
            have q_8 : v = M 5 0 := by omega
            subst q_8
            refine lv_iconst (v := nI 1) hx hb dX0_canTrade_77 (by decide) ?_
            exact hret (b := true) (by show true = cn M f t u; unfold cn; rw [decide_eq_true (by omega), decide_eq_true (by omega)]; rw [cv]; rfl) rfl dX0_canTrade_78
          · skip
            refine lv_aload_n hx hb dX0_canTrade_48 rfl (lv_at hl 0 rfl) ?_
            refine lv_iload_n hx hb dX0_canTrade_49 rfl (lv_at hl 2 rfl) ?_
            refine lv_iload hx hb dX0_canTrade_50 (lv_at hl 5 rfl) ?_
            refine lv_iload hx hb dX0_canTrade_52 (lv_at hl 4 rfl) ?_
            refine vp_callSl (W.runV (As := [.int (nI (t)), .int (nI (v)), .int (nI (gt M (f) (t) (u)))]) (rest := []) ⟨hx, hb, hml, hown, hts⟩ (c0_burdenOfUnits l hI (w := t) (v := v) (x := gt M (f) (t) (u)) (by omega) (by omega) (by omega) hT) (cwV 3 hts gX0_canTrade_X0_burdenOfUnits rfl rfl rfl (by decide +kernel) (by decide)) (pv0 hK hP) rfl rfl hl.1 rfl (lv_room (Nat.le_of_ble_eq_true rfl)) dX0_canTrade_54 (by decide)) (fun r_9 hr_9 => ?_)
            subst hr_9
            refine lv_aload_n hx hb dX0_canTrade_57 rfl (lv_at hl 0 rfl) ?_
            refine lv_iload_n hx hb dX0_canTrade_58 rfl (lv_at hl 1 rfl) ?_
            refine lv_iload hx hb dX0_canTrade_59 (lv_at hl 5 rfl) ?_
            refine lv_iload_n hx hb dX0_canTrade_61 rfl (lv_at hl 3 rfl) ?_
            refine vp_callSl (W.runV (As := [.int (nI (f)), .int (nI (v)), .int (nI (u))]) (rest := [.long (lN ((gt M (f) (t) (u)) * als M (t) (v)))]) ⟨hx, hb, hml, hown, hts⟩ (c0_burdenOfUnits l hI (w := f) (v := v) (x := u) (by omega) (by omega) (by omega) hT) (cwV 3 hts gX0_canTrade_X0_burdenOfUnits rfl rfl rfl (by decide +kernel) (by decide)) (pv0 hK hP) rfl rfl hl.1 rfl (lv_room (Nat.le_of_ble_eq_true rfl)) dX0_canTrade_62 (by decide)) (fun r_10 hr_10 => ?_)
            subst hr_10
            refine zbL_le (tgt := 71) hx hb (by have h1 := als_le hI t v; have h2 := Nat.mul_le_mul b_gt h1; omega) (by have h1 := als_le hI f v; have h2 := Nat.mul_le_mul hu h1; omega) dX0_canTrade_65 dX0_canTrade_66 (by decide) (fun c_11 => ?_) (fun c_11 => ?_)
            · skip
              have cv2 : cnv M f t u (v + 1) = true := by show (cnv M f t u v && decide (gt M f t u * als M t v ≤ u * als M f v)) = true; rw [cv, decide_eq_true (by omega)]; rfl
              refine lv_iinc (v := nI (v + 1)) (lv' := [(5, .int (nI (v + 1))), (0, .ref (ad 0)), (1, .int (nI (f))), (2, .int (nI (t))), (3, .int (nI (u))), (4, .int (nI (gt M (f) (t) (u))))]) hx hb dX0_canTrade_71 hl (k := 5) rfl (zn_inc (v)) (by decide) rfl (fun ls hl => ?_)
              refine lv_goto (tgt := 39) hx hb dX0_canTrade_74 (by decide) ?_
              exact ih39 (v + 1) (by omega) (by omega) cv2 _ (lv_sub hl [1, 2, 3, 4, 5, 0] rfl)
            · skip
              refine lv_iconst (v := nI 0) hx hb dX0_canTrade_69 (by decide) ?_
              exact hret (b := false) (by show false = cn M f t u; unfold cn; first | (rw [decide_eq_false (show ¬ u ≤ M 3 f by omega)]; rfl) | (rw [decide_eq_false (show ¬ M 3 t + gt M f t u ≤ 20000 by omega)]; simp; done) | (rw [cnv_f (v := v) (by omega) (by omega)]; simp; done)) rfl dX0_canTrade_70
      exact lp39 (M 5 0 + 1) 0 (by omega) (by omega) rfl _ (lv_sub hl [2, 3, 4, 5, 1, 0] rfl)
    · skip
      refine lv_iconst (v := nI 0) hx hb dX0_canTrade_34 (by decide) ?_
      exact hret (b := false) (by show false = cn M f t u; unfold cn; first | (rw [decide_eq_false (show ¬ u ≤ M 3 f by omega)]; rfl) | (rw [decide_eq_false (show ¬ M 3 t + gt M f t u ≤ 20000 by omega)]; simp; done) | (rw [cnv_f (v := v) (by omega) (by omega)]; simp; done)) rfl dX0_canTrade_35
end
section
set_option maxHeartbeats 4000000 in
set_option maxRecDepth 100000 in
theorem x0_needIndex (l : Launch) (hfl : l.stackTraces = false) {sa : Nat → Nat} {Z : Nat → Prop} (i : Int32) (n : Nat) : vx_Met l yX0_needIndex wsX0_needIndex (rmX 0 1) (va_Pc [.int i, .int (nI n)] (KX sa Z)) (va_Sv (fun _ => ixB i n = true)) (XCE (fun E => E = eI ∧ ixB i n = false)) 1 6 (fun _ => False) := by
  refine mkX_Sv (cc := cX0_needIndex) (maxL := 2) (by decide) rfl (Nat.le_of_ble_eq_true rfl) ?_
  intro p e s m args below meth c C0 ht B0 hret ls hl
  obtain ⟨hx, hb, hr, hml, hown, hts, hlocks⟩ := C0
  have hown : s.vm.findClass RX0 = some m.cls := hown
  obtain ⟨k1, k2, k3, k4, k5, k6, k7, k8, k9, k10, k11, k12⟩ := B0
  have hl : lv_has ls 2 [(0, .int i), (1, .int (nI n))] := hl
  refine lv_iload_n hx hb dX0_needIndex_0 rfl (lv_at hl 0 rfl) ?_
  refine lv_if_lt (tgt := 9) hx hb dX0_needIndex_1 (by decide) (fun c1 => ?_) (fun c1 => ?_)
  · refine vx_throwS (own := RX0) (cls := eI) (text := "no such number") (names := ["java/lang/RuntimeException", "java/lang/Exception"]) (ik := 114) (is := 116) (ic := 118) (sa := sa 0) (A := Z) hx hb hfl hown (by decide +kernel) (by decide +kernel) (hts (.classLink RX0 114 "java/lang/IndexOutOfBoundsException") (by decide +kernel)) (hts (.initialized "java/lang/IndexOutOfBoundsException") (by decide +kernel)) k3 (vx_hat (B := [.castable eI eI, .declares (Bundle.initS "java/lang/RuntimeException"), .declares (Bundle.initS "java/lang/Exception"), .declares (Bundle.initS Bundle.tN)]) (fun w h => hts w (List.mem_cons_of_mem _ (List.mem_append_right _ h))) (by decide +kernel) (vx_c (va_Nw.use rfl k7) (vx_c (va_Nw.use rfl k10) (vx_c (va_Nw.use rfl k11) (vx_c (va_Nw.use rfl k12) vx_n))))) (by decide +kernel) k1 k2 va_S.rf (hl.1.trans hml.symm) dX0_needIndex_9 dX0_needIndex_12 dX0_needIndex_13 dX0_needIndex_15 dX0_needIndex_18 (fun x h => (ht x h).elim) (by decide) (Nat.le_of_ble_eq_true rfl) (by decide) (by decide) hlocks (fun t _ h1 h2 => ⟨⟨rfl, decide_eq_false (fun z => by have h0 := z.1; rw [Int32.le_iff_toInt_le] at h0; rw [Int32.lt_iff_toInt_lt] at c1; omega)⟩, h1, fun q h _ => h2 q h⟩) (fun z h => by cases h) (by decide) (by decide)
  · refine lv_iload_n hx hb dX0_needIndex_4 rfl (lv_at hl 0 rfl) ?_
    refine lv_iload_n hx hb dX0_needIndex_5 rfl (lv_at hl 1 rfl) ?_
    refine lv_icmp_lt (tgt := 19) hx hb dX0_needIndex_6 (by decide) (fun c2 => ?_) (fun c2 => ?_)
    · exact hret (by decide) (by decide) (decide_eq_true ⟨by rw [Int32.le_iff_toInt_le]; rw [Int32.lt_iff_toInt_lt] at c1; omega, c2⟩) dX0_needIndex_19
    · refine vx_throwS (own := RX0) (cls := eI) (text := "no such number") (names := ["java/lang/RuntimeException", "java/lang/Exception"]) (ik := 114) (is := 116) (ic := 118) (sa := sa 0) (A := Z) hx hb hfl hown (by decide +kernel) (by decide +kernel) (hts (.classLink RX0 114 "java/lang/IndexOutOfBoundsException") (by decide +kernel)) (hts (.initialized "java/lang/IndexOutOfBoundsException") (by decide +kernel)) k3 (vx_hat (B := [.castable eI eI, .declares (Bundle.initS "java/lang/RuntimeException"), .declares (Bundle.initS "java/lang/Exception"), .declares (Bundle.initS Bundle.tN)]) (fun w h => hts w (List.mem_cons_of_mem _ (List.mem_append_right _ h))) (by decide +kernel) (vx_c (va_Nw.use rfl k7) (vx_c (va_Nw.use rfl k10) (vx_c (va_Nw.use rfl k11) (vx_c (va_Nw.use rfl k12) vx_n))))) (by decide +kernel) k1 k2 va_S.rf (hl.1.trans hml.symm) dX0_needIndex_9 dX0_needIndex_12 dX0_needIndex_13 dX0_needIndex_15 dX0_needIndex_18 (fun x h => (ht x h).elim) (by decide) (Nat.le_of_ble_eq_true rfl) (by decide) (by decide) hlocks (fun t _ h1 h2 => ⟨⟨rfl, decide_eq_false (fun z => c2 z.2)⟩, h1, fun q h _ => h2 q h⟩) (fun z h => by cases h) (by decide) (by decide)
set_option maxHeartbeats 4000000 in
set_option maxRecDepth 100000 in
theorem x0_needRange (l : Launch) (hfl : l.stackTraces = false) {sa : Nat → Nat} {Z : Nat → Prop} (i lo hi : Int32) : vx_Met l yX0_needRange wsX0_needRange (rmX 0 1) (va_Pc [.int i, .int lo, .int hi] (KX sa Z)) (va_Sv (fun _ => rgB i lo hi = true)) (XCE (fun E => E = eA ∧ rgB i lo hi = false)) 1 6 (fun _ => False) := by
  refine mkX_Sv (cc := cX0_needRange) (maxL := 3) (by decide) rfl (Nat.le_of_ble_eq_true rfl) ?_
  intro p e s m args below meth c C0 ht B0 hret ls hl
  obtain ⟨hx, hb, hr, hml, hown, hts, hlocks⟩ := C0
  have hown : s.vm.findClass RX0 = some m.cls := hown
  obtain ⟨k1, k2, k3, k4, k5, k6, k7, k8, k9, k10, k11, k12⟩ := B0
  have hl : lv_has ls 3 [(0, .int i), (1, .int lo), (2, .int hi)] := hl
  refine lv_iload_n hx hb dX0_needRange_0 rfl (lv_at hl 0 rfl) ?_
  refine lv_iload_n hx hb dX0_needRange_1 rfl (lv_at hl 1 rfl) ?_
  refine lv_icmp_lt (tgt := 10) hx hb dX0_needRange_2 (by decide) (fun c1 => ?_) (fun c1 => ?_)
  · refine vx_throwS (own := RX0) (cls := eA) (text := "out of its range") (names := ["java/lang/RuntimeException", "java/lang/Exception"]) (ik := 121) (is := 123) (ic := 125) (sa := sa 1) (A := Z) hx hb hfl hown (by decide +kernel) (by decide +kernel) (hts (.classLink RX0 121 "java/lang/IllegalArgumentException") (by decide +kernel)) (hts (.initialized "java/lang/IllegalArgumentException") (by decide +kernel)) k4 (vx_hat (B := [.castable eA eA, .declares (Bundle.initS "java/lang/RuntimeException"), .declares (Bundle.initS "java/lang/Exception"), .declares (Bundle.initS Bundle.tN)]) (fun w h => hts w (List.mem_cons_of_mem _ (List.mem_append_right _ h))) (by decide +kernel) (vx_c (va_Nw.use rfl k8) (vx_c (va_Nw.use rfl k10) (vx_c (va_Nw.use rfl k11) (vx_c (va_Nw.use rfl k12) vx_n))))) (by decide +kernel) k1 k2 va_S.rf (hl.1.trans hml.symm) dX0_needRange_10 dX0_needRange_13 dX0_needRange_14 dX0_needRange_16 dX0_needRange_19 (fun x h => (ht x h).elim) (by decide) (Nat.le_of_ble_eq_true rfl) (by decide) (by decide) hlocks (fun t _ h1 h2 => ⟨⟨rfl, decide_eq_false (fun z => by have h0 := z.1; rw [Int32.le_iff_toInt_le] at h0; rw [Int32.lt_iff_toInt_lt] at c1; omega)⟩, h1, fun q h _ => h2 q h⟩) (fun z h => by cases h) (by decide) (by decide)
  · refine lv_iload_n hx hb dX0_needRange_5 rfl (lv_at hl 0 rfl) ?_
    refine lv_iload_n hx hb dX0_needRange_6 rfl (lv_at hl 2 rfl) ?_
    refine lv_icmp_le (tgt := 20) hx hb dX0_needRange_7 (by decide) (fun c2 => ?_) (fun c2 => ?_)
    · exact hret (by decide) (by decide) (decide_eq_true ⟨by rw [Int32.le_iff_toInt_le]; rw [Int32.lt_iff_toInt_lt] at c1; omega, c2⟩) dX0_needRange_20
    · refine vx_throwS (own := RX0) (cls := eA) (text := "out of its range") (names := ["java/lang/RuntimeException", "java/lang/Exception"]) (ik := 121) (is := 123) (ic := 125) (sa := sa 1) (A := Z) hx hb hfl hown (by decide +kernel) (by decide +kernel) (hts (.classLink RX0 121 "java/lang/IllegalArgumentException") (by decide +kernel)) (hts (.initialized "java/lang/IllegalArgumentException") (by decide +kernel)) k4 (vx_hat (B := [.castable eA eA, .declares (Bundle.initS "java/lang/RuntimeException"), .declares (Bundle.initS "java/lang/Exception"), .declares (Bundle.initS Bundle.tN)]) (fun w h => hts w (List.mem_cons_of_mem _ (List.mem_append_right _ h))) (by decide +kernel) (vx_c (va_Nw.use rfl k8) (vx_c (va_Nw.use rfl k10) (vx_c (va_Nw.use rfl k11) (vx_c (va_Nw.use rfl k12) vx_n))))) (by decide +kernel) k1 k2 va_S.rf (hl.1.trans hml.symm) dX0_needRange_10 dX0_needRange_13 dX0_needRange_14 dX0_needRange_16 dX0_needRange_19 (fun x h => (ht x h).elim) (by decide) (Nat.le_of_ble_eq_true rfl) (by decide) (by decide) hlocks (fun t _ h1 h2 => ⟨⟨rfl, decide_eq_false (fun z => c2 z.2)⟩, h1, fun q h _ => h2 q h⟩) (fun z h => by cases h) (by decide) (by decide)
set_option maxHeartbeats 4000000 in
set_option maxRecDepth 100000 in
theorem x0_needAllowed (l : Launch) (hfl : l.stackTraces = false) {sa : Nat → Nat} {Z : Nat → Prop} (b : Bool) : vx_Met l yX0_needAllowed wsX0_needAllowed (rmX 0 1) (va_Pc [.int (bB b)] (KX sa Z)) (va_Sv (fun _ => b = true)) (XCE (fun E => E = eS ∧ b = false)) 1 6 (fun _ => False) := by
  refine mkX_Sv (cc := cX0_needAllowed) (maxL := 1) (by decide) rfl (Nat.le_of_ble_eq_true rfl) ?_
  intro p e s m args below meth c C0 ht B0 hret ls hl
  obtain ⟨hx, hb, hr, hml, hown, hts, hlocks⟩ := C0
  have hown : s.vm.findClass RX0 = some m.cls := hown
  obtain ⟨k1, k2, k3, k4, k5, k6, k7, k8, k9, k10, k11, k12⟩ := B0
  have hl : lv_has ls 1 [(0, .int (bB b))] := hl
  refine lv_iload_n hx hb dX0_needAllowed_0 rfl (lv_at hl 0 rfl) ?_
  refine zb_Bne (tgt := 14) hx hb dX0_needAllowed_1 (by decide) (fun c1 => ?_) (fun c1 => ?_)
  · exact hret (by decide) (by decide) c1 dX0_needAllowed_14
  · refine vx_throwS (own := RX0) (cls := eS) (text := "not allowed as things stand") (names := ["java/lang/RuntimeException", "java/lang/Exception"]) (ik := 126) (is := 128) (ic := 130) (sa := sa 2) (A := Z) hx hb hfl hown (by decide +kernel) (by decide +kernel) (hts (.classLink RX0 126 "java/lang/IllegalStateException") (by decide +kernel)) (hts (.initialized "java/lang/IllegalStateException") (by decide +kernel)) k5 (vx_hat (B := [.castable eS eS, .declares (Bundle.initS "java/lang/RuntimeException"), .declares (Bundle.initS "java/lang/Exception"), .declares (Bundle.initS Bundle.tN)]) (fun w h => hts w (List.mem_cons_of_mem _ (List.mem_append_right _ h))) (by decide +kernel) (vx_c (va_Nw.use rfl k9) (vx_c (va_Nw.use rfl k10) (vx_c (va_Nw.use rfl k11) (vx_c (va_Nw.use rfl k12) vx_n))))) (by decide +kernel) k1 k2 va_S.rf (hl.1.trans hml.symm) dX0_needAllowed_4 dX0_needAllowed_7 dX0_needAllowed_8 dX0_needAllowed_10 dX0_needAllowed_13 (fun x h => (ht x h).elim) (by decide) (Nat.le_of_ble_eq_true rfl) (by decide) (by decide) hlocks (fun t _ h1 h2 => ⟨⟨rfl, c1⟩, h1, fun q h _ => h2 q h⟩) (fun z h => by cases h) (by decide) (by decide)
set_option maxHeartbeats 4000000 in
set_option maxRecDepth 100000 in
theorem x0_needTwoWells (l : Launch) (hfl : l.stackTraces = false) {sa : Nat → Nat} {Z : Nat → Prop} {D : va_G} {ad : Nat → Nat} {cI cJ cQ : ClassId} {M : Mdl} {ts : Nat → Nat} {pu : Nat → Int64} {sz : Nat} (hI : Inv M) (i j : Int32) : vx_Met l yX0_needTwoWells wsX0_needTwoWells (rmX 1 3) (va_Pc [.ref (ad 0), .int i, .int j] (KP0X D ad cI cJ cQ M ts pu sa Z sz)) (va_Sv (fun _ => (ixB i (M 0 0) && ixB j (M 0 0)) = true ∧ i ≠ j)) (XCE (fun E => (E = eI ∧ (ixB i (M 0 0) && ixB j (M 0 0)) = false) ∨ (E = eA ∧ (ixB i (M 0 0) && ixB j (M 0 0)) = true ∧ i = j))) 3 18 (fun _ => False) := by
  refine mkX_Sv (cc := cX0_needTwoWells) (maxL := 3) (by decide) rfl (Nat.le_of_ble_eq_true rfl) ?_
  intro p e s m args below meth c C0 ht B0 hret ls hl
  obtain ⟨hx, hb, hr, hml, hown, hts, hlocks⟩ := C0
  have hown : s.vm.findClass RX0 = some m.cls := hown
  obtain ⟨hsz, hKX, hK, hP⟩ := B0
  have hKX0 := hKX
  obtain ⟨k1, k2, k3, k4, k5, k6, k7, k8, k9, k10, k11, k12⟩ := hKX
  have hw0 : ∀ w ∈ wsX00, w.before args s = true := fun w h => hts w ((by decide +kernel : ∀ w ∈ wsX00, w ∈ wsX0_needTwoWells) w h)
  have hl : lv_has ls 3 [(0, .ref (ad 0)), (1, .int i), (2, .int j)] := hl
  refine lv_iload_n hx hb dX0_needTwoWells_0 rfl (lv_at hl 1 rfl) ?_
  refine lv_aload_n hx hb dX0_needTwoWells_1 rfl (lv_at hl 0 rfl) ?_
  refine zg0 hx hb hw0 hown hK hP (by decide) rfl 10 (by decide) (hts (.fieldLink RX0 47 "WellField" "wellCount" "I") (by decide +kernel)) rfl rfl dX0_needTwoWells_2 ?_
  refine zx_v (vx_runS (As := [.int i, .int (nI (M 0 0))]) (rest := []) ⟨hx, hb, hml, hown, hts⟩ (x0_needIndex l hfl i (M 0 0)) (va_cwS 2 hts gX0_needTwoWells_X0_needIndex rfl rfl rfl (by decide +kernel) (by decide)) (psX hKX0) rfl rfl hl.1 rfl (lv_room (Nat.le_of_ble_eq_true rfl)) dX0_needTwoWells_5 (by decide)) (fun hp hz hk q1 q2 q3 => vx_out (fun x h => (ht x h).elim) hlocks q1 q2 q3 (fun t hT _ => ⟨Or.inl ⟨hp.1, by rw [hp.2]; rfl⟩, by rw [hT]; exact hz, fun q h _ => by rw [hT]; exact hk q h⟩) (fun z h => by cases h) (by decide) (by decide)) (fun hp => ?_)
  refine lv_iload_n hx hb dX0_needTwoWells_8 rfl (lv_at hl 2 rfl) ?_
  refine lv_aload_n hx hb dX0_needTwoWells_9 rfl (lv_at hl 0 rfl) ?_
  refine zg0 hx hb hw0 hown hK hP (by decide) rfl 10 (by decide) (hts (.fieldLink RX0 47 "WellField" "wellCount" "I") (by decide +kernel)) rfl rfl dX0_needTwoWells_10 ?_
  have h1 := hp
  refine zx_v (vx_runS (As := [.int j, .int (nI (M 0 0))]) (rest := []) ⟨hx, hb, hml, hown, hts⟩ (x0_needIndex l hfl j (M 0 0)) (va_cwS 2 hts gX0_needTwoWells_X0_needIndex rfl rfl rfl (by decide +kernel) (by decide)) (psX hKX0) rfl rfl hl.1 rfl (lv_room (Nat.le_of_ble_eq_true rfl)) dX0_needTwoWells_13 (by decide)) (fun hp hz hk q1 q2 q3 => vx_out (fun x h => (ht x h).elim) hlocks q1 q2 q3 (fun t hT _ => ⟨Or.inl ⟨hp.1, by rw [hp.2, Bool.and_false]⟩, by rw [hT]; exact hz, fun q h _ => by rw [hT]; exact hk q h⟩) (fun z h => by cases h) (by decide) (by decide)) (fun hp => ?_)
  have hbth : (ixB i (M 0 0) && ixB j (M 0 0)) = true := by rw [h1, hp]; rfl
  refine lv_iload_n hx hb dX0_needTwoWells_16 rfl (lv_at hl 1 rfl) ?_
  refine lv_iload_n hx hb dX0_needTwoWells_17 rfl (lv_at hl 2 rfl) ?_
  refine lv_icmp_ne (tgt := 31) hx hb dX0_needTwoWells_18 (by decide) (fun c2 => ?_) (fun c2 => ?_)
  · exact hret (by decide) (by decide) ⟨hbth, c2⟩ dX0_needTwoWells_31
  · refine vx_throwS (own := RX0) (cls := eA) (text := "both wells are the same") (names := ["java/lang/RuntimeException", "java/lang/Exception"]) (ik := 121) (is := 131) (ic := 125) (sa := sa 3) (A := Z) hx hb hfl hown (by decide +kernel) (by decide +kernel) (hts (.classLink RX0 121 "java/lang/IllegalArgumentException") (by decide +kernel)) (hts (.initialized "java/lang/IllegalArgumentException") (by decide +kernel)) k6 (vx_hat (B := [.castable eA eA, .declares (Bundle.initS "java/lang/RuntimeException"), .declares (Bundle.initS "java/lang/Exception"), .declares (Bundle.initS Bundle.tN)]) (fun w h => hts w (List.mem_cons_of_mem _ (List.mem_append_left _ (List.mem_append_right _ h)))) (by decide +kernel) (vx_c (va_Nw.use rfl k8) (vx_c (va_Nw.use rfl k10) (vx_c (va_Nw.use rfl k11) (vx_c (va_Nw.use rfl k12) vx_n))))) (by decide +kernel) k1 k2 va_S.rf (hl.1.trans hml.symm) dX0_needTwoWells_21 dX0_needTwoWells_24 dX0_needTwoWells_25 dX0_needTwoWells_27 dX0_needTwoWells_30 (fun x h => (ht x h).elim) (by decide) (Nat.le_of_ble_eq_true rfl) (by decide) (by decide) hlocks (fun t _ h1 h2 => ⟨Or.inr ⟨rfl, hbth, c2⟩, h1, fun q h _ => h2 q h⟩) (fun z h => by cases h) (by decide) (by decide)
end
section
/-! which exception: its place in the throws clause, 0 for none -/
def cd1 (a : Bool) : Nat := if a = true then 0 else 1
def cd2 (a b : Bool) : Nat := if a = true then (if b = true then 0 else 2) else 1
def cd3 (a b c : Bool) : Nat := if a = true then (if b = true then (if c = true then 0 else 3) else 2) else 1
theorem addsub_nI {a x b : Nat} (h : b ≤ a + x) : nI a + (nI x - nI b) = nI (a + x - b) := by
  rw [← pk_sub h, ← nI_add, Int32.sub_eq_add_neg, Int32.sub_eq_add_neg, Int32.add_assoc]
theorem clN_nI {j : Nat} (h : j < 2 ^ 31) : clN (nI j) = j := nI_clamp h
/-- what the calls make of the state -/
def nx_well (M : Mdl) (p0 p1 p2 : Nat) : Mdl := mup (mup (mup (mup M 1 (M 0 0) p0) 2 (M 0 0) p1) 3 (M 0 0) p2) 0 0 (M 0 0 + 1)
def nx_watch (M : Mdl) (p0 p1 : Nat) : Mdl := mup (mup (mup M 6 (M 5 0) p0) 7 (M 5 0) p1) 5 0 (M 5 0 + 1)
def nx_response (M : Mdl) (r d x : Nat) : Mdl := mup M (11 + 3 * r) d x
def nx_pump (M : Mdl) (w m x : Nat) : Mdl := mup M (10 + 3 * w) m x
/-- the months of a rest -/
def rsn (m n : Nat) : Nat := if m + n ≤ 36 then n else 36 - m
def nx_rest (M : Mdl) (w m n : Nat) : Mdl := rst M w m (rsn m n)
def nx_ratio (M : Mdl) (f t x : Nat) : Mdl := mup M (12 + 3 * f) t x
def nx_trade (M : Mdl) (f t u : Nat) : Mdl := mup (mup M 3 f (M 3 f - u)) 3 t (M 3 t + gt M f t u)
def hTs (M : Mdl) (ts : Nat → Nat) : Prop := ∀ r, r < 5 → ts r = ssum (fun d => M (11 + 3 * r) d) 12
theorem ssum_up {f : Nat → Nat} {d x : Nat} : ∀ {n : Nat}, d < n → ssum (fun k => if k = d then x else f k) n + f d = ssum f n + x
  | 0, h => by omega
  | n + 1, h => by
    rw [ssum_s, ssum_s]
    by_cases e : n = d
    · subst e
      have h1 : ssum (fun k => if k = n then x else f k) n = ssum f n := ssum_congr (fun k hk => if_neg (by omega))
      rw [h1, if_pos rfl]
      omega
    · have h1 := ssum_up (f := f) (d := d) (x := x) (n := n) (by omega)
      rw [if_neg e]
      omega
theorem hTs_response {M : Mdl} {ts : Nat → Nat} {r d x : Nat} (h : hTs M ts) (hr : r < 5) (hd : d < 12) : M (11 + 3 * r) d ≤ ts r + x ∧ hTs (nx_response M r d x) (nup ts r (ts r + x - M (11 + 3 * r) d)) := by
  have e : ∀ k, nx_response M r d x (11 + 3 * r) k = if k = d then x else M (11 + 3 * r) k := fun k => by
    by_cases q : k = d
    · subst q; simp [nx_response, mup]
    · simp [nx_response, mup, q]
  have h1 : ssum (fun k => if k = d then x else M (11 + 3 * r) k) 12 + M (11 + 3 * r) d = ts r + x := by
    rw [h r hr]
    exact ssum_up hd
  refine ⟨by omega, fun k hk => ?_⟩
  by_cases q : k = r
  · subst q
    show (if k = k then _ else _) = _
    rw [if_pos rfl, ssum_congr (fun j _ => e j)]
    omega
  · show (if k = r then _ else ts k) = _
    rw [if_neg q, h k hk]
    exact ssum_congr (fun j _ => (mup_k (by omega)).symm)
theorem hTs_k {M : Mdl} {ts : Nat → Nat} {k i v : Nat} (h : hTs M ts) (hk : ∀ r, r < 5 → 11 + 3 * r ≠ k) : hTs (mup M k i v) ts := fun r hr => by
  rw [h r hr]
  exact ssum_congr (fun j _ => (mup_k (hk r hr)).symm)
theorem Inv.up {M : Mdl} (h : Inv M) {k i v : Nat} (h0 : k = 0 → i = 0 → v ≤ 8) (h5 : k = 5 → i = 0 → v ≤ 4) (h1 : k = 1 → v ≤ 99) (h2 : k = 2 → v ≤ 2) (h3 : k = 3 → v ≤ 20000) (h6 : k = 6 → v ≤ 99) (h7 : k = 7 → v ≤ 10000) (h8 : 10 ≤ k → k % 3 = 1 → v ≤ 1000) (h9 : 10 ≤ k → k % 3 = 2 → v ≤ 1000) (h10 : 10 ≤ k → k % 3 = 0 → v ≤ 200) : Inv (mup M k i v) := by
  have key : ∀ (a b c : Nat), M a b ≤ c → (a = k → b = i → v ≤ c) → mup M k i v a b ≤ c := fun a b c q1 q2 => by
    by_cases q : a = k ∧ b = i
    · obtain ⟨rfl, rfl⟩ := q
      rw [mup_s]
      exact q2 rfl rfl
    · have e : mup M k i v a b = M a b := if_neg q
      rw [e]
      exact q1
  refine ⟨key _ _ _ h.nw (fun a b => h0 a.symm b.symm), key _ _ _ h.nv (fun a b => h5 a.symm b.symm), fun j => key _ _ _ (h.pl j) (fun a _ => h1 a.symm), fun j => key _ _ _ (h.zo j) (fun a _ => h2 a.symm), fun j => key _ _ _ (h.li j) (fun a _ => h3 a.symm), fun w hw j => key _ _ _ (h.un w hw j) (fun a _ => h8 (by omega) (by omega)), fun j => key _ _ _ (h.sp j) (fun a _ => h6 a.symm), fun j => key _ _ _ (h.lm j) (fun a _ => h7 a.symm), fun w hw j => key _ _ _ (h.tb w hw j) (fun a _ => h9 (by omega) (by omega)), fun w hw j => key _ _ _ (h.ra w hw j) (fun a _ => h10 (by omega) (by omega))⟩
end
section
theorem cn_s {M : Mdl} {f t u : Nat} (h : cn M f t u = true) : u ≤ M 3 f ∧ M 3 t + gt M f t u ≤ 20000 := by
  unfold cn at h
  have h1 := Bool.and_eq_true_iff.mp h
  have h2 := Bool.and_eq_true_iff.mp h1.1
  exact ⟨of_decide_eq_true h2.1, of_decide_eq_true h2.2⟩
theorem mtr_min (M : Mdl) (f t : Nat) : mtr M f t (min (M 3 f) 5000) = mtr M f t 5000 := by
  rcases Nat.lt_or_ge 5000 (M 3 f) with q | q
  · rw [show min (M 3 f) 5000 = 5000 by omega]
  · rw [show min (M 3 f) 5000 = M 3 f by omega]
    exact (mtr_cut (Nat.le_refl _) 5000 q).symm
theorem azs_mono {n : Nat} {ad : Nat → Nat} {a b q : Nat} (h : a ≤ b) (hq : azs n ad b q) : azs n ad a q := hq.imp id (fun z => Nat.le_trans h z)
/-- what a month of pumping lays on a month -/
def cpl (M : Mdl) (v w mo t : Nat) : Nat := if mo ≤ t ∧ t < mo + d12 (36 - mo) then M (10 + 3 * w) mo * tbn M (rch M w v) (t - mo) else 0
theorem cpl_eq (M : Mdl) (v w : Nat) {t : Nat} (ht : t < 36) : ssum (fun mo => cpl M v w mo t) 36 = ddw M v t w := by
  rw [← drw_eq]
  unfold drw
  refine (ssum_cut (f := fun mo => cpl M v w mo t) (a := t + 1) (by omega) (fun k h1 h2 => by show cpl M v w k t = 0; unfold cpl; exact if_neg (by omega))).trans ?_
  refine ssum_congr (fun k hk => ?_)
  have hs := d12_s (36 - k)
  show cpl M v w k t = _
  unfold cpl
  by_cases q : t - k < 12
  · rw [if_pos (by omega), ans_tb q]
  · rw [if_neg (by omega), ans_0 (by omega), Nat.mul_zero]
def pls (M : Mdl) (v t w mo : Nat) : Nat := ssum (fun w => ssum (fun mo => cpl M v w mo t) 36) w + ssum (fun mo => cpl M v w mo t) mo
theorem pls_end (M : Mdl) (v : Nat) {t : Nat} (ht : t < 36) : pls M v t (M 0 0) 0 = dd M v t := by
  unfold pls
  rw [ssum_0, Nat.add_zero]
  exact ssum_congr (fun w _ => cpl_eq M v w ht)
theorem pls_s (M : Mdl) (v t w : Nat) : pls M v t w 36 = pls M v t (w + 1) 0 := by
  show ssum (fun w => ssum (fun mo => cpl M v w mo t) 36) w + ssum (fun mo => cpl M v w mo t) 36 = ssum (fun w => ssum (fun mo => cpl M v w mo t) 36) (w + 1) + 0
  rw [Nat.add_zero, ssum_s (n := w)]
theorem pls_k (M : Mdl) (v t w mo : Nat) : pls M v t w mo + cpl M v w mo t = pls M v t w (mo + 1) := by
  unfold pls
  rw [ssum_s, Nat.add_assoc]
theorem lay_k {pv pu : Nat → Int64} {mo d x : Nat} {f : Nat → Nat} (h : ∀ t, pv t = pu t + lN (if mo ≤ t ∧ t < mo + d then x * f (t - mo) else 0)) : ∀ t, vp_updL pv (mo + d) (pv (mo + d) + lN (x * f d)) t = pu t + lN (if mo ≤ t ∧ t < mo + (d + 1) then x * f (t - mo) else 0) := by
  intro t
  by_cases q : t = mo + d
  · subst q
    rw [pk_uLs, h, if_neg (by omega), if_pos (by omega), show mo + d - mo = d by omega]
    rw [show lN 0 = 0 from rfl, Int64.add_zero]
  · rw [pk_uLn q, h]
    congr 2
    by_cases q2 : mo ≤ t ∧ t < mo + d
    · rw [if_pos q2, if_pos (by omega)]
    · rw [if_neg q2, if_neg (by omega)]
theorem rsn_s (mo n : Nat) (h : mo < 36) : mo + rsn mo n = min (mo + n) 36 ∧ rsn mo n ≤ 36 := by
  unfold rsn
  split <;> omega
end
section
set_option maxHeartbeats 4000000 in
set_option maxRecDepth 100000 in
/-- well -/
theorem p0_well (l : Launch) (hfl : l.stackTraces = false) {D : va_G} {ad : Nat → Nat} {cI cJ cQ : ClassId} {M : Mdl} {ts : Nat → Nat} {pu : Nat → Int64} {sa : Nat → Nat} {Z : Nat → Prop} {sz : Nat} (hI : Inv M) (hnd : ndz 27 ad)  (p0 p1 p2 : Int32) : vx_Met l yX0_well wsX0_well (rmX 1 4) (va_Pc [.ref (ad 0), .int (p0), .int (p1), .int (p2)] (KP0X D ad cI cJ cQ M ts pu sa Z sz)) (va_Qi (fun r_ (u_ : Unit) => ((rgB p0 (nI 0) (nI 99) && rgB p1 (nI 0) (nI 2) && rgB p2 (nI 0) (nI 5000)) && decide (M 0 0 < 8)) = true ∧ r_ = nI (M 0 0)) (fun (u_ : Unit) t_ => KP0 D ad cI cJ cQ (nx_well M (clN p0) (clN p1) (clN p2)) (ts) (pu) t_) (azs 27 ad sz)) (XCE (fun E => (E = eA ∧ cd2 (rgB p0 (nI 0) (nI 99) && rgB p1 (nI 0) (nI 2) && rgB p2 (nI 0) (nI 5000)) (decide (M 0 0 < 8)) = 1) ∨ (E = eS ∧ cd2 (rgB p0 (nI 0) (nI 99) && rgB p1 (nI 0) (nI 2) && rgB p2 (nI 0) (nI 5000)) (decide (M 0 0 < 8)) = 2))) 4 24 (azs 27 ad sz) := by
  refine mkX_Qi (S := Unit) (post := fun r_ u_ => ((rgB p0 (nI 0) (nI 99) && rgB p1 (nI 0) (nI 2) && rgB p2 (nI 0) (nI 5000)) && decide (M 0 0 < 8)) = true ∧ r_ = nI (M 0 0)) (BQ := fun u_ t_ => KP0 D ad cI cJ cQ (nx_well M (clN p0) (clN p1) (clN p2)) (ts) (pu) t_) (cc := cX0_well) (maxL := 5) (by decide) rfl (Nat.le_of_ble_eq_true rfl) ?_
  intro p e s m args below meth c Q C0 B0 hX hret ls hl
  obtain ⟨hx, hb, hr, hml, hown, hts, hlocks⟩ := C0
  have hown : s.vm.findClass RX0 = some m.cls := hown
  obtain ⟨hsz, hKX, hK, hP⟩ := B0
  have hw0 : ∀ w ∈ wsX00, w.before args s = true := fun w h => hts w ((by decide +kernel : ∀ w ∈ wsX00, w ∈ wsX0_well) w h)
  have b_nw := hI.nw
  have b_nv := hI.nv
  subst hsz
  have hAd : ∀ i, i < 27 → azs 27 ad s.heap.size (ad i) := fun i h => azs_i h
  have hS : va_S (azs 27 ad s.heap.size) s.heap s.heap [] := va_S.rf
  have hl : lv_has ls 5 [(0, .ref (ad 0)), (1, .int (p0)), (2, .int (p1)), (3, .int (p2))] := hl
  refine lv_iload_n hx hb dX0_well_0 rfl (lv_at hl 1 rfl) ?_
  refine lv_iconst (v := nI 0) hx hb dX0_well_1 (by decide) ?_
  refine lv_bipush (v := nI 99) hx hb dX0_well_2 (by decide) ?_
  refine zx_v (vx_runS (As := [.int (p0), .int (nI (0)), .int (nI (99))]) (rest := []) ⟨hx, hb, hml, hown, hts⟩ (x0_needRange l hfl (p0) (nI (0)) (nI (99))) (va_cwS 3 hts gX0_well_X0_needRange rfl rfl rfl (by decide +kernel) (by decide)) (psX hKX) rfl rfl hl.1 rfl (lv_room (Nat.le_of_ble_eq_true rfl)) dX0_well_4 (by decide)) (fun hp hz hk q1 q2 q3 => hX (by decide) (by decide) (by obtain ⟨rfl, h⟩ := hp; simp [cd1, cd2, cd3, h]) hz hk q1 q2 q3) (fun b_1 => ?_)
  refine lv_iload_n hx hb dX0_well_7 rfl (lv_at hl 2 rfl) ?_
  refine lv_iconst (v := nI 0) hx hb dX0_well_8 (by decide) ?_
  refine lv_iconst (v := nI 2) hx hb dX0_well_9 (by decide) ?_
  refine zx_v (vx_runS (As := [.int (p1), .int (nI (0)), .int (nI (2))]) (rest := []) ⟨hx, hb, hml, hown, hts⟩ (x0_needRange l hfl (p1) (nI (0)) (nI (2))) (va_cwS 3 hts gX0_well_X0_needRange rfl rfl rfl (by decide +kernel) (by decide)) (psX hKX) rfl rfl hl.1 rfl (lv_room (Nat.le_of_ble_eq_true rfl)) dX0_well_10 (by decide)) (fun hp hz hk q1 q2 q3 => hX (by decide) (by decide) (by obtain ⟨rfl, h⟩ := hp; simp [cd1, cd2, cd3, h, b_1]) hz hk q1 q2 q3) (fun b_2 => ?_)
  refine lv_iload_n hx hb dX0_well_13 rfl (lv_at hl 3 rfl) ?_
  refine lv_iconst (v := nI 0) hx hb dX0_well_14 (by decide) ?_
  refine lv_sipush (v := nI 5000) hx hb dX0_well_15 (by decide) ?_
  refine zx_v (vx_runS (As := [.int (p2), .int (nI (0)), .int (nI (5000))]) (rest := []) ⟨hx, hb, hml, hown, hts⟩ (x0_needRange l hfl (p2) (nI (0)) (nI (5000))) (va_cwS 3 hts gX0_well_X0_needRange rfl rfl rfl (by decide +kernel) (by decide)) (psX hKX) rfl rfl hl.1 rfl (lv_room (Nat.le_of_ble_eq_true rfl)) dX0_well_18 (by decide)) (fun hp hz hk q1 q2 q3 => hX (by decide) (by decide) (by obtain ⟨rfl, h⟩ := hp; simp [cd1, cd2, cd3, h, b_1, b_2]) hz hk q1 q2 q3) (fun b_3 => ?_)
  refine lv_aload_n hx hb dX0_well_21 rfl (lv_at hl 0 rfl) ?_
  refine zg0 hx hb hw0 hown hK hP (by decide) rfl 10 (by decide) (hts (.fieldLink RX0 47 "WellField" "wellCount" "I") (by decide +kernel)) rfl rfl dX0_well_22 ?_
  refine lv_bipush (v := nI 8) hx hb dX0_well_25 (by decide) ?_
  refine zb_ge (tgt := 34) hx hb (by omega) (by omega) dX0_well_27 (by decide) (fun c_4 => ?_) (fun c_4 => ?_)
  · skip
    refine lv_iconst (v := nI 0) hx hb dX0_well_34 (by decide) ?_
    refine zt_i (y := bB (decide (M 0 0 < 8))) (by rw [decide_eq_false (by omega)]; rfl) ?_
    refine zx_v (vx_runS (As := [.int (bB (decide (M 0 0 < 8)))]) (rest := []) ⟨hx, hb, hml, hown, hts⟩ (x0_needAllowed l hfl (decide (M 0 0 < 8))) (va_cwS 1 hts gX0_well_X0_needAllowed rfl rfl rfl (by decide +kernel) (by decide)) (psX hKX) rfl rfl hl.1 rfl (lv_room (Nat.le_of_ble_eq_true rfl)) dX0_well_35 (by decide)) (fun hp hz hk q1 q2 q3 => hX (by decide) (by decide) (by obtain ⟨rfl, h⟩ := hp; simp [cd1, cd2, cd3, h, b_1, b_2, b_3]) hz hk q1 q2 q3) (fun b_5 => ?_)
    exact absurd (of_decide_eq_true b_5) (by omega)
  · skip
    refine lv_iconst (v := nI 1) hx hb dX0_well_30 (by decide) ?_
    refine lv_goto (tgt := 35) hx hb dX0_well_31 (by decide) ?_
    refine zt_i (y := bB (decide (M 0 0 < 8))) (by rw [decide_eq_true (by omega)]; rfl) ?_
    refine zx_v (vx_runS (As := [.int (bB (decide (M 0 0 < 8)))]) (rest := []) ⟨hx, hb, hml, hown, hts⟩ (x0_needAllowed l hfl (decide (M 0 0 < 8))) (va_cwS 1 hts gX0_well_X0_needAllowed rfl rfl rfl (by decide +kernel) (by decide)) (psX hKX) rfl rfl hl.1 rfl (lv_room (Nat.le_of_ble_eq_true rfl)) dX0_well_35 (by decide)) (fun hp hz hk q1 q2 q3 => hX (by decide) (by decide) (by obtain ⟨rfl, h⟩ := hp; simp [cd1, cd2, cd3, h, b_1, b_2, b_3]) hz hk q1 q2 q3) (fun b_6 => ?_)
    obtain ⟨a0, ga0, h_a0, rfl⟩ := rgB_of (by decide) b_1 (by decide)
    have cl_a0 : clN (nI a0) = a0 := clN_nI (by omega)
    obtain ⟨a1, ga1, h_a1, rfl⟩ := rgB_of (by decide) b_2 (by decide)
    have cl_a1 : clN (nI a1) = a1 := clN_nI (by omega)
    obtain ⟨a2, ga2, h_a2, rfl⟩ := rgB_of (by decide) b_3 (by decide)
    have cl_a2 : clN (nI a2) = a2 := clN_nI (by omega)
    refine lv_aload_n hx hb dX0_well_38 rfl (lv_at hl 0 rfl) ?_
    refine zg0 hx hb hw0 hown hK hP (by decide) rfl 10 (by decide) (hts (.fieldLink RX0 47 "WellField" "wellCount" "I") (by decide +kernel)) rfl rfl dX0_well_39 ?_
    refine lv_istore (lv' := [(4, .int (nI (M 0 0))), (0, .ref (ad 0)), (1, .int (nI (a0))), (2, .int (nI (a1))), (3, .int (nI (a2)))]) hx hb dX0_well_42 hl (by decide) rfl (fun ls hl => ?_)
    refine lv_aload_n hx hb dX0_well_44 rfl (lv_at hl 1 rfl) ?_
    refine zg0 hx hb hw0 hown hK hP (by decide) rfl 0 (by decide) (hts (.fieldLink RX0 9 "WellField" "wellPlaces" "[I") (by decide +kernel)) rfl rfl dX0_well_45 ?_
    refine lv_iload hx hb dX0_well_48 (lv_at hl 0 rfl) ?_
    refine lv_iload_n hx hb dX0_well_50 rfl (lv_at hl 2 rfl) ?_
    refine zi_st hx hb hK hP hnd hAd hS 1 (by decide) 0 rfl rfl (by decide) (i := M 0 0) (by omega) (wcE ad cI cJ cQ (mup (M) 1 (M 0 0) (a0)) (ts) (pu)) wcS_pl dX0_well_51 (fun H locs hP hS => ?_)
    refine lv_aload_n hx hb dX0_well_52 rfl (lv_at hl 1 rfl) ?_
    refine zg0 hx hb hw0 hown hK hP (by decide) rfl 1 (by decide) (hts (.fieldLink RX0 13 "WellField" "wellZones" "[I") (by decide +kernel)) rfl rfl dX0_well_53 ?_
    refine lv_iload hx hb dX0_well_56 (lv_at hl 0 rfl) ?_
    refine lv_iload_n hx hb dX0_well_58 rfl (lv_at hl 3 rfl) ?_
    refine zi_st hx hb hK hP hnd hAd hS 2 (by decide) 0 rfl rfl (by decide) (i := M 0 0) (by omega) (wcE ad cI cJ cQ (mup (mup (M) 1 (M 0 0) (a0)) 2 (M 0 0) (a1)) (ts) (pu)) wcS_zo dX0_well_59 (fun H locs hP hS => ?_)
    refine lv_aload_n hx hb dX0_well_60 rfl (lv_at hl 1 rfl) ?_
    refine zg0 hx hb hw0 hown hK hP (by decide) rfl 2 (by decide) (hts (.fieldLink RX0 16 "WellField" "licences" "[I") (by decide +kernel)) rfl rfl dX0_well_61 ?_
    refine lv_iload hx hb dX0_well_64 (lv_at hl 0 rfl) ?_
    refine lv_iload_n hx hb dX0_well_66 rfl (lv_at hl 4 rfl) ?_
    refine zi_st hx hb hK hP hnd hAd hS 3 (by decide) 0 rfl rfl (by decide) (i := M 0 0) (by omega) (wcE ad cI cJ cQ (mup (mup (mup (M) 1 (M 0 0) (a0)) 2 (M 0 0) (a1)) 3 (M 0 0) (a2)) (ts) (pu)) wcS_li dX0_well_67 (fun H locs hP hS => ?_)
    refine lv_aload_n hx hb dX0_well_68 rfl (lv_at hl 1 rfl) ?_
    refine lv_iload hx hb dX0_well_69 (lv_at hl 0 rfl) ?_
    refine lv_iconst (v := nI 1) hx hb dX0_well_71 (by decide) ?_
    refine zr_iadd hx hb dX0_well_72 ?_
    refine zp0 hx hb hw0 hown hK hP hnd hAd hS (by decide) rfl 10 (by decide) (hts (.fieldLink RX0 47 "WellField" "wellCount" "I") (by decide +kernel)) rfl rfl (by decide +kernel) (Nat.le_of_ble_eq_true rfl) (wcE ad cI cJ cQ (mup (mup (mup (mup (M) 1 (M 0 0) (a0)) 2 (M 0 0) (a1)) 3 (M 0 0) (a2)) 0 0 ((M 0 0) + (1))) (ts) (pu)) wcS_nw dX0_well_73 (fun H locs hP hS => ?_)
    refine lv_iload hx hb dX0_well_76 (lv_at hl 0 rfl) ?_
    have hP9 : va_P D vwCl (wz 27 ad (wcE ad cI cJ cQ (nx_well M (clN (nI a0)) (clN (nI a1)) (clN (nI a2))) (ts) (pu))) H := by rw [cl_a0, cl_a1, cl_a2]; exact hP
    exact hret (u := ()) (by decide) (by decide) (And.intro (by simp [b_1, b_2, b_3, b_6]) (by rfl)) hS (fun t ht hA => ⟨va_K.moved hA hK, by rw [ht]; exact hP9⟩) dX0_well_78
set_option maxHeartbeats 4000000 in
set_option maxRecDepth 100000 in
/-- watch -/
theorem p0_watch (l : Launch) (hfl : l.stackTraces = false) {D : va_G} {ad : Nat → Nat} {cI cJ cQ : ClassId} {M : Mdl} {ts : Nat → Nat} {pu : Nat → Int64} {sa : Nat → Nat} {Z : Nat → Prop} {sz : Nat} (hI : Inv M) (hnd : ndz 27 ad)  (p0 p1 : Int32) : vx_Met l yX0_watch wsX0_watch (rmX 1 3) (va_Pc [.ref (ad 0), .int (p0), .int (p1)] (KP0X D ad cI cJ cQ M ts pu sa Z sz)) (va_Qi (fun r_ (u_ : Unit) => ((rgB p0 (nI 0) (nI 99) && rgB p1 (nI 0) (nI 10000)) && decide (M 5 0 < 4)) = true ∧ r_ = nI (M 5 0)) (fun (u_ : Unit) t_ => KP0 D ad cI cJ cQ (nx_watch M (clN p0) (clN p1)) (ts) (pu) t_) (azs 27 ad sz)) (XCE (fun E => (E = eA ∧ cd2 (rgB p0 (nI 0) (nI 99) && rgB p1 (nI 0) (nI 10000)) (decide (M 5 0 < 4)) = 1) ∨ (E = eS ∧ cd2 (rgB p0 (nI 0) (nI 99) && rgB p1 (nI 0) (nI 10000)) (decide (M 5 0 < 4)) = 2))) 3 18 (azs 27 ad sz) := by
  refine mkX_Qi (S := Unit) (post := fun r_ u_ => ((rgB p0 (nI 0) (nI 99) && rgB p1 (nI 0) (nI 10000)) && decide (M 5 0 < 4)) = true ∧ r_ = nI (M 5 0)) (BQ := fun u_ t_ => KP0 D ad cI cJ cQ (nx_watch M (clN p0) (clN p1)) (ts) (pu) t_) (cc := cX0_watch) (maxL := 4) (by decide) rfl (Nat.le_of_ble_eq_true rfl) ?_
  intro p e s m args below meth c Q C0 B0 hX hret ls hl
  obtain ⟨hx, hb, hr, hml, hown, hts, hlocks⟩ := C0
  have hown : s.vm.findClass RX0 = some m.cls := hown
  obtain ⟨hsz, hKX, hK, hP⟩ := B0
  have hw0 : ∀ w ∈ wsX00, w.before args s = true := fun w h => hts w ((by decide +kernel : ∀ w ∈ wsX00, w ∈ wsX0_watch) w h)
  have b_nw := hI.nw
  have b_nv := hI.nv
  subst hsz
  have hAd : ∀ i, i < 27 → azs 27 ad s.heap.size (ad i) := fun i h => azs_i h
  have hS : va_S (azs 27 ad s.heap.size) s.heap s.heap [] := va_S.rf
  have hl : lv_has ls 4 [(0, .ref (ad 0)), (1, .int (p0)), (2, .int (p1))] := hl
  refine lv_iload_n hx hb dX0_watch_0 rfl (lv_at hl 1 rfl) ?_
  refine lv_iconst (v := nI 0) hx hb dX0_watch_1 (by decide) ?_
  refine lv_bipush (v := nI 99) hx hb dX0_watch_2 (by decide) ?_
  refine zx_v (vx_runS (As := [.int (p0), .int (nI (0)), .int (nI (99))]) (rest := []) ⟨hx, hb, hml, hown, hts⟩ (x0_needRange l hfl (p0) (nI (0)) (nI (99))) (va_cwS 3 hts gX0_watch_X0_needRange rfl rfl rfl (by decide +kernel) (by decide)) (psX hKX) rfl rfl hl.1 rfl (lv_room (Nat.le_of_ble_eq_true rfl)) dX0_watch_4 (by decide)) (fun hp hz hk q1 q2 q3 => hX (by decide) (by decide) (by obtain ⟨rfl, h⟩ := hp; simp [cd1, cd2, cd3, h]) hz hk q1 q2 q3) (fun b_1 => ?_)
  refine lv_iload_n hx hb dX0_watch_7 rfl (lv_at hl 2 rfl) ?_
  refine lv_iconst (v := nI 0) hx hb dX0_watch_8 (by decide) ?_
  refine lv_sipush (v := nI 10000) hx hb dX0_watch_9 (by decide) ?_
  refine zx_v (vx_runS (As := [.int (p1), .int (nI (0)), .int (nI (10000))]) (rest := []) ⟨hx, hb, hml, hown, hts⟩ (x0_needRange l hfl (p1) (nI (0)) (nI (10000))) (va_cwS 3 hts gX0_watch_X0_needRange rfl rfl rfl (by decide +kernel) (by decide)) (psX hKX) rfl rfl hl.1 rfl (lv_room (Nat.le_of_ble_eq_true rfl)) dX0_watch_12 (by decide)) (fun hp hz hk q1 q2 q3 => hX (by decide) (by decide) (by obtain ⟨rfl, h⟩ := hp; simp [cd1, cd2, cd3, h, b_1]) hz hk q1 q2 q3) (fun b_2 => ?_)
  refine lv_aload_n hx hb dX0_watch_15 rfl (lv_at hl 0 rfl) ?_
  refine zg0 hx hb hw0 hown hK hP (by decide) rfl 11 (by decide) (hts (.fieldLink RX0 55 "WellField" "watchCount" "I") (by decide +kernel)) rfl rfl dX0_watch_16 ?_
  refine lv_iconst (v := nI 4) hx hb dX0_watch_19 (by decide) ?_
  refine zb_ge (tgt := 27) hx hb (by omega) (by omega) dX0_watch_20 (by decide) (fun c_3 => ?_) (fun c_3 => ?_)
  · skip
    refine lv_iconst (v := nI 0) hx hb dX0_watch_27 (by decide) ?_
    refine zt_i (y := bB (decide (M 5 0 < 4))) (by rw [decide_eq_false (by omega)]; rfl) ?_
    refine zx_v (vx_runS (As := [.int (bB (decide (M 5 0 < 4)))]) (rest := []) ⟨hx, hb, hml, hown, hts⟩ (x0_needAllowed l hfl (decide (M 5 0 < 4))) (va_cwS 1 hts gX0_watch_X0_needAllowed rfl rfl rfl (by decide +kernel) (by decide)) (psX hKX) rfl rfl hl.1 rfl (lv_room (Nat.le_of_ble_eq_true rfl)) dX0_watch_28 (by decide)) (fun hp hz hk q1 q2 q3 => hX (by decide) (by decide) (by obtain ⟨rfl, h⟩ := hp; simp [cd1, cd2, cd3, h, b_1, b_2]) hz hk q1 q2 q3) (fun b_4 => ?_)
    exact absurd (of_decide_eq_true b_4) (by omega)
  · skip
    refine lv_iconst (v := nI 1) hx hb dX0_watch_23 (by decide) ?_
    refine lv_goto (tgt := 28) hx hb dX0_watch_24 (by decide) ?_
    refine zt_i (y := bB (decide (M 5 0 < 4))) (by rw [decide_eq_true (by omega)]; rfl) ?_
    refine zx_v (vx_runS (As := [.int (bB (decide (M 5 0 < 4)))]) (rest := []) ⟨hx, hb, hml, hown, hts⟩ (x0_needAllowed l hfl (decide (M 5 0 < 4))) (va_cwS 1 hts gX0_watch_X0_needAllowed rfl rfl rfl (by decide +kernel) (by decide)) (psX hKX) rfl rfl hl.1 rfl (lv_room (Nat.le_of_ble_eq_true rfl)) dX0_watch_28 (by decide)) (fun hp hz hk q1 q2 q3 => hX (by decide) (by decide) (by obtain ⟨rfl, h⟩ := hp; simp [cd1, cd2, cd3, h, b_1, b_2]) hz hk q1 q2 q3) (fun b_5 => ?_)
    obtain ⟨a0, ga0, h_a0, rfl⟩ := rgB_of (by decide) b_1 (by decide)
    have cl_a0 : clN (nI a0) = a0 := clN_nI (by omega)
    obtain ⟨a1, ga1, h_a1, rfl⟩ := rgB_of (by decide) b_2 (by decide)
    have cl_a1 : clN (nI a1) = a1 := clN_nI (by omega)
    refine lv_aload_n hx hb dX0_watch_31 rfl (lv_at hl 0 rfl) ?_
    refine zg0 hx hb hw0 hown hK hP (by decide) rfl 11 (by decide) (hts (.fieldLink RX0 55 "WellField" "watchCount" "I") (by decide +kernel)) rfl rfl dX0_watch_32 ?_
    refine lv_istore_n (lv' := [(3, .int (nI (M 5 0))), (0, .ref (ad 0)), (1, .int (nI (a0))), (2, .int (nI (a1)))]) hx hb dX0_watch_35 rfl hl (by decide) rfl (fun ls hl => ?_)
    refine lv_aload_n hx hb dX0_watch_36 rfl (lv_at hl 1 rfl) ?_
    refine zg0 hx hb hw0 hown hK hP (by decide) rfl 4 (by decide) (hts (.fieldLink RX0 24 "WellField" "watchPlaces" "[I") (by decide +kernel)) rfl rfl dX0_watch_37 ?_
    refine lv_iload_n hx hb dX0_watch_40 rfl (lv_at hl 0 rfl) ?_
    refine lv_iload_n hx hb dX0_watch_41 rfl (lv_at hl 2 rfl) ?_
    refine zi_st hx hb hK hP hnd hAd hS 5 (by decide) 0 rfl rfl (by decide) (i := M 5 0) (by omega) (wcE ad cI cJ cQ (mup (M) 6 (M 5 0) (a0)) (ts) (pu)) wcS_sp dX0_watch_42 (fun H locs hP hS => ?_)
    refine lv_aload_n hx hb dX0_watch_43 rfl (lv_at hl 1 rfl) ?_
    refine zg0 hx hb hw0 hown hK hP (by decide) rfl 5 (by decide) (hts (.fieldLink RX0 27 "WellField" "limits" "[I") (by decide +kernel)) rfl rfl dX0_watch_44 ?_
    refine lv_iload_n hx hb dX0_watch_47 rfl (lv_at hl 0 rfl) ?_
    refine lv_iload_n hx hb dX0_watch_48 rfl (lv_at hl 3 rfl) ?_
    refine zi_st hx hb hK hP hnd hAd hS 6 (by decide) 0 rfl rfl (by decide) (i := M 5 0) (by omega) (wcE ad cI cJ cQ (mup (mup (M) 6 (M 5 0) (a0)) 7 (M 5 0) (a1)) (ts) (pu)) wcS_lm dX0_watch_49 (fun H locs hP hS => ?_)
    refine lv_aload_n hx hb dX0_watch_50 rfl (lv_at hl 1 rfl) ?_
    refine lv_iload_n hx hb dX0_watch_51 rfl (lv_at hl 0 rfl) ?_
    refine lv_iconst (v := nI 1) hx hb dX0_watch_52 (by decide) ?_
    refine zr_iadd hx hb dX0_watch_53 ?_
    refine zp0 hx hb hw0 hown hK hP hnd hAd hS (by decide) rfl 11 (by decide) (hts (.fieldLink RX0 55 "WellField" "watchCount" "I") (by decide +kernel)) rfl rfl (by decide +kernel) (Nat.le_of_ble_eq_true rfl) (wcE ad cI cJ cQ (mup (mup (mup (M) 6 (M 5 0) (a0)) 7 (M 5 0) (a1)) 5 0 ((M 5 0) + (1))) (ts) (pu)) wcS_nv dX0_watch_54 (fun H locs hP hS => ?_)
    refine lv_iload_n hx hb dX0_watch_57 rfl (lv_at hl 0 rfl) ?_
    have hP9 : va_P D vwCl (wz 27 ad (wcE ad cI cJ cQ (nx_watch M (clN (nI a0)) (clN (nI a1))) (ts) (pu))) H := by rw [cl_a0, cl_a1]; exact hP
    exact hret (u := ()) (by decide) (by decide) (And.intro (by simp [b_1, b_2, b_5]) (by rfl)) hS (fun t ht hA => ⟨va_K.moved hA hK, by rw [ht]; exact hP9⟩) dX0_watch_58
set_option maxHeartbeats 4000000 in
set_option maxRecDepth 100000 in
/-- response -/
theorem p0_response (l : Launch) (hfl : l.stackTraces = false) {D : va_G} {ad : Nat → Nat} {cI cJ cQ : ClassId} {M : Mdl} {ts : Nat → Nat} {pu : Nat → Int64} {sa : Nat → Nat} {Z : Nat → Prop} {sz : Nat} (hI : Inv M) (hnd : ndz 27 ad) (hT : hTs M ts) (p0 p1 p2 : Int32) : vx_Met l yX0_response wsX0_response (rmX 1 3) (va_Pc [.ref (ad 0), .int (p0), .int (p1), .int (p2)] (KP0X D ad cI cJ cQ M ts pu sa Z sz)) (va_Qi (fun r_ (u_ : Unit) => ((ixB p0 5 && ixB p1 12) && rgB p2 (nI 0) (nI 1000)) = true ∧ r_ = nI (M (11 + 3 * clN p0) (clN p1))) (fun (u_ : Unit) t_ => KP0 D ad cI cJ cQ (nx_response M (clN p0) (clN p1) (clN p2)) (nup ts (clN p0) (ts (clN p0) + clN p2 - M (11 + 3 * clN p0) (clN p1))) (pu) t_) (azs 27 ad sz)) (XCE (fun E => (E = eI ∧ cd2 (ixB p0 5 && ixB p1 12) (rgB p2 (nI 0) (nI 1000)) = 1) ∨ (E = eA ∧ cd2 (ixB p0 5 && ixB p1 12) (rgB p2 (nI 0) (nI 1000)) = 2))) 3 18 (azs 27 ad sz) := by
  refine mkX_Qi (S := Unit) (post := fun r_ u_ => ((ixB p0 5 && ixB p1 12) && rgB p2 (nI 0) (nI 1000)) = true ∧ r_ = nI (M (11 + 3 * clN p0) (clN p1))) (BQ := fun u_ t_ => KP0 D ad cI cJ cQ (nx_response M (clN p0) (clN p1) (clN p2)) (nup ts (clN p0) (ts (clN p0) + clN p2 - M (11 + 3 * clN p0) (clN p1))) (pu) t_) (cc := cX0_response) (maxL := 5) (by decide) rfl (Nat.le_of_ble_eq_true rfl) ?_
  intro p e s m args below meth c Q C0 B0 hX hret ls hl
  obtain ⟨hx, hb, hr, hml, hown, hts, hlocks⟩ := C0
  have hown : s.vm.findClass RX0 = some m.cls := hown
  obtain ⟨hsz, hKX, hK, hP⟩ := B0
  have hw0 : ∀ w ∈ wsX00, w.before args s = true := fun w h => hts w ((by decide +kernel : ∀ w ∈ wsX00, w ∈ wsX0_response) w h)
  have b_nw := hI.nw
  have b_nv := hI.nv
  subst hsz
  have hAd : ∀ i, i < 27 → azs 27 ad s.heap.size (ad i) := fun i h => azs_i h
  have hS : va_S (azs 27 ad s.heap.size) s.heap s.heap [] := va_S.rf
  have hl : lv_has ls 5 [(0, .ref (ad 0)), (1, .int (p0)), (2, .int (p1)), (3, .int (p2))] := hl
  refine lv_iload_n hx hb dX0_response_0 rfl (lv_at hl 1 rfl) ?_
  refine lv_iconst (v := nI 5) hx hb dX0_response_1 (by decide) ?_
  refine zx_v (vx_runS (As := [.int (p0), .int (nI (5))]) (rest := []) ⟨hx, hb, hml, hown, hts⟩ (x0_needIndex l hfl (p0) (5)) (va_cwS 2 hts gX0_response_X0_needIndex rfl rfl rfl (by decide +kernel) (by decide)) (psX hKX) rfl rfl hl.1 rfl (lv_room (Nat.le_of_ble_eq_true rfl)) dX0_response_2 (by decide)) (fun hp hz hk q1 q2 q3 => hX (by decide) (by decide) (by obtain ⟨rfl, h⟩ := hp; simp [cd1, cd2, cd3, h]) hz hk q1 q2 q3) (fun b_1 => ?_)
  refine lv_iload_n hx hb dX0_response_5 rfl (lv_at hl 2 rfl) ?_
  refine lv_bipush (v := nI 12) hx hb dX0_response_6 (by decide) ?_
  refine zx_v (vx_runS (As := [.int (p1), .int (nI (12))]) (rest := []) ⟨hx, hb, hml, hown, hts⟩ (x0_needIndex l hfl (p1) (12)) (va_cwS 2 hts gX0_response_X0_needIndex rfl rfl rfl (by decide +kernel) (by decide)) (psX hKX) rfl rfl hl.1 rfl (lv_room (Nat.le_of_ble_eq_true rfl)) dX0_response_8 (by decide)) (fun hp hz hk q1 q2 q3 => hX (by decide) (by decide) (by obtain ⟨rfl, h⟩ := hp; simp [cd1, cd2, cd3, h, b_1]) hz hk q1 q2 q3) (fun b_2 => ?_)
  refine lv_iload_n hx hb dX0_response_11 rfl (lv_at hl 3 rfl) ?_
  refine lv_iconst (v := nI 0) hx hb dX0_response_12 (by decide) ?_
  refine lv_sipush (v := nI 1000) hx hb dX0_response_13 (by decide) ?_
  refine zx_v (vx_runS (As := [.int (p2), .int (nI (0)), .int (nI (1000))]) (rest := []) ⟨hx, hb, hml, hown, hts⟩ (x0_needRange l hfl (p2) (nI (0)) (nI (1000))) (va_cwS 3 hts gX0_response_X0_needRange rfl rfl rfl (by decide +kernel) (by decide)) (psX hKX) rfl rfl hl.1 rfl (lv_room (Nat.le_of_ble_eq_true rfl)) dX0_response_16 (by decide)) (fun hp hz hk q1 q2 q3 => hX (by decide) (by decide) (by obtain ⟨rfl, h⟩ := hp; simp [cd1, cd2, cd3, h, b_1, b_2]) hz hk q1 q2 q3) (fun b_3 => ?_)
  obtain ⟨a0, h_a0, rfl⟩ := ixB_of (by omega) b_1
  have cl_a0 : clN (nI a0) = a0 := clN_nI (by omega)
  obtain ⟨a1, h_a1, rfl⟩ := ixB_of (by omega) b_2
  have cl_a1 : clN (nI a1) = a1 := clN_nI (by omega)
  obtain ⟨a2, ga2, h_a2, rfl⟩ := rgB_of (by decide) b_3 (by decide)
  have cl_a2 : clN (nI a2) = a2 := clN_nI (by omega)
  refine lv_aload_n hx hb dX0_response_19 rfl (lv_at hl 0 rfl) ?_
  refine zg0 hx hb hw0 hown hK hP (by decide) rfl 6 (by decide) (hts (.fieldLink RX0 30 "WellField" "table" "[[I") (by decide +kernel)) rfl rfl dX0_response_20 ?_
  refine lv_iload_n hx hb dX0_response_23 rfl (lv_at hl 1 rfl) ?_
  refine zq_ld hx hb hK hP 7 (by decide) 2 rfl rfl (by decide) (i := a0) (by omega) (a := ad (19 + (a0))) rfl dX0_response_24 ?_
  refine lv_iload_n hx hb dX0_response_25 rfl (lv_at hl 2 rfl) ?_
  refine zi_ld hx hb hK hP (19 + (a0)) (by omega) 0 (wcE_tab (by omega)) rfl (by decide) (i := a1) (by omega) (v := nI (M (11 + 3 * (a0)) (a1))) rfl dX0_response_26 ?_
  have f_4 := hI.tb (a0) (by omega) (a1)
  refine lv_istore (lv' := [(4, .int (nI (M (11 + 3 * (a0)) (a1)))), (0, .ref (ad 0)), (1, .int (nI (a0))), (2, .int (nI (a1))), (3, .int (nI (a2)))]) hx hb dX0_response_27 hl (by decide) rfl (fun ls hl => ?_)
  refine lv_aload_n hx hb dX0_response_29 rfl (lv_at hl 1 rfl) ?_
  refine zg0 hx hb hw0 hown hK hP (by decide) rfl 6 (by decide) (hts (.fieldLink RX0 30 "WellField" "table" "[[I") (by decide +kernel)) rfl rfl dX0_response_30 ?_
  refine lv_iload_n hx hb dX0_response_33 rfl (lv_at hl 2 rfl) ?_
  refine zq_ld hx hb hK hP 7 (by decide) 2 rfl rfl (by decide) (i := a0) (by omega) (a := ad (19 + (a0))) rfl dX0_response_34 ?_
  refine lv_iload_n hx hb dX0_response_35 rfl (lv_at hl 3 rfl) ?_
  refine lv_iload_n hx hb dX0_response_36 rfl (lv_at hl 4 rfl) ?_
  refine zi_st hx hb hK hP hnd hAd hS (19 + (a0)) (by omega) 0 (wcE_tab (by omega)) rfl (by decide) (i := a1) (by omega) (wcE ad cI cJ cQ (mup (M) (11 + 3 * (a0)) (a1) (a2)) (ts) (pu)) (wcS_tb (by omega)) dX0_response_37 (fun H locs hP hS => ?_)
  refine lv_aload_n hx hb dX0_response_38 rfl (lv_at hl 1 rfl) ?_
  refine zg0 hx hb hw0 hown hK hP (by decide) rfl 7 (by decide) (hts (.fieldLink RX0 33 "WellField" "tableSums" "[I") (by decide +kernel)) rfl rfl dX0_response_39 ?_
  refine lv_iload_n hx hb dX0_response_42 rfl (lv_at hl 2 rfl) ?_
  refine lv_dup2_11 hx hb dX0_response_43 rfl rfl ?_
  refine zi_ld hx hb hK hP 8 (by decide) 0 rfl rfl (by decide) (i := a0) (by omega) (v := nI ((ts) (a0))) rfl dX0_response_44 ?_
  refine lv_iload_n hx hb dX0_response_45 rfl (lv_at hl 4 rfl) ?_
  refine lv_iload hx hb dX0_response_46 (lv_at hl 0 rfl) ?_
  refine lv_isub hx hb dX0_response_48 ?_
  refine lv_iadd hx hb dX0_response_49 ?_
  refine zt_i (addsub_nI (hTs_response (x := a2) hT h_a0 h_a1).1) ?_
  refine zi_st hx hb hK hP hnd hAd hS 8 (by decide) 0 rfl rfl (by decide) (i := a0) (by omega) (wcE ad cI cJ cQ (mup (M) (11 + 3 * (a0)) (a1) (a2)) (nup (ts) (a0) (ts a0 + a2 - M (11 + 3 * a0) a1)) (pu)) wcS_ts dX0_response_50 (fun H locs hP hS => ?_)
  refine lv_iload hx hb dX0_response_51 (lv_at hl 0 rfl) ?_
  have hP9 : va_P D vwCl (wz 27 ad (wcE ad cI cJ cQ (nx_response M (clN (nI a0)) (clN (nI a1)) (clN (nI a2))) (nup ts (clN (nI a0)) (ts (clN (nI a0)) + clN (nI a2) - M (11 + 3 * clN (nI a0)) (clN (nI a1)))) (pu))) H := by rw [cl_a0, cl_a1, cl_a2]; exact hP
  exact hret (u := ()) (by decide) (by decide) (And.intro (by simp [b_1, b_2, b_3]) (by rw [cl_a0, cl_a1])) hS (fun t ht hA => ⟨va_K.moved hA hK, by rw [ht]; exact hP9⟩) dX0_response_53
set_option maxHeartbeats 4000000 in
set_option maxRecDepth 100000 in
/-- pump -/
theorem p0_pump (l : Launch) (hfl : l.stackTraces = false) {D : va_G} {ad : Nat → Nat} {cI cJ cQ : ClassId} {M : Mdl} {ts : Nat → Nat} {pu : Nat → Int64} {sa : Nat → Nat} {Z : Nat → Prop} {sz : Nat} (hI : Inv M) (hnd : ndz 27 ad)  (p0 p1 p2 : Int32) : vx_Met l yX0_pump wsX0_pump (rmX 1 3) (va_Pc [.ref (ad 0), .int (p0), .int (p1), .int (p2)] (KP0X D ad cI cJ cQ M ts pu sa Z sz)) (va_Qi (fun r_ (u_ : Unit) => ((ixB p0 (M 0 0) && ixB p1 36) && rgB p2 (nI 0) (nI 1000)) = true ∧ r_ = nI (M (10 + 3 * clN p0) (clN p1))) (fun (u_ : Unit) t_ => KP0 D ad cI cJ cQ (nx_pump M (clN p0) (clN p1) (clN p2)) (ts) (pu) t_) (azs 27 ad sz)) (XCE (fun E => (E = eI ∧ cd2 (ixB p0 (M 0 0) && ixB p1 36) (rgB p2 (nI 0) (nI 1000)) = 1) ∨ (E = eA ∧ cd2 (ixB p0 (M 0 0) && ixB p1 36) (rgB p2 (nI 0) (nI 1000)) = 2))) 3 18 (azs 27 ad sz) := by
  refine mkX_Qi (S := Unit) (post := fun r_ u_ => ((ixB p0 (M 0 0) && ixB p1 36) && rgB p2 (nI 0) (nI 1000)) = true ∧ r_ = nI (M (10 + 3 * clN p0) (clN p1))) (BQ := fun u_ t_ => KP0 D ad cI cJ cQ (nx_pump M (clN p0) (clN p1) (clN p2)) (ts) (pu) t_) (cc := cX0_pump) (maxL := 5) (by decide) rfl (Nat.le_of_ble_eq_true rfl) ?_
  intro p e s m args below meth c Q C0 B0 hX hret ls hl
  obtain ⟨hx, hb, hr, hml, hown, hts, hlocks⟩ := C0
  have hown : s.vm.findClass RX0 = some m.cls := hown
  obtain ⟨hsz, hKX, hK, hP⟩ := B0
  have hw0 : ∀ w ∈ wsX00, w.before args s = true := fun w h => hts w ((by decide +kernel : ∀ w ∈ wsX00, w ∈ wsX0_pump) w h)
  have b_nw := hI.nw
  have b_nv := hI.nv
  subst hsz
  have hAd : ∀ i, i < 27 → azs 27 ad s.heap.size (ad i) := fun i h => azs_i h
  have hS : va_S (azs 27 ad s.heap.size) s.heap s.heap [] := va_S.rf
  have hl : lv_has ls 5 [(0, .ref (ad 0)), (1, .int (p0)), (2, .int (p1)), (3, .int (p2))] := hl
  refine lv_iload_n hx hb dX0_pump_0 rfl (lv_at hl 1 rfl) ?_
  refine lv_aload_n hx hb dX0_pump_1 rfl (lv_at hl 0 rfl) ?_
  refine zg0 hx hb hw0 hown hK hP (by decide) rfl 10 (by decide) (hts (.fieldLink RX0 47 "WellField" "wellCount" "I") (by decide +kernel)) rfl rfl dX0_pump_2 ?_
  refine zx_v (vx_runS (As := [.int (p0), .int (nI (M 0 0))]) (rest := []) ⟨hx, hb, hml, hown, hts⟩ (x0_needIndex l hfl (p0) (M 0 0)) (va_cwS 2 hts gX0_pump_X0_needIndex rfl rfl rfl (by decide +kernel) (by decide)) (psX hKX) rfl rfl hl.1 rfl (lv_room (Nat.le_of_ble_eq_true rfl)) dX0_pump_5 (by decide)) (fun hp hz hk q1 q2 q3 => hX (by decide) (by decide) (by obtain ⟨rfl, h⟩ := hp; simp [cd1, cd2, cd3, h]) hz hk q1 q2 q3) (fun b_1 => ?_)
  refine lv_iload_n hx hb dX0_pump_8 rfl (lv_at hl 2 rfl) ?_
  refine lv_bipush (v := nI 36) hx hb dX0_pump_9 (by decide) ?_
  refine zx_v (vx_runS (As := [.int (p1), .int (nI (36))]) (rest := []) ⟨hx, hb, hml, hown, hts⟩ (x0_needIndex l hfl (p1) (36)) (va_cwS 2 hts gX0_pump_X0_needIndex rfl rfl rfl (by decide +kernel) (by decide)) (psX hKX) rfl rfl hl.1 rfl (lv_room (Nat.le_of_ble_eq_true rfl)) dX0_pump_11 (by decide)) (fun hp hz hk q1 q2 q3 => hX (by decide) (by decide) (by obtain ⟨rfl, h⟩ := hp; simp [cd1, cd2, cd3, h, b_1]) hz hk q1 q2 q3) (fun b_2 => ?_)
  refine lv_iload_n hx hb dX0_pump_14 rfl (lv_at hl 3 rfl) ?_
  refine lv_iconst (v := nI 0) hx hb dX0_pump_15 (by decide) ?_
  refine lv_sipush (v := nI 1000) hx hb dX0_pump_16 (by decide) ?_
  refine zx_v (vx_runS (As := [.int (p2), .int (nI (0)), .int (nI (1000))]) (rest := []) ⟨hx, hb, hml, hown, hts⟩ (x0_needRange l hfl (p2) (nI (0)) (nI (1000))) (va_cwS 3 hts gX0_pump_X0_needRange rfl rfl rfl (by decide +kernel) (by decide)) (psX hKX) rfl rfl hl.1 rfl (lv_room (Nat.le_of_ble_eq_true rfl)) dX0_pump_19 (by decide)) (fun hp hz hk q1 q2 q3 => hX (by decide) (by decide) (by obtain ⟨rfl, h⟩ := hp; simp [cd1, cd2, cd3, h, b_1, b_2]) hz hk q1 q2 q3) (fun b_3 => ?_)
  obtain ⟨a0, h_a0, rfl⟩ := ixB_of (by omega) b_1
  have cl_a0 : clN (nI a0) = a0 := clN_nI (by omega)
  obtain ⟨a1, h_a1, rfl⟩ := ixB_of (by omega) b_2
  have cl_a1 : clN (nI a1) = a1 := clN_nI (by omega)
  obtain ⟨a2, ga2, h_a2, rfl⟩ := rgB_of (by decide) b_3 (by decide)
  have cl_a2 : clN (nI a2) = a2 := clN_nI (by omega)
  refine lv_aload_n hx hb dX0_pump_22 rfl (lv_at hl 0 rfl) ?_
  refine zg0 hx hb hw0 hown hK hP (by decide) rfl 3 (by decide) (hts (.fieldLink RX0 21 "WellField" "pumping" "[[I") (by decide +kernel)) rfl rfl dX0_pump_23 ?_
  refine lv_iload_n hx hb dX0_pump_26 rfl (lv_at hl 1 rfl) ?_
  refine zq_ld hx hb hK hP 4 (by decide) 2 rfl rfl (by decide) (i := a0) (by omega) (a := ad (11 + (a0))) rfl dX0_pump_27 ?_
  refine lv_iload_n hx hb dX0_pump_28 rfl (lv_at hl 2 rfl) ?_
  refine zi_ld hx hb hK hP (11 + (a0)) (by omega) 0 (wcE_pump (by omega)) rfl (by decide) (i := a1) (by omega) (v := nI (M (10 + 3 * (a0)) (a1))) rfl dX0_pump_29 ?_
  have f_4 := hI.un (a0) (by omega) (a1)
  refine lv_istore (lv' := [(4, .int (nI (M (10 + 3 * (a0)) (a1)))), (0, .ref (ad 0)), (1, .int (nI (a0))), (2, .int (nI (a1))), (3, .int (nI (a2)))]) hx hb dX0_pump_30 hl (by decide) rfl (fun ls hl => ?_)
  refine lv_aload_n hx hb dX0_pump_32 rfl (lv_at hl 1 rfl) ?_
  refine zg0 hx hb hw0 hown hK hP (by decide) rfl 3 (by decide) (hts (.fieldLink RX0 21 "WellField" "pumping" "[[I") (by decide +kernel)) rfl rfl dX0_pump_33 ?_
  refine lv_iload_n hx hb dX0_pump_36 rfl (lv_at hl 2 rfl) ?_
  refine zq_ld hx hb hK hP 4 (by decide) 2 rfl rfl (by decide) (i := a0) (by omega) (a := ad (11 + (a0))) rfl dX0_pump_37 ?_
  refine lv_iload_n hx hb dX0_pump_38 rfl (lv_at hl 3 rfl) ?_
  refine lv_iload_n hx hb dX0_pump_39 rfl (lv_at hl 4 rfl) ?_
  refine zi_st hx hb hK hP hnd hAd hS (11 + (a0)) (by omega) 0 (wcE_pump (by omega)) rfl (by decide) (i := a1) (by omega) (wcE ad cI cJ cQ (mup (M) (10 + 3 * (a0)) (a1) (a2)) (ts) (pu)) (wcS_un (by omega)) dX0_pump_40 (fun H locs hP hS => ?_)
  refine lv_iload hx hb dX0_pump_41 (lv_at hl 0 rfl) ?_
  have hP9 : va_P D vwCl (wz 27 ad (wcE ad cI cJ cQ (nx_pump M (clN (nI a0)) (clN (nI a1)) (clN (nI a2))) (ts) (pu))) H := by rw [cl_a0, cl_a1, cl_a2]; exact hP
  exact hret (u := ()) (by decide) (by decide) (And.intro (by simp [b_1, b_2, b_3]) (by rw [cl_a0, cl_a1])) hS (fun t ht hA => ⟨va_K.moved hA hK, by rw [ht]; exact hP9⟩) dX0_pump_43
set_option maxHeartbeats 4000000 in
set_option maxRecDepth 100000 in
/-- rest -/
theorem p0_rest (l : Launch) (hfl : l.stackTraces = false) {D : va_G} {ad : Nat → Nat} {cI cJ cQ : ClassId} {M : Mdl} {ts : Nat → Nat} {pu : Nat → Int64} {sa : Nat → Nat} {Z : Nat → Prop} {sz : Nat} (hI : Inv M) (hnd : ndz 27 ad)  (p0 p1 p2 : Int32) : vx_Met l yX0_rest wsX0_rest (rmX 1 3) (va_Pc [.ref (ad 0), .int (p0), .int (p1), .int (p2)] (KP0X D ad cI cJ cQ M ts pu sa Z sz)) (va_Qi (fun r_ (u_ : Unit) => ((ixB p0 (M 0 0) && ixB p1 36) && rgB p2 (nI 1) (nI 36)) = true ∧ r_ = nI (rss M (clN p0) (clN p1) (rsn (clN p1) (clN p2)))) (fun (u_ : Unit) t_ => KP0 D ad cI cJ cQ (nx_rest M (clN p0) (clN p1) (clN p2)) (ts) (pu) t_) (azs 27 ad sz)) (XCE (fun E => (E = eI ∧ cd2 (ixB p0 (M 0 0) && ixB p1 36) (rgB p2 (nI 1) (nI 36)) = 1) ∨ (E = eA ∧ cd2 (ixB p0 (M 0 0) && ixB p1 36) (rgB p2 (nI 1) (nI 36)) = 2))) 3 18 (azs 27 ad sz) := by
  refine mkX_Qi (S := Unit) (post := fun r_ u_ => ((ixB p0 (M 0 0) && ixB p1 36) && rgB p2 (nI 1) (nI 36)) = true ∧ r_ = nI (rss M (clN p0) (clN p1) (rsn (clN p1) (clN p2)))) (BQ := fun u_ t_ => KP0 D ad cI cJ cQ (nx_rest M (clN p0) (clN p1) (clN p2)) (ts) (pu) t_) (cc := cX0_rest) (maxL := 7) (by decide) rfl (Nat.le_of_ble_eq_true rfl) ?_
  intro p e s m args below meth c Q C0 B0 hX hret ls hl
  obtain ⟨hx, hb, hr, hml, hown, hts, hlocks⟩ := C0
  have hown : s.vm.findClass RX0 = some m.cls := hown
  obtain ⟨hsz, hKX, hK, hP⟩ := B0
  have hw0 : ∀ w ∈ wsX00, w.before args s = true := fun w h => hts w ((by decide +kernel : ∀ w ∈ wsX00, w ∈ wsX0_rest) w h)
  have b_nw := hI.nw
  have b_nv := hI.nv
  subst hsz
  have hAd : ∀ i, i < 27 → azs 27 ad s.heap.size (ad i) := fun i h => azs_i h
  have hS : va_S (azs 27 ad s.heap.size) s.heap s.heap [] := va_S.rf
  have hl : lv_has ls 7 [(0, .ref (ad 0)), (1, .int (p0)), (2, .int (p1)), (3, .int (p2))] := hl
  refine lv_iload_n hx hb dX0_rest_0 rfl (lv_at hl 1 rfl) ?_
  refine lv_aload_n hx hb dX0_rest_1 rfl (lv_at hl 0 rfl) ?_
  refine zg0 hx hb hw0 hown hK hP (by decide) rfl 10 (by decide) (hts (.fieldLink RX0 47 "WellField" "wellCount" "I") (by decide +kernel)) rfl rfl dX0_rest_2 ?_
  refine zx_v (vx_runS (As := [.int (p0), .int (nI (M 0 0))]) (rest := []) ⟨hx, hb, hml, hown, hts⟩ (x0_needIndex l hfl (p0) (M 0 0)) (va_cwS 2 hts gX0_rest_X0_needIndex rfl rfl rfl (by decide +kernel) (by decide)) (psX hKX) rfl rfl hl.1 rfl (lv_room (Nat.le_of_ble_eq_true rfl)) dX0_rest_5 (by decide)) (fun hp hz hk q1 q2 q3 => hX (by decide) (by decide) (by obtain ⟨rfl, h⟩ := hp; simp [cd1, cd2, cd3, h]) hz hk q1 q2 q3) (fun b_1 => ?_)
  refine lv_iload_n hx hb dX0_rest_8 rfl (lv_at hl 2 rfl) ?_
  refine lv_bipush (v := nI 36) hx hb dX0_rest_9 (by decide) ?_
  refine zx_v (vx_runS (As := [.int (p1), .int (nI (36))]) (rest := []) ⟨hx, hb, hml, hown, hts⟩ (x0_needIndex l hfl (p1) (36)) (va_cwS 2 hts gX0_rest_X0_needIndex rfl rfl rfl (by decide +kernel) (by decide)) (psX hKX) rfl rfl hl.1 rfl (lv_room (Nat.le_of_ble_eq_true rfl)) dX0_rest_11 (by decide)) (fun hp hz hk q1 q2 q3 => hX (by decide) (by decide) (by obtain ⟨rfl, h⟩ := hp; simp [cd1, cd2, cd3, h, b_1]) hz hk q1 q2 q3) (fun b_2 => ?_)
  refine lv_iload_n hx hb dX0_rest_14 rfl (lv_at hl 3 rfl) ?_
  refine lv_iconst (v := nI 1) hx hb dX0_rest_15 (by decide) ?_
  refine lv_bipush (v := nI 36) hx hb dX0_rest_16 (by decide) ?_
  refine zx_v (vx_runS (As := [.int (p2), .int (nI (1)), .int (nI (36))]) (rest := []) ⟨hx, hb, hml, hown, hts⟩ (x0_needRange l hfl (p2) (nI (1)) (nI (36))) (va_cwS 3 hts gX0_rest_X0_needRange rfl rfl rfl (by decide +kernel) (by decide)) (psX hKX) rfl rfl hl.1 rfl (lv_room (Nat.le_of_ble_eq_true rfl)) dX0_rest_18 (by decide)) (fun hp hz hk q1 q2 q3 => hX (by decide) (by decide) (by obtain ⟨rfl, h⟩ := hp; simp [cd1, cd2, cd3, h, b_1, b_2]) hz hk q1 q2 q3) (fun b_3 => ?_)
  obtain ⟨w, h_w, rfl⟩ := ixB_of (by omega) b_1
  have cl_w : clN (nI w) = w := clN_nI (by omega)
  obtain ⟨mo, h_mo, rfl⟩ := ixB_of (by omega) b_2
  have cl_mo : clN (nI mo) = mo := clN_nI (by omega)
  obtain ⟨nn, gnn, h_nn, rfl⟩ := rgB_of (by decide) b_3 (by decide)
  have cl_nn : clN (nI nn) = nn := clN_nI (by omega)
  have hrs := rsn_s mo nn h_mo
  refine lv_iload_n hx hb dX0_rest_21 rfl (lv_at hl 2 rfl) ?_
  refine lv_iload_n hx hb dX0_rest_22 rfl (lv_at hl 3 rfl) ?_
  refine zr_iadd hx hb dX0_rest_23 ?_
  refine lv_bipush (v := nI 36) hx hb dX0_rest_24 (by decide) ?_
  refine va_mmin hx hb (hml.trans hl.1.symm) hown (hts (.methodLink RX0 62 Lib.Math.min.name) (by decide +kernel)) (hts (.static Lib.Math.min.name) (by decide +kernel)) (hts (.initialized "java/lang/Math") (by decide +kernel)) (hts (.code Lib.Math.min.name Lib.Math.min.code 2 (some .int)) (by decide +kernel)) (by decide) (Nat.le_of_ble_eq_true rfl) (by decide) (by decide) dX0_rest_26 ?_
  refine zt_i (nmin_nI (by omega) (by omega)) ?_
  refine lv_istore (lv' := [(4, .int (nI (min ((mo) + (nn)) (36)))), (0, .ref (ad 0)), (1, .int (nI (w))), (2, .int (nI (mo))), (3, .int (nI (nn)))]) hx hb dX0_rest_29 hl (by decide) rfl (fun ls hl => ?_)
  refine lv_iconst (v := nI 0) hx hb dX0_rest_31 (by decide) ?_
  refine lv_istore (lv' := [(5, .int (nI (0))), (4, .int (nI (min ((mo) + (nn)) (36)))), (0, .ref (ad 0)), (1, .int (nI (w))), (2, .int (nI (mo))), (3, .int (nI (nn)))]) hx hb dX0_rest_32 hl (by decide) rfl (fun ls hl => ?_)
  refine lv_iload_n hx hb dX0_rest_34 rfl (lv_at hl 4 rfl) ?_
  refine lv_istore (lv' := [(6, .int (nI (mo))), (5, .int (nI (0))), (4, .int (nI (min ((mo) + (nn)) (36)))), (0, .ref (ad 0)), (1, .int (nI (w))), (2, .int (nI (mo))), (3, .int (nI (nn)))]) hx hb dX0_rest_35 hl (by decide) rfl (fun ls hl => ?_)
  have lp37 : ∀ (n k : Nat), k ≤ rsn mo nn → rsn mo nn - k < n → ∀ (H : Heap) (locs : List Loc), va_P D vwCl (wz 27 ad (wcE ad cI cJ cQ (rst M w mo (k)) (ts) (pu))) H → va_S (azs 27 ad s.heap.size) s.heap H locs → ∀ ls : Array Slot, lv_has ls 7 [(0, .ref (ad 0)), (1, .int (nI (w))), (2, .int (nI (mo))), (3, .int (nI (nn))), (4, .int (nI (min ((mo) + (nn)) (36)))), (5, .int (nI (ssum (fun k => M (10 + 3 * w) (mo + k)) (k)))), (6, .int (nI (mo + (k))))] → W p l e (rmX 1 3) s m args below meth c H locs 3 18 Q (F0 m 37 ls []) := by
    intro n
    induction n with
    | zero => intro k q1 q2; omega
    | succ n ih37 =>
      intro k q1_37 q2_37 H locs hP hS ls hl
      refine lv_iload hx hb dX0_rest_37 (lv_at hl 6 rfl) ?_
      refine lv_iload hx hb dX0_rest_39 (lv_at hl 4 rfl) ?_
      refine zb_ge (tgt := 74) hx hb (by omega) (by omega) dX0_rest_41 (by decide) (fun c_4 => ?_) (fun c_4 => ?_)
      · skip
        have q_5 : k = rsn mo nn := by omega
        subst q_5
        refine lv_iload hx hb dX0_rest_74 (lv_at hl 5 rfl) ?_
        have hP9 : va_P D vwCl (wz 27 ad (wcE ad cI cJ cQ (nx_rest M (clN (nI w)) (clN (nI mo)) (clN (nI nn))) (ts) (pu))) H := by rw [cl_w, cl_mo, cl_nn]; exact hP
        exact hret (u := ()) (by decide) (by decide) (And.intro (by simp [b_1, b_2, b_3]) (by rw [cl_w, cl_mo, cl_nn]; rfl)) hS (fun t ht hA => ⟨va_K.moved hA hK, by rw [ht]; exact hP9⟩) dX0_rest_76
      · skip
        refine lv_iload hx hb dX0_rest_44 (lv_at hl 5 rfl) ?_
        refine lv_aload_n hx hb dX0_rest_46 rfl (lv_at hl 0 rfl) ?_
        refine zg0 hx hb hw0 hown hK hP (by decide) rfl 3 (by decide) (hts (.fieldLink RX0 21 "WellField" "pumping" "[[I") (by decide +kernel)) rfl rfl dX0_rest_47 ?_
        refine lv_iload_n hx hb dX0_rest_50 rfl (lv_at hl 1 rfl) ?_
        refine zq_ld hx hb hK hP 4 (by decide) 2 rfl rfl (by decide) (i := w) (by omega) (a := ad (11 + (w))) rfl dX0_rest_51 ?_
        refine lv_iload hx hb dX0_rest_52 (lv_at hl 6 rfl) ?_
        refine zi_ld hx hb hK hP (11 + (w)) (by omega) 0 (wcE_pump (by omega)) rfl (by decide) (i := mo + (k)) (by omega) (v := nI ((rst M w mo (k)) (10 + 3 * (w)) (mo + (k)))) rfl dX0_rest_54 ?_
        refine zt_i (y := nI (M (10 + 3 * w) (mo + k))) (congrArg nI (rst_at M w mo k k (Nat.le_refl _))) ?_
        refine zr_iadd hx hb dX0_rest_55 ?_
        refine lv_istore (lv' := [(5, .int (nI ((ssum (fun k => M (10 + 3 * w) (mo + k)) (k)) + (M (10 + 3 * w) (mo + k))))), (0, .ref (ad 0)), (1, .int (nI (w))), (2, .int (nI (mo))), (3, .int (nI (nn))), (4, .int (nI (min ((mo) + (nn)) (36)))), (6, .int (nI (mo + (k))))]) hx hb dX0_rest_56 hl (by decide) rfl (fun ls hl => ?_)
        refine lv_aload_n hx hb dX0_rest_58 rfl (lv_at hl 1 rfl) ?_
        refine zg0 hx hb hw0 hown hK hP (by decide) rfl 3 (by decide) (hts (.fieldLink RX0 21 "WellField" "pumping" "[[I") (by decide +kernel)) rfl rfl dX0_rest_59 ?_
        refine lv_iload_n hx hb dX0_rest_62 rfl (lv_at hl 2 rfl) ?_
        refine zq_ld hx hb hK hP 4 (by decide) 2 rfl rfl (by decide) (i := w) (by omega) (a := ad (11 + (w))) rfl dX0_rest_63 ?_
        refine lv_iload hx hb dX0_rest_64 (lv_at hl 6 rfl) ?_
        refine lv_iconst (v := nI 0) hx hb dX0_rest_66 (by decide) ?_
        refine zi_st hx hb hK hP hnd hAd hS (11 + (w)) (by omega) 0 (wcE_pump (by omega)) rfl (by decide) (i := mo + (k)) (by omega) (wcE ad cI cJ cQ (mup (rst M w mo (k)) (10 + 3 * (w)) (mo + (k)) (0)) (ts) (pu)) (wcS_un (by omega)) dX0_rest_67 (fun H locs hP hS => ?_)
        refine lv_iinc (v := nI (mo + (k) + 1)) (lv' := [(6, .int (nI (mo + (k) + 1))), (5, .int (nI ((ssum (fun k => M (10 + 3 * w) (mo + k)) (k)) + (M (10 + 3 * w) (mo + k))))), (0, .ref (ad 0)), (1, .int (nI (w))), (2, .int (nI (mo))), (3, .int (nI (nn))), (4, .int (nI (min ((mo) + (nn)) (36))))]) hx hb dX0_rest_68 hl (k := 6) rfl (zn_inc (mo + (k))) (by decide) rfl (fun ls hl => ?_)
        refine lv_goto (tgt := 37) hx hb dX0_rest_71 (by decide) ?_
        exact ih37 (k + 1) (by omega) (by omega) _ _ hP hS _ (lv_sub hl [2, 3, 4, 5, 6, 1, 0] rfl)
  exact lp37 (rsn mo nn - (0) + 1) (0) (by omega) (by omega) _ _ hP hS _ (lv_sub hl [3, 4, 5, 6, 2, 1, 0] rfl)
set_option maxHeartbeats 4000000 in
set_option maxRecDepth 100000 in
/-- ratio -/
theorem p0_ratio (l : Launch) (hfl : l.stackTraces = false) {D : va_G} {ad : Nat → Nat} {cI cJ cQ : ClassId} {M : Mdl} {ts : Nat → Nat} {pu : Nat → Int64} {sa : Nat → Nat} {Z : Nat → Prop} {sz : Nat} (hI : Inv M) (hnd : ndz 27 ad)  (p0 p1 p2 : Int32) : vx_Met l yX0_ratio wsX0_ratio (rmX 1 3) (va_Pc [.ref (ad 0), .int (p0), .int (p1), .int (p2)] (KP0X D ad cI cJ cQ M ts pu sa Z sz)) (va_Qi (fun r_ (u_ : Unit) => ((ixB p0 3 && ixB p1 3) && rgB p2 (nI 0) (nI 200)) = true ∧ r_ = nI (M (12 + 3 * clN p0) (clN p1))) (fun (u_ : Unit) t_ => KP0 D ad cI cJ cQ (nx_ratio M (clN p0) (clN p1) (clN p2)) (ts) (pu) t_) (azs 27 ad sz)) (XCE (fun E => (E = eI ∧ cd2 (ixB p0 3 && ixB p1 3) (rgB p2 (nI 0) (nI 200)) = 1) ∨ (E = eA ∧ cd2 (ixB p0 3 && ixB p1 3) (rgB p2 (nI 0) (nI 200)) = 2))) 3 18 (azs 27 ad sz) := by
  refine mkX_Qi (S := Unit) (post := fun r_ u_ => ((ixB p0 3 && ixB p1 3) && rgB p2 (nI 0) (nI 200)) = true ∧ r_ = nI (M (12 + 3 * clN p0) (clN p1))) (BQ := fun u_ t_ => KP0 D ad cI cJ cQ (nx_ratio M (clN p0) (clN p1) (clN p2)) (ts) (pu) t_) (cc := cX0_ratio) (maxL := 5) (by decide) rfl (Nat.le_of_ble_eq_true rfl) ?_
  intro p e s m args below meth c Q C0 B0 hX hret ls hl
  obtain ⟨hx, hb, hr, hml, hown, hts, hlocks⟩ := C0
  have hown : s.vm.findClass RX0 = some m.cls := hown
  obtain ⟨hsz, hKX, hK, hP⟩ := B0
  have hw0 : ∀ w ∈ wsX00, w.before args s = true := fun w h => hts w ((by decide +kernel : ∀ w ∈ wsX00, w ∈ wsX0_ratio) w h)
  have b_nw := hI.nw
  have b_nv := hI.nv
  subst hsz
  have hAd : ∀ i, i < 27 → azs 27 ad s.heap.size (ad i) := fun i h => azs_i h
  have hS : va_S (azs 27 ad s.heap.size) s.heap s.heap [] := va_S.rf
  have hl : lv_has ls 5 [(0, .ref (ad 0)), (1, .int (p0)), (2, .int (p1)), (3, .int (p2))] := hl
  refine lv_iload_n hx hb dX0_ratio_0 rfl (lv_at hl 1 rfl) ?_
  refine lv_iconst (v := nI 3) hx hb dX0_ratio_1 (by decide) ?_
  refine zx_v (vx_runS (As := [.int (p0), .int (nI (3))]) (rest := []) ⟨hx, hb, hml, hown, hts⟩ (x0_needIndex l hfl (p0) (3)) (va_cwS 2 hts gX0_ratio_X0_needIndex rfl rfl rfl (by decide +kernel) (by decide)) (psX hKX) rfl rfl hl.1 rfl (lv_room (Nat.le_of_ble_eq_true rfl)) dX0_ratio_2 (by decide)) (fun hp hz hk q1 q2 q3 => hX (by decide) (by decide) (by obtain ⟨rfl, h⟩ := hp; simp [cd1, cd2, cd3, h]) hz hk q1 q2 q3) (fun b_1 => ?_)
  refine lv_iload_n hx hb dX0_ratio_5 rfl (lv_at hl 2 rfl) ?_
  refine lv_iconst (v := nI 3) hx hb dX0_ratio_6 (by decide) ?_
  refine zx_v (vx_runS (As := [.int (p1), .int (nI (3))]) (rest := []) ⟨hx, hb, hml, hown, hts⟩ (x0_needIndex l hfl (p1) (3)) (va_cwS 2 hts gX0_ratio_X0_needIndex rfl rfl rfl (by decide +kernel) (by decide)) (psX hKX) rfl rfl hl.1 rfl (lv_room (Nat.le_of_ble_eq_true rfl)) dX0_ratio_7 (by decide)) (fun hp hz hk q1 q2 q3 => hX (by decide) (by decide) (by obtain ⟨rfl, h⟩ := hp; simp [cd1, cd2, cd3, h, b_1]) hz hk q1 q2 q3) (fun b_2 => ?_)
  refine lv_iload_n hx hb dX0_ratio_10 rfl (lv_at hl 3 rfl) ?_
  refine lv_iconst (v := nI 0) hx hb dX0_ratio_11 (by decide) ?_
  refine lv_sipush (v := nI 200) hx hb dX0_ratio_12 (by decide) ?_
  refine zx_v (vx_runS (As := [.int (p2), .int (nI (0)), .int (nI (200))]) (rest := []) ⟨hx, hb, hml, hown, hts⟩ (x0_needRange l hfl (p2) (nI (0)) (nI (200))) (va_cwS 3 hts gX0_ratio_X0_needRange rfl rfl rfl (by decide +kernel) (by decide)) (psX hKX) rfl rfl hl.1 rfl (lv_room (Nat.le_of_ble_eq_true rfl)) dX0_ratio_15 (by decide)) (fun hp hz hk q1 q2 q3 => hX (by decide) (by decide) (by obtain ⟨rfl, h⟩ := hp; simp [cd1, cd2, cd3, h, b_1, b_2]) hz hk q1 q2 q3) (fun b_3 => ?_)
  obtain ⟨a0, h_a0, rfl⟩ := ixB_of (by omega) b_1
  have cl_a0 : clN (nI a0) = a0 := clN_nI (by omega)
  obtain ⟨a1, h_a1, rfl⟩ := ixB_of (by omega) b_2
  have cl_a1 : clN (nI a1) = a1 := clN_nI (by omega)
  obtain ⟨a2, ga2, h_a2, rfl⟩ := rgB_of (by decide) b_3 (by decide)
  have cl_a2 : clN (nI a2) = a2 := clN_nI (by omega)
  refine lv_aload_n hx hb dX0_ratio_18 rfl (lv_at hl 0 rfl) ?_
  refine zg0 hx hb hw0 hown hK hP (by decide) rfl 8 (by decide) (hts (.fieldLink RX0 36 "WellField" "ratios" "[[I") (by decide +kernel)) rfl rfl dX0_ratio_19 ?_
  refine lv_iload_n hx hb dX0_ratio_22 rfl (lv_at hl 1 rfl) ?_
  refine zq_ld hx hb hK hP 9 (by decide) 2 rfl rfl (by decide) (i := a0) (by omega) (a := ad (24 + (a0))) rfl dX0_ratio_23 ?_
  refine lv_iload_n hx hb dX0_ratio_24 rfl (lv_at hl 2 rfl) ?_
  refine zi_ld hx hb hK hP (24 + (a0)) (by omega) 0 (wcE_rat (by omega)) rfl (by decide) (i := a1) (by omega) (v := nI (M (12 + 3 * (a0)) (a1))) rfl dX0_ratio_25 ?_
  have f_4 := hI.ra (a0) (by omega) (a1)
  refine lv_istore (lv' := [(4, .int (nI (M (12 + 3 * (a0)) (a1)))), (0, .ref (ad 0)), (1, .int (nI (a0))), (2, .int (nI (a1))), (3, .int (nI (a2)))]) hx hb dX0_ratio_26 hl (by decide) rfl (fun ls hl => ?_)
  refine lv_aload_n hx hb dX0_ratio_28 rfl (lv_at hl 1 rfl) ?_
  refine zg0 hx hb hw0 hown hK hP (by decide) rfl 8 (by decide) (hts (.fieldLink RX0 36 "WellField" "ratios" "[[I") (by decide +kernel)) rfl rfl dX0_ratio_29 ?_
  refine lv_iload_n hx hb dX0_ratio_32 rfl (lv_at hl 2 rfl) ?_
  refine zq_ld hx hb hK hP 9 (by decide) 2 rfl rfl (by decide) (i := a0) (by omega) (a := ad (24 + (a0))) rfl dX0_ratio_33 ?_
  refine lv_iload_n hx hb dX0_ratio_34 rfl (lv_at hl 3 rfl) ?_
  refine lv_iload_n hx hb dX0_ratio_35 rfl (lv_at hl 4 rfl) ?_
  refine zi_st hx hb hK hP hnd hAd hS (24 + (a0)) (by omega) 0 (wcE_rat (by omega)) rfl (by decide) (i := a1) (by omega) (wcE ad cI cJ cQ (mup (M) (12 + 3 * (a0)) (a1) (a2)) (ts) (pu)) (wcS_ra (by omega)) dX0_ratio_36 (fun H locs hP hS => ?_)
  refine lv_iload hx hb dX0_ratio_37 (lv_at hl 0 rfl) ?_
  have hP9 : va_P D vwCl (wz 27 ad (wcE ad cI cJ cQ (nx_ratio M (clN (nI a0)) (clN (nI a1)) (clN (nI a2))) (ts) (pu))) H := by rw [cl_a0, cl_a1, cl_a2]; exact hP
  exact hret (u := ()) (by decide) (by decide) (And.intro (by simp [b_1, b_2, b_3]) (by rw [cl_a0, cl_a1])) hS (fun t ht hA => ⟨va_K.moved hA hK, by rw [ht]; exact hP9⟩) dX0_ratio_39
set_option maxHeartbeats 4000000 in
set_option maxRecDepth 100000 in
/-- trade -/
theorem p0_trade (l : Launch) (hfl : l.stackTraces = false) {D : va_G} {ad : Nat → Nat} {cI cJ cQ : ClassId} {M : Mdl} {ts : Nat → Nat} {pu : Nat → Int64} {sa : Nat → Nat} {Z : Nat → Prop} {sz : Nat} (hI : Inv M) (hnd : ndz 27 ad) (hT : hTs M ts) (p0 p1 p2 : Int32) : vx_Met l yX0_trade wsX0_trade (rmX 2 5) (va_Pc [.ref (ad 0), .int (p0), .int (p1), .int (p2)] (KP0X D ad cI cJ cQ M ts pu sa Z sz)) (va_Qi (fun r_ (u_ : Unit) => ((ixB p0 (M 0 0) && ixB p1 (M 0 0)) && (decide (p0 ≠ p1) && rgB p2 (nI 1) (nI 5000)) && cn M (clN p0) (clN p1) (clN p2)) = true ∧ r_ = nI (gt M (clN p0) (clN p1) (clN p2))) (fun (u_ : Unit) t_ => KP0 D ad cI cJ cQ (nx_trade M (clN p0) (clN p1) (clN p2)) (ts) (pu) t_) (azs 27 ad sz)) (XCE (fun E => (E = eI ∧ cd3 (ixB p0 (M 0 0) && ixB p1 (M 0 0)) (decide (p0 ≠ p1) && rgB p2 (nI 1) (nI 5000)) (cn M (clN p0) (clN p1) (clN p2)) = 1) ∨ (E = eA ∧ cd3 (ixB p0 (M 0 0) && ixB p1 (M 0 0)) (decide (p0 ≠ p1) && rgB p2 (nI 1) (nI 5000)) (cn M (clN p0) (clN p1) (clN p2)) = 2) ∨ (E = eS ∧ cd3 (ixB p0 (M 0 0) && ixB p1 (M 0 0)) (decide (p0 ≠ p1) && rgB p2 (nI 1) (nI 5000)) (cn M (clN p0) (clN p1) (clN p2)) = 3))) 5 30 (azs 27 ad sz) := by
  refine mkX_Qi (S := Unit) (post := fun r_ u_ => ((ixB p0 (M 0 0) && ixB p1 (M 0 0)) && (decide (p0 ≠ p1) && rgB p2 (nI 1) (nI 5000)) && cn M (clN p0) (clN p1) (clN p2)) = true ∧ r_ = nI (gt M (clN p0) (clN p1) (clN p2))) (BQ := fun u_ t_ => KP0 D ad cI cJ cQ (nx_trade M (clN p0) (clN p1) (clN p2)) (ts) (pu) t_) (cc := cX0_trade) (maxL := 5) (by decide) rfl (Nat.le_of_ble_eq_true rfl) ?_
  intro p e s m args below meth c Q C0 B0 hX hret ls hl
  obtain ⟨hx, hb, hr, hml, hown, hts, hlocks⟩ := C0
  have hown : s.vm.findClass RX0 = some m.cls := hown
  obtain ⟨hsz, hKX, hK, hP⟩ := B0
  have hw0 : ∀ w ∈ wsX00, w.before args s = true := fun w h => hts w ((by decide +kernel : ∀ w ∈ wsX00, w ∈ wsX0_trade) w h)
  have b_nw := hI.nw
  have b_nv := hI.nv
  subst hsz
  have hAd : ∀ i, i < 27 → azs 27 ad s.heap.size (ad i) := fun i h => azs_i h
  have hS : va_S (azs 27 ad s.heap.size) s.heap s.heap [] := va_S.rf
  have hl : lv_has ls 5 [(0, .ref (ad 0)), (1, .int (p0)), (2, .int (p1)), (3, .int (p2))] := hl
  refine lv_aload_n hx hb dX0_trade_0 rfl (lv_at hl 0 rfl) ?_
  refine lv_iload_n hx hb dX0_trade_1 rfl (lv_at hl 1 rfl) ?_
  refine lv_iload_n hx hb dX0_trade_2 rfl (lv_at hl 2 rfl) ?_
  refine zx_v (vx_runV (As := [.int (p0), .int (p1)]) (rest := []) ⟨hx, hb, hml, hown, hts⟩ (x0_needTwoWells l hfl hI (p0) (p1)) (cwV 2 hts gX0_trade_X0_needTwoWells rfl rfl rfl (by decide +kernel) (by decide)) (pv0X (s0 := s.heap) hK hP hKX (fun _ _ _ => rfl)) rfl rfl hl.1 rfl (lv_room (Nat.le_of_ble_eq_true rfl)) dX0_trade_3 (by decide)) (fun hp hz hk q1 q2 q3 => hX (by decide) (by decide) (by rcases hp with ⟨rfl, h⟩ | ⟨rfl, h, h9⟩ <;> first | (simp [cd1, cd2, cd3, h]; done) | (simp [cd1, cd2, cd3, (Bool.and_eq_true_iff.mp h).2, h9]; done)) hz hk q1 q2 q3) (fun b_1 => ?_)
  refine lv_iload_n hx hb dX0_trade_6 rfl (lv_at hl 3 rfl) ?_
  refine lv_iconst (v := nI 1) hx hb dX0_trade_7 (by decide) ?_
  refine lv_sipush (v := nI 5000) hx hb dX0_trade_8 (by decide) ?_
  refine zx_v (vx_runS (As := [.int (p2), .int (nI (1)), .int (nI (5000))]) (rest := []) ⟨hx, hb, hml, hown, hts⟩ (x0_needRange l hfl (p2) (nI (1)) (nI (5000))) (va_cwS 3 hts gX0_trade_X0_needRange rfl rfl rfl (by decide +kernel) (by decide)) (psX hKX) rfl rfl hl.1 rfl (lv_room (Nat.le_of_ble_eq_true rfl)) dX0_trade_11 (by decide)) (fun hp hz hk q1 q2 q3 => hX (by decide) (by decide) (by obtain ⟨rfl, h⟩ := hp; simp [cd1, cd2, cd3, h, b_1]) hz hk q1 q2 q3) (fun b_2 => ?_)
  have b_t : (ixB p0 (M 0 0) && ixB p1 (M 0 0)) = true := b_1.1
  have b_n : decide (p0 ≠ p1) = true := decide_eq_true b_1.2
  have h_ne := b_1.2
  obtain ⟨f, h_f, rfl⟩ := ixB_of (by omega) (Bool.and_eq_true_iff.mp b_1.1).1
  have cl_f : clN (nI f) = f := clN_nI (by omega)
  obtain ⟨t, h_t, rfl⟩ := ixB_of (by omega) (Bool.and_eq_true_iff.mp b_1.1).2
  have cl_t : clN (nI t) = t := clN_nI (by omega)
  obtain ⟨u, gu, h_u, rfl⟩ := rgB_of (by decide) b_2 (by decide)
  have cl_u : clN (nI u) = u := clN_nI (by omega)
  have h_ft : f ≠ t := fun q => h_ne (by rw [q])
  refine lv_aload_n hx hb dX0_trade_14 rfl (lv_at hl 0 rfl) ?_
  refine lv_iload_n hx hb dX0_trade_15 rfl (lv_at hl 1 rfl) ?_
  refine lv_iload_n hx hb dX0_trade_16 rfl (lv_at hl 2 rfl) ?_
  refine lv_iload_n hx hb dX0_trade_17 rfl (lv_at hl 3 rfl) ?_
  refine vp_callSi (W.runV (As := [.int (nI (f)), .int (nI (t)), .int (nI (u))]) (rest := []) ⟨hx, hb, hml, hown, hts⟩ (c0_canTrade l hI (f := f) (t := t) (u := u) (by omega) (by omega) (by omega) hT) (cwV 3 hts gX0_trade_X0_canTrade rfl rfl rfl (by decide +kernel) (by decide)) (pv0 hK hP) rfl rfl hl.1 rfl (lv_room (Nat.le_of_ble_eq_true rfl)) dX0_trade_18 (by decide)) (fun r_3 hr_3 => ?_)
  obtain ⟨b_4, rfl, hb_4⟩ := hr_3
  subst hb_4
  refine zx_v (vx_runS (As := [.int (bB (cn M (f) (t) (u)))]) (rest := []) ⟨hx, hb, hml, hown, hts⟩ (x0_needAllowed l hfl (cn M (f) (t) (u))) (va_cwS 1 hts gX0_trade_X0_needAllowed rfl rfl rfl (by decide +kernel) (by decide)) (psX hKX) rfl rfl hl.1 rfl (lv_room (Nat.le_of_ble_eq_true rfl)) dX0_trade_21 (by decide)) (fun hp hz hk q1 q2 q3 => hX (by decide) (by decide) (by obtain ⟨rfl, h⟩ := hp; simp [cd1, cd2, cd3, h, b_t, b_n, b_2, cl_f, cl_t, cl_u]) hz hk q1 q2 q3) (fun b_5 => ?_)
  have h_cn := cn_s b_5
  refine lv_aload_n hx hb dX0_trade_24 rfl (lv_at hl 0 rfl) ?_
  refine lv_iload_n hx hb dX0_trade_25 rfl (lv_at hl 1 rfl) ?_
  refine lv_iload_n hx hb dX0_trade_26 rfl (lv_at hl 2 rfl) ?_
  refine lv_iload_n hx hb dX0_trade_27 rfl (lv_at hl 3 rfl) ?_
  refine vp_callSi (W.runV (As := [.int (nI (f)), .int (nI (t)), .int (nI (u))]) (rest := []) ⟨hx, hb, hml, hown, hts⟩ (c0_unitsGot l hI (f := f) (t := t) (u := u) (by omega) (by omega) (by omega)) (cwV 3 hts gX0_trade_X0_unitsGot rfl rfl rfl (by decide +kernel) (by decide)) (pv0 hK hP) rfl rfl hl.1 rfl (lv_room (Nat.le_of_ble_eq_true rfl)) dX0_trade_28 (by decide)) (fun r_6 hr_6 => ?_)
  subst hr_6
  have f_7 := (gt_le hI (f) (t) (u := u) (by omega)).2
  refine lv_istore (lv' := [(4, .int (nI (gt M (f) (t) (u)))), (0, .ref (ad 0)), (1, .int (nI (f))), (2, .int (nI (t))), (3, .int (nI (u)))]) hx hb dX0_trade_31 hl (by decide) rfl (fun ls hl => ?_)
  refine lv_aload_n hx hb dX0_trade_33 rfl (lv_at hl 1 rfl) ?_
  refine zg0 hx hb hw0 hown hK hP (by decide) rfl 2 (by decide) (hts (.fieldLink RX0 16 "WellField" "licences" "[I") (by decide +kernel)) rfl rfl dX0_trade_34 ?_
  refine lv_iload_n hx hb dX0_trade_37 rfl (lv_at hl 2 rfl) ?_
  refine lv_dup2_11 hx hb dX0_trade_38 rfl rfl ?_
  refine zi_ld hx hb hK hP 3 (by decide) 0 rfl rfl (by decide) (i := f) (by omega) (v := nI (M 3 (f))) rfl dX0_trade_39 ?_
  have f_8 := hI.li (f)
  refine lv_iload_n hx hb dX0_trade_40 rfl (lv_at hl 4 rfl) ?_
  refine zr_isub hx hb (by omega) dX0_trade_41 ?_
  refine zi_st hx hb hK hP hnd hAd hS 3 (by decide) 0 rfl rfl (by decide) (i := f) (by omega) (wcE ad cI cJ cQ (mup (M) 3 (f) ((M 3 (f)) - (u))) (ts) (pu)) wcS_li dX0_trade_42 (fun H locs hP hS => ?_)
  refine lv_aload_n hx hb dX0_trade_43 rfl (lv_at hl 1 rfl) ?_
  refine zg0 hx hb hw0 hown hK hP (by decide) rfl 2 (by decide) (hts (.fieldLink RX0 16 "WellField" "licences" "[I") (by decide +kernel)) rfl rfl dX0_trade_44 ?_
  refine lv_iload_n hx hb dX0_trade_47 rfl (lv_at hl 3 rfl) ?_
  refine lv_dup2_11 hx hb dX0_trade_48 rfl rfl ?_
  refine zi_ld hx hb hK hP 3 (by decide) 0 rfl rfl (by decide) (i := t) (by omega) (v := nI ((mup (M) 3 (f) ((M 3 (f)) - (u))) 3 (t))) rfl dX0_trade_49 ?_
  refine zt_i (y := nI (M 3 t)) (congrArg nI (mup_i (Ne.symm h_ft))) ?_
  refine lv_iload hx hb dX0_trade_50 (lv_at hl 0 rfl) ?_
  refine zr_iadd hx hb dX0_trade_52 ?_
  refine zi_st hx hb hK hP hnd hAd hS 3 (by decide) 0 rfl rfl (by decide) (i := t) (by omega) (wcE ad cI cJ cQ (mup (mup (M) 3 (f) ((M 3 (f)) - (u))) 3 (t) ((M 3 t) + (gt M (f) (t) (u)))) (ts) (pu)) wcS_li dX0_trade_53 (fun H locs hP hS => ?_)
  refine lv_iload hx hb dX0_trade_54 (lv_at hl 0 rfl) ?_
  have hP9 : va_P D vwCl (wz 27 ad (wcE ad cI cJ cQ (nx_trade M (clN (nI f)) (clN (nI t)) (clN (nI u))) (ts) (pu))) H := by rw [cl_f, cl_t, cl_u]; exact hP
  exact hret (u := ()) (by decide) (by decide) (And.intro (by simp [b_t, b_n, b_2, cl_f, cl_t, cl_u, b_5]) (by rw [cl_f, cl_t, cl_u])) hS (fun t ht hA => ⟨va_K.moved hA hK, by rw [ht]; exact hP9⟩) dX0_trade_56
set_option maxHeartbeats 4000000 in
set_option maxRecDepth 100000 in
/-- mostTraded -/
theorem p0_mostTraded (l : Launch) (hfl : l.stackTraces = false) {D : va_G} {ad : Nat → Nat} {cI cJ cQ : ClassId} {M : Mdl} {ts : Nat → Nat} {pu : Nat → Int64} {sa : Nat → Nat} {Z : Nat → Prop} {sz : Nat} (hI : Inv M) (hT : hTs M ts) (p0 p1 : Int32) : vx_Met l yX0_mostTraded wsX0_mostTraded (rmX 2 3) (va_Pc [.ref (ad 0), .int (p0), .int (p1)] (KP0X D ad cI cJ cQ M ts pu sa Z sz)) (vp_Si (fun r_ => ((ixB p0 (M 0 0) && ixB p1 (M 0 0)) && decide (p0 ≠ p1)) = true ∧ r_ = nI (mtr M (clN p0) (clN p1) 5000))) (XCE (fun E => (E = eI ∧ cd2 (ixB p0 (M 0 0) && ixB p1 (M 0 0)) (decide (p0 ≠ p1)) = 1) ∨ (E = eA ∧ cd2 (ixB p0 (M 0 0) && ixB p1 (M 0 0)) (decide (p0 ≠ p1)) = 2))) 3 18 (fun _ => False) := by
  refine mkX_Si (post := fun r_ => ((ixB p0 (M 0 0) && ixB p1 (M 0 0)) && decide (p0 ≠ p1)) = true ∧ r_ = nI (mtr M (clN p0) (clN p1) 5000)) (cc := cX0_mostTraded) (maxL := 4) (by decide) rfl (Nat.le_of_ble_eq_true rfl) ?_
  intro p e s m args below meth c Q C0 B0 hX hret ls hl
  obtain ⟨hx, hb, hr, hml, hown, hts, hlocks⟩ := C0
  have hown : s.vm.findClass RX0 = some m.cls := hown
  obtain ⟨hsz, hKX, hK, hP⟩ := B0
  have hw0 : ∀ w ∈ wsX00, w.before args s = true := fun w h => hts w ((by decide +kernel : ∀ w ∈ wsX00, w ∈ wsX0_mostTraded) w h)
  have b_nw := hI.nw
  have b_nv := hI.nv
  have hl : lv_has ls 4 [(0, .ref (ad 0)), (1, .int (p0)), (2, .int (p1))] := hl
  refine lv_aload_n hx hb dX0_mostTraded_0 rfl (lv_at hl 0 rfl) ?_
  refine lv_iload_n hx hb dX0_mostTraded_1 rfl (lv_at hl 1 rfl) ?_
  refine lv_iload_n hx hb dX0_mostTraded_2 rfl (lv_at hl 2 rfl) ?_
  refine zx_v (vx_runV (As := [.int (p0), .int (p1)]) (rest := []) ⟨hx, hb, hml, hown, hts⟩ (x0_needTwoWells l hfl hI (p0) (p1)) (cwV 2 hts gX0_mostTraded_X0_needTwoWells rfl rfl rfl (by decide +kernel) (by decide)) (pv0X (s0 := s.heap) hK hP hKX (fun _ _ _ => rfl)) rfl rfl hl.1 rfl (lv_room (Nat.le_of_ble_eq_true rfl)) dX0_mostTraded_3 (by decide)) (fun hp hz hk q1 q2 q3 => hX (by decide) (by decide) (by rcases hp with ⟨rfl, h⟩ | ⟨rfl, h, h9⟩ <;> first | (simp [cd1, cd2, cd3, h]; done) | (simp [cd1, cd2, cd3, (Bool.and_eq_true_iff.mp h).2, h9]; done)) hz hk q1 q2 q3) (fun b_1 => ?_)
  have b_t : (ixB p0 (M 0 0) && ixB p1 (M 0 0)) = true := b_1.1
  have b_n : decide (p0 ≠ p1) = true := decide_eq_true b_1.2
  obtain ⟨f, h_f, rfl⟩ := ixB_of (by omega) (Bool.and_eq_true_iff.mp b_1.1).1
  have cl_f : clN (nI f) = f := clN_nI (by omega)
  obtain ⟨t, h_t, rfl⟩ := ixB_of (by omega) (Bool.and_eq_true_iff.mp b_1.1).2
  have cl_t : clN (nI t) = t := clN_nI (by omega)
  refine lv_aload_n hx hb dX0_mostTraded_6 rfl (lv_at hl 0 rfl) ?_
  refine zg0 hx hb hw0 hown hK hP (by decide) rfl 2 (by decide) (hts (.fieldLink RX0 16 "WellField" "licences" "[I") (by decide +kernel)) rfl rfl dX0_mostTraded_7 ?_
  refine lv_iload_n hx hb dX0_mostTraded_10 rfl (lv_at hl 1 rfl) ?_
  refine zi_ld hx hb hK hP 3 (by decide) 0 rfl rfl (by decide) (i := f) (by omega) (v := nI (M 3 (f))) rfl dX0_mostTraded_11 ?_
  have f_2 := hI.li (f)
  refine lv_sipush (v := nI 5000) hx hb dX0_mostTraded_12 (by decide) ?_
  refine va_mmin hx hb (hml.trans hl.1.symm) hown (hts (.methodLink RX0 62 Lib.Math.min.name) (by decide +kernel)) (hts (.static Lib.Math.min.name) (by decide +kernel)) (hts (.initialized "java/lang/Math") (by decide +kernel)) (hts (.code Lib.Math.min.name Lib.Math.min.code 2 (some .int)) (by decide +kernel)) (by decide) (Nat.le_of_ble_eq_true rfl) (by decide) (by decide) dX0_mostTraded_15 ?_
  refine zt_i (nmin_nI (by omega) (by omega)) ?_
  refine lv_istore_n (lv' := [(3, .int (nI (min (M 3 (f)) (5000)))), (0, .ref (ad 0)), (1, .int (nI (f))), (2, .int (nI (t)))]) hx hb dX0_mostTraded_18 rfl hl (by decide) rfl (fun ls hl => ?_)
  have lp19 : ∀ (n u : Nat), u < n → u ≤ 5000 → mtr M f t u = mtr M f t 5000 → ∀ ls : Array Slot, lv_has ls 4 [(0, .ref (ad 0)), (1, .int (nI (f))), (2, .int (nI (t))), (3, .int (nI (u)))] → W p l e (rmX 2 3) s m args below meth c s.heap [] 3 18 Q (F0 m 19 ls []) := by
    intro n
    induction n with
    | zero => intro u q1; omega
    | succ n ih19 =>
      intro u q1_19 q2_19 hm ls hl
      refine lv_iload_n hx hb dX0_mostTraded_19 rfl (lv_at hl 3 rfl) ?_
      refine zb_0le (tgt := 41) hx hb (by omega) dX0_mostTraded_20 (by decide) (fun c_3 => ?_) (fun c_3 => ?_)
      · skip
        have hm3 : 0 = mtr M f t 5000 := by rw [← hm, c_3]; rfl
        refine lv_iconst (v := nI 0) hx hb dX0_mostTraded_41 (by decide) ?_
        exact hret (by decide) (by decide) (And.intro (by simp [b_t, b_n]) (by rw [cl_f, cl_t, ← hm3])) dX0_mostTraded_42
      · skip
        obtain ⟨u2, rfl⟩ : ∃ u2, u = u2 + 1 := ⟨u - 1, by omega⟩
        refine lv_aload_n hx hb dX0_mostTraded_23 rfl (lv_at hl 0 rfl) ?_
        refine lv_iload_n hx hb dX0_mostTraded_24 rfl (lv_at hl 1 rfl) ?_
        refine lv_iload_n hx hb dX0_mostTraded_25 rfl (lv_at hl 2 rfl) ?_
        refine lv_iload_n hx hb dX0_mostTraded_26 rfl (lv_at hl 3 rfl) ?_
        refine vp_callSi (W.runV (As := [.int (nI (f)), .int (nI (t)), .int (nI (u2 + 1))]) (rest := []) ⟨hx, hb, hml, hown, hts⟩ (c0_canTrade l hI (f := f) (t := t) (u := u2 + 1) (by omega) (by omega) (by omega) hT) (cwV 3 hts gX0_mostTraded_X0_canTrade rfl rfl rfl (by decide +kernel) (by decide)) (pv0 hK hP) rfl rfl hl.1 rfl (lv_room (Nat.le_of_ble_eq_true rfl)) dX0_mostTraded_27 (by decide)) (fun r_4 hr_4 => ?_)
        obtain ⟨b_5, rfl, hb_5⟩ := hr_4
        subst hb_5
        refine zb_Beq (tgt := 35) hx hb dX0_mostTraded_30 (by decide) (fun c_6 => ?_) (fun c_6 => ?_)
        · skip
          have hm2 : mtr M f t u2 = mtr M f t 5000 := by rw [← hm]; show _ = (if cn M f t (u2 + 1) = true then _ else _); rw [if_neg (by rw [c_6]; decide)]
          refine lv_iinc (v := nI (u2)) (lv' := [(3, .int (nI (u2))), (0, .ref (ad 0)), (1, .int (nI (f))), (2, .int (nI (t)))]) hx hb dX0_mostTraded_35 hl (k := 3) rfl (zn_dec (u2)) (by decide) rfl (fun ls hl => ?_)
          refine lv_goto (tgt := 19) hx hb dX0_mostTraded_38 (by decide) ?_
          exact ih19 u2 (by omega) (by omega) hm2 _ (lv_sub hl [1, 2, 3, 0] rfl)
        · skip
          have hm3 : u2 + 1 = mtr M f t 5000 := by rw [← hm]; show _ = (if cn M f t (u2 + 1) = true then _ else _); rw [if_pos c_6]
          refine lv_iload_n hx hb dX0_mostTraded_33 rfl (lv_at hl 3 rfl) ?_
          exact hret (by decide) (by decide) (And.intro (by simp [b_t, b_n]) (by rw [cl_f, cl_t, ← hm3])) dX0_mostTraded_34
  exact lp19 (min (M 3 f) 5000 + 1) (min (M 3 f) 5000) (by omega) (by omega) (mtr_min M f t) _ (lv_sub hl [1, 2, 3, 0] rfl)
end
section
/-- a class method that writes and throws nothing -/
def KP0S (D : va_G) (ad : Nat → Nat) (cI cJ cQ : ClassId) (M : Mdl) (ts : Nat → Nat) (pu : Nat → Int64) (sz : Nat) (U : State) : Prop := U.heap.size = sz ∧ KP0 D ad cI cJ cQ M ts pu U
theorem pv0S {D : va_G} {ad : Nat → Nat} {cI cJ cQ : ClassId} {M : Mdl} {ts : Nat → Nat} {pu : Nat → Int64} {s : State} {H : Heap} {As : List Value} (hK : va_K D vwCl [(cI, .int), (cJ, .long), (cQ, .array .int)] s) (hP : va_P D vwCl (wz 27 ad (wcE ad cI cJ cQ M ts pu)) H) : PreV s H RX0 (ad 0) (va_Pc (.ref (ad 0) :: As) (KP0S D ad cI cJ cQ M ts pu H.size)) As :=
  ⟨fun a U g mk q => ⟨q.1, q.2.1, (bl0 (av := (.ref (ad 0) :: As)) a U g mk ⟨q.1, q.2.2⟩).2⟩, rc0 hK hP, fun U hU hW => ⟨rfl, by rw [hU], va_K.moved hW.alike hK, by rw [hU]; exact hP⟩⟩
theorem zer_k {pv : Nat → Int64} {k : Nat} (h : ∀ t, t < k → pv t = lN 0) : ∀ t, t < k + 1 → vp_updL pv k (lN 0) t = lN 0 := by
  intro t ht
  by_cases q : t = k
  · subst q
    exact pk_uLs
  · rw [pk_uLn q]
    exact h t (by omega)
set_option maxHeartbeats 4000000 in
set_option maxRecDepth 100000 in
/-- what a month of pumping lowers, laid on the row -/
theorem c0_layPulse (l : Launch) {D : va_G} {ad : Nat → Nat} {cI cJ cQ : ClassId} {M : Mdl} {ts : Nat → Nat} {pu : Nat → Int64} {sz : Nat} (hI : Inv M) (hnd : ndz 27 ad) {r mo x : Nat} (hr9 : r ≤ 9) (hmo : mo < 36) (hx31 : x < 2 ^ 31) : Met l yX0_layPulse wsX0_layPulse (rmP 1) (va_Pc [.ref (ad 0), .int (nI (r)), .int (nI (mo)), .int (nI (x))] (KP0S D ad cI cJ cQ M ts pu sz)) (va_Qv (fun (u_ : Nat → Int64) => ∀ t, u_ t = pu t + lN (if mo ≤ t ∧ t < mo + d12 (36 - mo) then x * tbn M r (t - mo) else 0)) (fun (u_ : Nat → Int64) t_ => KP0 D ad cI cJ cQ M ts u_ t_) (azs 27 ad sz)) 0 0 (azs 27 ad sz) := by
  refine mk_Qv (S := Nat → Int64) (post := fun u_ => ∀ t, u_ t = pu t + lN (if mo ≤ t ∧ t < mo + d12 (36 - mo) then x * tbn M r (t - mo) else 0)) (BQ := fun u_ t_ => KP0 D ad cI cJ cQ M ts u_ t_) (cc := cX0_layPulse) (maxL := 5) (by decide) rfl (Nat.le_of_ble_eq_true rfl) ?_
  intro p e s m args below meth c Q C0 B0 hret ls hl
  obtain ⟨hx, hb, hr, hml, hown, hts, hlocks⟩ := C0
  have hown : s.vm.findClass RX0 = some m.cls := hown
  obtain ⟨hsz, hK, hP⟩ := B0
  have hw0 : ∀ w ∈ wsX00, w.before args s = true := fun w h => hts w ((by decide +kernel : ∀ w ∈ wsX00, w ∈ wsX0_layPulse) w h)
  have b_nw := hI.nw
  have b_nv := hI.nv
  subst hsz
  have hAd : ∀ i, i < 27 → azs 27 ad s.heap.size (ad i) := fun i h => azs_i h
  have hS : va_S (azs 27 ad s.heap.size) s.heap s.heap [] := va_S.rf
  have hD := d12_s (36 - mo)
  have hl : lv_has ls 5 [(0, .ref (ad 0)), (1, .int (nI (r))), (2, .int (nI (mo))), (3, .int (nI (x)))] := hl
  refine lv_iconst (v := nI 0) hx hb dX0_layPulse_0 (by decide) ?_
  refine lv_istore (lv' := [(4, .int (nI (0))), (0, .ref (ad 0)), (1, .int (nI (r))), (2, .int (nI (mo))), (3, .int (nI (x)))]) hx hb dX0_layPulse_1 hl (by decide) rfl (fun ls hl => ?_)
  have lp3 : ∀ (n d : Nat), d ≤ d12 (36 - mo) → d12 (36 - mo) - d < n → ∀ (pv : Nat → Int64) (H : Heap) (locs : List Loc), (∀ t, pv t = pu t + lN (if mo ≤ t ∧ t < mo + (d) then x * tbn M r (t - mo) else 0)) → va_P D vwCl (wz 27 ad (wcE ad cI cJ cQ M ts pv)) H → va_S (azs 27 ad s.heap.size) s.heap H locs → ∀ ls : Array Slot, lv_has ls 5 [(0, .ref (ad 0)), (1, .int (nI (r))), (2, .int (nI (mo))), (3, .int (nI (x))), (4, .int (nI (d)))] → W p l e (rmP 1) s m args below meth c H locs 0 0 Q (F0 m 3 ls []) := by
    intro n
    induction n with
    | zero => intro d q1 q2; omega
    | succ n ih3 =>
      intro d q1_3 q2_3 pv H locs phi3 hP hS ls hl
      refine lv_iload hx hb dX0_layPulse_3 (lv_at hl 4 rfl) ?_
      refine lv_bipush (v := nI 12) hx hb dX0_layPulse_5 (by decide) ?_
      refine zb_ge (tgt := 48) hx hb (by omega) (by omega) dX0_layPulse_7 (by decide) (fun c_1 => ?_) (fun c_1 => ?_)
      · skip
        have q_2 : d = d12 (36 - mo) := by omega
        subst q_2
        exact hret (u := pv) phi3 hS (fun t ht hA => ⟨va_K.moved hA hK, by rw [ht]; exact hP⟩) dX0_layPulse_48
      · skip
        refine lv_iload_n hx hb dX0_layPulse_10 rfl (lv_at hl 2 rfl) ?_
        refine lv_iload hx hb dX0_layPulse_11 (lv_at hl 4 rfl) ?_
        refine zr_iadd hx hb dX0_layPulse_13 ?_
        refine lv_bipush (v := nI 36) hx hb dX0_layPulse_14 (by decide) ?_
        refine zb_ge (tgt := 48) hx hb (by omega) (by omega) dX0_layPulse_16 (by decide) (fun c_3 => ?_) (fun c_3 => ?_)
        · skip
          have q_4 : d = d12 (36 - mo) := by omega
          subst q_4
          exact hret (u := pv) phi3 hS (fun t ht hA => ⟨va_K.moved hA hK, by rw [ht]; exact hP⟩) dX0_layPulse_48
        · skip
          refine lv_aload_n hx hb dX0_layPulse_19 rfl (lv_at hl 0 rfl) ?_
          refine zg0 hx hb hw0 hown hK hP (by decide) rfl 9 (by decide) (hts (.fieldLink RX0 39 "WellField" "pulses" "[J") (by decide +kernel)) rfl rfl dX0_layPulse_20 ?_
          refine lv_iload_n hx hb dX0_layPulse_23 rfl (lv_at hl 2 rfl) ?_
          refine lv_iload hx hb dX0_layPulse_24 (lv_at hl 4 rfl) ?_
          refine zr_iadd hx hb dX0_layPulse_26 ?_
          refine lv_dup2_11 hx hb dX0_layPulse_27 rfl rfl ?_
          refine zl_ld hx hb hK hP 10 (by decide) 1 rfl rfl (by decide) (i := (mo) + (d)) (by omega) (v := (pv) ((mo) + (d))) rfl dX0_layPulse_28 ?_
          refine lv_iload_n hx hb dX0_layPulse_29 rfl (lv_at hl 3 rfl) ?_
          refine zr_i2l hx hb (by omega) dX0_layPulse_30 ?_
          refine lv_aload_n hx hb dX0_layPulse_31 rfl (lv_at hl 0 rfl) ?_
          refine lv_iload_n hx hb dX0_layPulse_32 rfl (lv_at hl 1 rfl) ?_
          refine lv_iload hx hb dX0_layPulse_33 (lv_at hl 4 rfl) ?_
          refine vp_callSi (W.runV (As := [.int (nI (r)), .int (nI (d))]) (rest := [.long (lN (x)), .long ((pv) ((mo) + (d))), .int (nI ((mo) + (d))), .ref (ad 10)]) ⟨hx, hb, hml, hown, hts⟩ (c0_tableNumber l hI (r := r) (d := d) (by omega) (by omega)) (cwV 2 hts gX0_layPulse_X0_tableNumber rfl rfl rfl (by decide +kernel) (by decide)) (pv0 hK hP) rfl rfl hl.1 rfl (lv_room (Nat.le_of_ble_eq_true rfl)) dX0_layPulse_35 (by decide)) (fun r_5 hr_5 => ?_)
          subst hr_5
          have f_6 := tbn_le hI (r) (d)
          refine zr_i2l hx hb (by omega) dX0_layPulse_38 ?_
          refine zr_lmul hx hb dX0_layPulse_39 ?_
          refine lv_ladd hx hb dX0_layPulse_40 ?_
          refine zl_st hx hb hK hP hnd hAd hS 10 (by decide) 1 rfl rfl (by decide) (i := (mo) + (d)) (by omega) (wcE ad cI cJ cQ (M) (ts) (vp_updL (pv) ((mo) + (d)) ((pv) ((mo) + (d)) + lN ((x) * (tbn M (r) (d)))))) wcS_pu dX0_layPulse_41 (fun H locs hP hS => ?_)
          refine lv_iinc (v := nI (d + 1)) (lv' := [(4, .int (nI (d + 1))), (0, .ref (ad 0)), (1, .int (nI (r))), (2, .int (nI (mo))), (3, .int (nI (x)))]) hx hb dX0_layPulse_42 hl (k := 4) rfl (zn_inc (d)) (by decide) rfl (fun ls hl => ?_)
          refine lv_goto (tgt := 3) hx hb dX0_layPulse_45 (by decide) ?_
          exact ih3 (d + 1) (by omega) (by omega) _ _ _ (lay_k (f := tbn M r) phi3) hP hS _ (lv_sub hl [1, 2, 3, 4, 0] rfl)
  exact lp3 (d12 (36 - mo) - (0) + 1) (0) (by omega) (by omega) _ _ _ (fun t => by rw [if_neg (by omega)]; exact (Int64.add_zero _).symm) hP hS _ (lv_sub hl [1, 2, 3, 4, 0] rfl)
set_option maxHeartbeats 4000000 in
set_option maxRecDepth 100000 in
/-- drawdownByPulses -/
theorem p0_drawdownByPulses (l : Launch) (hfl : l.stackTraces = false) {D : va_G} {ad : Nat → Nat} {cI cJ cQ : ClassId} {M : Mdl} {ts : Nat → Nat} {pu : Nat → Int64} {sa : Nat → Nat} {Z : Nat → Prop} {sz : Nat} (hI : Inv M) (hnd : ndz 27 ad)  (p0 p1 : Int32) : vx_Met l yX0_drawdownByPulses wsX0_drawdownByPulses (rmX 2 2) (va_Pc [.ref (ad 0), .int (p0), .int (p1)] (KP0X D ad cI cJ cQ M ts pu sa Z sz)) (va_Ql (fun r_ (u_ : Nat → Int64) => (ixB p0 (M 5 0) && ixB p1 36) = true ∧ r_ = lN (dd M (clN p0) (clN p1))) (fun (u_ : Nat → Int64) t_ => KP0 D ad cI cJ cQ M ts u_ t_) (azs 27 ad sz)) (XCE (fun E => (E = eI ∧ cd1 (ixB p0 (M 5 0) && ixB p1 36) = 1))) 2 12 (azs 27 ad sz) := by
  refine mkX_Ql (S := Nat → Int64) (post := fun r_ u_ => (ixB p0 (M 5 0) && ixB p1 36) = true ∧ r_ = lN (dd M (clN p0) (clN p1))) (BQ := fun u_ t_ => KP0 D ad cI cJ cQ M ts u_ t_) (cc := cX0_drawdownByPulses) (maxL := 5) (by decide) rfl (Nat.le_of_ble_eq_true rfl) ?_
  intro p e s m args below meth c Q C0 B0 hX hret ls hl
  obtain ⟨hx, hb, hr, hml, hown, hts, hlocks⟩ := C0
  have hown : s.vm.findClass RX0 = some m.cls := hown
  obtain ⟨hsz, hKX, hK, hP⟩ := B0
  have hw0 : ∀ w ∈ wsX00, w.before args s = true := fun w h => hts w ((by decide +kernel : ∀ w ∈ wsX00, w ∈ wsX0_drawdownByPulses) w h)
  have b_nw := hI.nw
  have b_nv := hI.nv
  subst hsz
  have hAd : ∀ i, i < 27 → azs 27 ad s.heap.size (ad i) := fun i h => azs_i h
  have hS : va_S (azs 27 ad s.heap.size) s.heap s.heap [] := va_S.rf
  have hl : lv_has ls 5 [(0, .ref (ad 0)), (1, .int (p0)), (2, .int (p1))] := hl
  refine lv_iload_n hx hb dX0_drawdownByPulses_0 rfl (lv_at hl 1 rfl) ?_
  refine lv_aload_n hx hb dX0_drawdownByPulses_1 rfl (lv_at hl 0 rfl) ?_
  refine zg0 hx hb hw0 hown hK hP (by decide) rfl 11 (by decide) (hts (.fieldLink RX0 55 "WellField" "watchCount" "I") (by decide +kernel)) rfl rfl dX0_drawdownByPulses_2 ?_
  refine zx_v (vx_runS (As := [.int (p0), .int (nI (M 5 0))]) (rest := []) ⟨hx, hb, hml, hown, hts⟩ (x0_needIndex l hfl (p0) (M 5 0)) (va_cwS 2 hts gX0_drawdownByPulses_X0_needIndex rfl rfl rfl (by decide +kernel) (by decide)) (psX hKX) rfl rfl hl.1 rfl (lv_room (Nat.le_of_ble_eq_true rfl)) dX0_drawdownByPulses_5 (by decide)) (fun hp hz hk q1 q2 q3 => hX (by decide) (by decide) (by obtain ⟨rfl, h⟩ := hp; simp [cd1, cd2, cd3, h]) hz hk q1 q2 q3) (fun b_1 => ?_)
  refine lv_iload_n hx hb dX0_drawdownByPulses_8 rfl (lv_at hl 2 rfl) ?_
  refine lv_bipush (v := nI 36) hx hb dX0_drawdownByPulses_9 (by decide) ?_
  refine zx_v (vx_runS (As := [.int (p1), .int (nI (36))]) (rest := []) ⟨hx, hb, hml, hown, hts⟩ (x0_needIndex l hfl (p1) (36)) (va_cwS 2 hts gX0_drawdownByPulses_X0_needIndex rfl rfl rfl (by decide +kernel) (by decide)) (psX hKX) rfl rfl hl.1 rfl (lv_room (Nat.le_of_ble_eq_true rfl)) dX0_drawdownByPulses_11 (by decide)) (fun hp hz hk q1 q2 q3 => hX (by decide) (by decide) (by obtain ⟨rfl, h⟩ := hp; simp [cd1, cd2, cd3, h, b_1]) hz hk q1 q2 q3) (fun b_2 => ?_)
  obtain ⟨v, h_v, rfl⟩ := ixB_of (by omega) b_1
  have cl_v : clN (nI v) = v := clN_nI (by omega)
  obtain ⟨mo, h_mo, rfl⟩ := ixB_of (by omega) b_2
  have cl_mo : clN (nI mo) = mo := clN_nI (by omega)
  refine lv_iconst (v := nI 0) hx hb dX0_drawdownByPulses_14 (by decide) ?_
  refine lv_istore_n (lv' := [(3, .int (nI (0))), (0, .ref (ad 0)), (1, .int (nI (v))), (2, .int (nI (mo)))]) hx hb dX0_drawdownByPulses_15 rfl hl (by decide) rfl (fun ls hl => ?_)
  have lp16 : ∀ (n k : Nat), k ≤ 36 → 36 - k < n → ∀ (pv : Nat → Int64) (H : Heap) (locs : List Loc), (∀ t, t < (k) → pv t = lN 0) → va_P D vwCl (wz 27 ad (wcE ad cI cJ cQ M ts pv)) H → va_S (azs 27 ad s.heap.size) s.heap H locs → ∀ ls : Array Slot, lv_has ls 5 [(0, .ref (ad 0)), (1, .int (nI (v))), (2, .int (nI (mo))), (3, .int (nI (k)))] → W p l e (rmX 2 2) s m args below meth c H locs 2 12 Q (F0 m 16 ls []) := by
    intro n
    induction n with
    | zero => intro k q1 q2; omega
    | succ n ih16 =>
      intro k q1_16 q2_16 pv H locs phi16 hP hS ls hl
      refine lv_iload_n hx hb dX0_drawdownByPulses_16 rfl (lv_at hl 3 rfl) ?_
      refine lv_bipush (v := nI 36) hx hb dX0_drawdownByPulses_17 (by decide) ?_
      refine zb_ge (tgt := 35) hx hb (by omega) (by omega) dX0_drawdownByPulses_19 (by decide) (fun c_3 => ?_) (fun c_3 => ?_)
      · skip
        have q_4 : k = 36 := by omega
        subst q_4
        refine lv_iconst (v := nI 0) hx hb dX0_drawdownByPulses_35 (by decide) ?_
        refine lv_istore_n (lv' := [(3, .int (nI (0))), (0, .ref (ad 0)), (1, .int (nI (v))), (2, .int (nI (mo)))]) hx hb dX0_drawdownByPulses_36 rfl hl (by decide) rfl (fun ls hl => ?_)
        have lp37 : ∀ (n w : Nat), w ≤ M 0 0 → M 0 0 - w < n → ∀ (pv : Nat → Int64) (H : Heap) (locs : List Loc), (∀ t, t < 36 → pv t = lN (pls M v t (w) 0)) → va_P D vwCl (wz 27 ad (wcE ad cI cJ cQ M ts pv)) H → va_S (azs 27 ad s.heap.size) s.heap H locs → ∀ ls : Array Slot, lv_has ls 5 [(0, .ref (ad 0)), (1, .int (nI (v))), (2, .int (nI (mo))), (3, .int (nI (w)))] → W p l e (rmX 2 2) s m args below meth c H locs 2 12 Q (F0 m 37 ls []) := by
          intro n
          induction n with
          | zero => intro w q1 q2; omega
          | succ n ih37 =>
            intro w q1_37 q2_37 pv H locs phi37 hP hS ls hl
            refine lv_iload_n hx hb dX0_drawdownByPulses_37 rfl (lv_at hl 3 rfl) ?_
            refine lv_aload_n hx hb dX0_drawdownByPulses_38 rfl (lv_at hl 0 rfl) ?_
            refine zg0 hx hb hw0 hown hK hP (by decide) rfl 10 (by decide) (hts (.fieldLink RX0 47 "WellField" "wellCount" "I") (by decide +kernel)) rfl rfl dX0_drawdownByPulses_39 ?_
            refine zb_ge (tgt := 88) hx hb (by omega) (by omega) dX0_drawdownByPulses_42 (by decide) (fun c_5 => ?_) (fun c_5 => ?_)
            · skip
              have q_6 : w = M 0 0 := by omega
              subst q_6
              refine lv_aload_n hx hb dX0_drawdownByPulses_88 rfl (lv_at hl 0 rfl) ?_
              refine zg0 hx hb hw0 hown hK hP (by decide) rfl 9 (by decide) (hts (.fieldLink RX0 39 "WellField" "pulses" "[J") (by decide +kernel)) rfl rfl dX0_drawdownByPulses_89 ?_
              refine lv_iload_n hx hb dX0_drawdownByPulses_92 rfl (lv_at hl 2 rfl) ?_
              refine zl_ld hx hb hK hP 10 (by decide) 1 rfl rfl (by decide) (i := mo) (by omega) (v := (pv) (mo)) rfl dX0_drawdownByPulses_93 ?_
              have hv9 : pv mo = lN (dd M v mo) := by rw [phi37 mo (by omega), pls_end M v (by omega)]
              exact hret (u := pv) (by decide) (by decide) (And.intro (by simp [b_1, b_2]) (by rw [hv9, cl_v, cl_mo])) hS (fun t ht hA => ⟨va_K.moved hA hK, by rw [ht]; exact hP⟩) dX0_drawdownByPulses_94
            · skip
              refine lv_iconst (v := nI 0) hx hb dX0_drawdownByPulses_45 (by decide) ?_
              refine lv_istore (lv' := [(4, .int (nI (0))), (0, .ref (ad 0)), (1, .int (nI (v))), (2, .int (nI (mo))), (3, .int (nI (w)))]) hx hb dX0_drawdownByPulses_46 hl (by decide) rfl (fun ls hl => ?_)
              have lp48 : ∀ (n j : Nat), j ≤ 36 → 36 - j < n → ∀ (pv : Nat → Int64) (H : Heap) (locs : List Loc), (∀ t, t < 36 → pv t = lN (pls M v t w (j))) → va_P D vwCl (wz 27 ad (wcE ad cI cJ cQ M ts pv)) H → va_S (azs 27 ad s.heap.size) s.heap H locs → ∀ ls : Array Slot, lv_has ls 5 [(0, .ref (ad 0)), (1, .int (nI (v))), (2, .int (nI (mo))), (3, .int (nI (w))), (4, .int (nI (j)))] → W p l e (rmX 2 2) s m args below meth c H locs 2 12 Q (F0 m 48 ls []) := by
                intro n
                induction n with
                | zero => intro j q1 q2; omega
                | succ n ih48 =>
                  intro j q1_48 q2_48 pv H locs phi48 hP hS ls hl
                  refine lv_iload hx hb dX0_drawdownByPulses_48 (lv_at hl 4 rfl) ?_
                  refine lv_bipush (v := nI 36) hx hb dX0_drawdownByPulses_50 (by decide) ?_
                  refine zb_ge (tgt := 82) hx hb (by omega) (by omega) dX0_drawdownByPulses_52 (by decide) (fun c_7 => ?_) (fun c_7 => ?_)
                  · skip
                    have q_8 : j = 36 := by omega
                    subst q_8
                    refine lv_iinc (v := nI (w + 1)) (lv' := [(3, .int (nI (w + 1))), (0, .ref (ad 0)), (1, .int (nI (v))), (2, .int (nI (mo))), (4, .int (nI (36)))]) hx hb dX0_drawdownByPulses_82 hl (k := 3) rfl (zn_inc (w)) (by decide) rfl (fun ls hl => ?_)
                    refine lv_goto (tgt := 37) hx hb dX0_drawdownByPulses_85 (by decide) ?_
                    exact ih37 (w + 1) (by omega) (by omega) _ _ _ (fun t ht => by rw [phi48 t ht, pls_s]) hP hS _ (lv_sub hl [1, 2, 3, 0] rfl)
                  · skip
                    refine lv_aload_n hx hb dX0_drawdownByPulses_55 rfl (lv_at hl 0 rfl) ?_
                    refine lv_aload_n hx hb dX0_drawdownByPulses_56 rfl (lv_at hl 0 rfl) ?_
                    refine lv_iload_n hx hb dX0_drawdownByPulses_57 rfl (lv_at hl 3 rfl) ?_
                    refine lv_iload_n hx hb dX0_drawdownByPulses_58 rfl (lv_at hl 1 rfl) ?_
                    refine vp_callSi (W.runV (As := [.int (nI (w)), .int (nI (v))]) (rest := [.ref (ad 0)]) ⟨hx, hb, hml, hown, hts⟩ (c0_reachOf l hI (w := w) (v := v) (by omega) (by omega)) (cwV 2 hts gX0_drawdownByPulses_X0_reachOf rfl rfl rfl (by decide +kernel) (by decide)) (pv0 hK hP) rfl rfl hl.1 rfl (lv_room (Nat.le_of_ble_eq_true rfl)) dX0_drawdownByPulses_59 (by decide)) (fun r_9 hr_9 => ?_)
                    subst hr_9
                    have f_10 := rch_le hI (w) (v)
                    refine lv_iload hx hb dX0_drawdownByPulses_62 (lv_at hl 4 rfl) ?_
                    refine lv_aload_n hx hb dX0_drawdownByPulses_64 rfl (lv_at hl 0 rfl) ?_
                    refine zg0 hx hb hw0 hown hK hP (by decide) rfl 3 (by decide) (hts (.fieldLink RX0 21 "WellField" "pumping" "[[I") (by decide +kernel)) rfl rfl dX0_drawdownByPulses_65 ?_
                    refine lv_iload_n hx hb dX0_drawdownByPulses_68 rfl (lv_at hl 3 rfl) ?_
                    refine zq_ld hx hb hK hP 4 (by decide) 2 rfl rfl (by decide) (i := w) (by omega) (a := ad (11 + (w))) rfl dX0_drawdownByPulses_69 ?_
                    refine lv_iload hx hb dX0_drawdownByPulses_70 (lv_at hl 4 rfl) ?_
                    refine zi_ld hx hb hK hP (11 + (w)) (by omega) 0 (wcE_pump (by omega)) rfl (by decide) (i := j) (by omega) (v := nI (M (10 + 3 * (w)) (j))) rfl dX0_drawdownByPulses_72 ?_
                    have f_11 := hI.un (w) (by omega) (j)
                    have hz9 := hS.1
                    refine va_callv (va_runV (As := [.int (nI (rch M (w) (v))), .int (nI (j)), .int (nI (M (10 + 3 * (w)) (j)))]) (rest := []) ⟨hx, hb, hml, hown, hts⟩ (c0_layPulse l (ts := ts) (pu := pv) (sz := H.size) hI hnd (r := rch M (w) (v)) (mo := j) (x := M (10 + 3 * (w)) (j)) (by omega) (by omega) (by omega)) (cwV 3 hts gX0_drawdownByPulses_X0_layPulse rfl rfl rfl (by decide +kernel) (by decide)) (pv0S hK hP) rfl rfl hl.1 rfl (lv_room (Nat.le_of_ble_eq_true rfl)) dX0_drawdownByPulses_73 (by decide)) hS (fun q _ h => azs_mono hz9 h) (fun q h => azs_mono hz9 h) (fun u9 t9 H1 locs1 ht9 hv9 hp9 hB9 hz1 hk1 hS1 => ?_)
                    have hP1 := hB9.2
                    rw [ht9] at hP1
                    clear hP hS hB9 ht9 hv9 hz1 hk1
                    have hP := hP1
                    have hS := hS1
                    refine lv_iinc (v := nI (j + 1)) (lv' := [(4, .int (nI (j + 1))), (0, .ref (ad 0)), (1, .int (nI (v))), (2, .int (nI (mo))), (3, .int (nI (w)))]) hx hb dX0_drawdownByPulses_76 hl (k := 4) rfl (zn_inc (j)) (by decide) rfl (fun ls hl => ?_)
                    refine lv_goto (tgt := 48) hx hb dX0_drawdownByPulses_79 (by decide) ?_
                    exact ih48 (j + 1) (by omega) (by omega) _ _ _ (fun t ht => by rw [hp9 t, phi48 t ht, lN_add]; exact congrArg lN (pls_k M v t w j)) hP hS _ (lv_sub hl [1, 2, 3, 4, 0] rfl)
              exact lp48 (36 - (0) + 1) (0) (by omega) (by omega) _ _ _ phi37 hP hS _ (lv_sub hl [1, 2, 3, 4, 0] rfl)
        exact lp37 (M 0 0 - (0) + 1) (0) (by omega) (by omega) _ _ _ (fun t ht => phi16 t ht) hP hS _ (lv_sub hl [1, 2, 3, 0] rfl)
      · skip
        refine lv_aload_n hx hb dX0_drawdownByPulses_22 rfl (lv_at hl 0 rfl) ?_
        refine zg0 hx hb hw0 hown hK hP (by decide) rfl 9 (by decide) (hts (.fieldLink RX0 39 "WellField" "pulses" "[J") (by decide +kernel)) rfl rfl dX0_drawdownByPulses_23 ?_
        refine lv_iload_n hx hb dX0_drawdownByPulses_26 rfl (lv_at hl 3 rfl) ?_
        refine lv_lconst (v := lN 0) hx hb dX0_drawdownByPulses_27 (by decide) ?_
        refine zl_st hx hb hK hP hnd hAd hS 10 (by decide) 1 rfl rfl (by decide) (i := k) (by omega) (wcE ad cI cJ cQ (M) (ts) (vp_updL (pv) (k) (lN (0)))) wcS_pu dX0_drawdownByPulses_28 (fun H locs hP hS => ?_)
        refine lv_iinc (v := nI (k + 1)) (lv' := [(3, .int (nI (k + 1))), (0, .ref (ad 0)), (1, .int (nI (v))), (2, .int (nI (mo)))]) hx hb dX0_drawdownByPulses_29 hl (k := 3) rfl (zn_inc (k)) (by decide) rfl (fun ls hl => ?_)
        refine lv_goto (tgt := 16) hx hb dX0_drawdownByPulses_32 (by decide) ?_
        exact ih16 (k + 1) (by omega) (by omega) _ _ _ (zer_k phi16) hP hS _ (lv_sub hl [1, 2, 3, 0] rfl)
  exact lp16 (36 - (0) + 1) (0) (by omega) (by omega) _ _ _ (fun t ht => by omega) hP hS _ (lv_sub hl [1, 2, 3, 0] rfl)
end
section
section ZM
variable {p : Program} {l : Launch} {e : Env} {R : Room} {s : State} {m : MethodId} {args : Array Value} {below : List Frame} {meth : Method} {c : Code} {H : Heap} {locs : List Loc} {cells slots : Nat} {Q : State → Prop}
variable {cc : ByteArray} {pc : Nat} {ls : Array Slot} {rest : List Value}
theorem zbL_gt (hx : p.tables.exec = Jvm.exec) (hb : c.code = cc) {a b : Nat} (ha : a < 2 ^ 62) (hb2 : b < 2 ^ 62) {off : Int} {tgt : Nat} (hd0 : decode cc pc = .ok (.lcmp, 1)) (hdg : decode cc (pc + 1) = .ok (.ifCond .gt off, 3)) (ht : (pc : Int) + 1 + off = (tgt : Int))
    (kt : b < a → W p l e R s m args below meth c H locs cells slots Q (F0 m tgt ls rest)) (kf : a ≤ b → W p l e R s m args below meth c H locs cells slots Q (F0 m (pc + 4) ls rest)) : W p l e R s m args below meth c H locs cells slots Q (F0 m pc ls (.long (lN b) :: .long (lN a) :: rest)) := by
  refine W.lcmp hx hb hd0 ?_
  refine lv_if_gt hx hb hdg (by omega) (fun h => kt ((pk_lLT (by omega) (by omega)).mp ((lg_cmp_gt _ _).mp h))) (fun h => kf ?_)
  rcases Nat.lt_or_ge b a with q | q
  · exact absurd ((lg_cmp_gt _ _).mpr ((pk_lLT (by omega) (by omega)).mpr q)) h
  · exact q
end ZM
theorem bB_1 : nI 1 = bB true := rfl
theorem bB_0 : nI 0 = bB false := rfl
theorem abs_p {a b : Nat} (ha : a < 2 ^ 30) (hb : b < 2 ^ 30) (h : 0 ≤ nI a - nI b) : nI a - nI b = nI ((a - b) + (b - a)) := by
  have h1 := abs_nI ha hb
  rw [if_pos h] at h1
  exact h1
theorem abs_n {a b : Nat} (ha : a < 2 ^ 30) (hb : b < 2 ^ 30) (h : ¬ 0 ≤ nI a - nI b) : -(nI a - nI b) = nI ((a - b) + (b - a)) := by
  have h1 := abs_nI ha hb
  rw [if_neg h, Int32.zero_sub] at h1
  exact h1
theorem nsub_p {a b : Nat} (ha : a < 2 ^ 30) (hb : b < 2 ^ 30) (h : ¬ nI a - nI b ≤ 0) : nI a - nI b = nI (a - b) := by
  refine pk_sub ?_
  rcases Nat.lt_or_ge a b with q | q
  · refine absurd ?_ h
    rw [Int32.le_iff_toInt_le, pk_sub_toInt ha hb]
    have : (0 : Int32).toInt = 0 := by decide
    omega
  · exact q
theorem nsub_n {a b : Nat} (ha : a < 2 ^ 30) (hb : b < 2 ^ 30) (h : nI a - nI b ≤ 0) : nI 0 = nI (a - b) := by
  rw [Int32.le_iff_toInt_le, pk_sub_toInt ha hb] at h
  have : (0 : Int32).toInt = 0 := by decide
  rw [show a - b = 0 by omega]
theorem cd3_and (a b c : Bool) : cd3 a b (a && b && c) = cd3 a b c := by cases a <;> cases b <;> rfl
end
section
set_option maxHeartbeats 4000000 in
set_option maxRecDepth 100000 in
/-- isIn -/
theorem c1_isIn (l : Launch)   (v lo hi : Int32) : Met l yX1_isIn wsX1_isIn (rmP 0) (va_Pc [.int (v), .int (lo), .int (hi)] (fun _ => True)) (vp_Si (fun r => ∃ b : Bool, r = bB b ∧ b = rgB v lo hi)) 0 0 (fun _ => False) := by
  refine mk_Sz (post := fun b => b = rgB v lo hi) (cc := cX1_isIn) (maxL := 3) (by decide) rfl (Nat.le_of_ble_eq_true rfl) ?_
  intro p e s m args below meth c Q C0 B0 hret ls hl
  obtain ⟨hx, hb, hr, hml, hown, hts, hlocks⟩ := C0
  have hown : s.vm.findClass RX1 = some m.cls := hown
  have hl : lv_has ls 3 [(0, .int (v)), (1, .int (lo)), (2, .int (hi))] := hl
  refine lv_iload_n hx hb dX1_isIn_0 rfl (lv_at hl 0 rfl) ?_
  refine lv_iload_n hx hb dX1_isIn_1 rfl (lv_at hl 1 rfl) ?_
  refine lv_icmp_lt (tgt := 14) hx hb dX1_isIn_2 (by decide) (fun c_1 => ?_) (fun c_1 => ?_)
  · skip
    refine lv_iconst (v := nI 0) hx hb dX1_isIn_14 (by decide) ?_
    exact hret (b := false) (decide_eq_false (fun z => absurd z.1 (Int32.not_le.mpr c_1))).symm rfl dX1_isIn_15
  · skip
    refine lv_iload_n hx hb dX1_isIn_5 rfl (lv_at hl 0 rfl) ?_
    refine lv_iload_n hx hb dX1_isIn_6 rfl (lv_at hl 2 rfl) ?_
    refine lv_icmp_gt (tgt := 14) hx hb dX1_isIn_7 (by decide) (fun c_2 => ?_) (fun c_2 => ?_)
    · skip
      refine lv_iconst (v := nI 0) hx hb dX1_isIn_14 (by decide) ?_
      exact hret (b := false) (decide_eq_false (fun z => absurd z.2 (Int32.not_le.mpr c_2))).symm rfl dX1_isIn_15
    · skip
      refine lv_iconst (v := nI 1) hx hb dX1_isIn_10 (by decide) ?_
      refine lv_goto (tgt := 15) hx hb dX1_isIn_11 (by decide) ?_
      exact hret (b := true) (decide_eq_true ⟨Int32.not_lt.mp c_1, Int32.not_lt.mp c_2⟩).symm rfl dX1_isIn_15
set_option maxHeartbeats 4000000 in
set_option maxRecDepth 100000 in
/-- isMonth -/
theorem c1_isMonth (l : Launch)   (v : Int32) : Met l yX1_isMonth wsX1_isMonth (rmP 1) (va_Pc [.int (v)] (fun _ => True)) (vp_Si (fun r => ∃ b : Bool, r = bB b ∧ b = ixB v 36)) 0 0 (fun _ => False) := by
  refine mk_Sz (post := fun b => b = ixB v 36) (cc := cX1_isMonth) (maxL := 1) (by decide) rfl (Nat.le_of_ble_eq_true rfl) ?_
  intro p e s m args below meth c Q C0 B0 hret ls hl
  obtain ⟨hx, hb, hr, hml, hown, hts, hlocks⟩ := C0
  have hown : s.vm.findClass RX1 = some m.cls := hown
  have hl : lv_has ls 1 [(0, .int (v))] := hl
  refine lv_iload_n hx hb dX1_isMonth_0 rfl (lv_at hl 0 rfl) ?_
  refine lv_iconst (v := nI 0) hx hb dX1_isMonth_1 (by decide) ?_
  refine lv_bipush (v := nI 35) hx hb dX1_isMonth_2 (by decide) ?_
  refine vp_callSi (W.runS (As := [.int (v), .int (nI (0)), .int (nI (35))]) (rest := []) ⟨hx, hb, hml, hown, hts⟩ (c1_isIn l (v) (nI (0)) (nI (35))) (va_cwS 3 hts gX1_isMonth_X1_isIn rfl rfl rfl (by decide +kernel) (by decide)) psN rfl rfl hl.1 rfl (lv_room (Nat.le_of_ble_eq_true rfl)) dX1_isMonth_4 (by decide)) (fun r_1 hr_1 => ?_)
  obtain ⟨b_2, rfl, hb_2⟩ := hr_1
  subst hb_2
  exact hret (b := rgB (v) (nI (0)) (nI (35))) (rg_ix (by decide)) rfl dX1_isMonth_7
set_option maxHeartbeats 4000000 in
set_option maxRecDepth 100000 in
/-- isYear -/
theorem c1_isYear (l : Launch)   (v : Int32) : Met l yX1_isYear wsX1_isYear (rmP 1) (va_Pc [.int (v)] (fun _ => True)) (vp_Si (fun r => ∃ b : Bool, r = bB b ∧ b = ixB v 3)) 0 0 (fun _ => False) := by
  refine mk_Sz (post := fun b => b = ixB v 3) (cc := cX1_isYear) (maxL := 1) (by decide) rfl (Nat.le_of_ble_eq_true rfl) ?_
  intro p e s m args below meth c Q C0 B0 hret ls hl
  obtain ⟨hx, hb, hr, hml, hown, hts, hlocks⟩ := C0
  have hown : s.vm.findClass RX1 = some m.cls := hown
  have hl : lv_has ls 1 [(0, .int (v))] := hl
  refine lv_iload_n hx hb dX1_isYear_0 rfl (lv_at hl 0 rfl) ?_
  refine lv_iconst (v := nI 0) hx hb dX1_isYear_1 (by decide) ?_
  refine lv_iconst (v := nI 2) hx hb dX1_isYear_2 (by decide) ?_
  refine vp_callSi (W.runS (As := [.int (v), .int (nI (0)), .int (nI (2))]) (rest := []) ⟨hx, hb, hml, hown, hts⟩ (c1_isIn l (v) (nI (0)) (nI (2))) (va_cwS 3 hts gX1_isYear_X1_isIn rfl rfl rfl (by decide +kernel) (by decide)) psN rfl rfl hl.1 rfl (lv_room (Nat.le_of_ble_eq_true rfl)) dX1_isYear_3 (by decide)) (fun r_1 hr_1 => ?_)
  obtain ⟨b_2, rfl, hb_2⟩ := hr_1
  subst hb_2
  exact hret (b := rgB (v) (nI (0)) (nI (2))) (rg_ix (by decide)) rfl dX1_isYear_6
set_option maxHeartbeats 4000000 in
set_option maxRecDepth 100000 in
/-- isWell -/
theorem c1_isWell (l : Launch) {D : va_G} {ad : Nat → Nat} {cI : ClassId} {M : Mdl} {th : Int32} (hI : Inv M)  (v : Int32) : Met l yX1_isWell wsX1_isWell (rmP 1) (va_Pc [.ref (ad 0), .int (v)] (KP1 D ad cI M th)) (vp_Si (fun r => ∃ b : Bool, r = bB b ∧ b = ixB v (M 0 0))) 0 0 (fun _ => False) := by
  refine mk_Sz (post := fun b => b = ixB v (M 0 0)) (cc := cX1_isWell) (maxL := 2) (by decide) rfl (Nat.le_of_ble_eq_true rfl) ?_
  intro p e s m args below meth c Q C0 B0 hret ls hl
  obtain ⟨hx, hb, hr, hml, hown, hts, hlocks⟩ := C0
  have hown : s.vm.findClass RX1 = some m.cls := hown
  obtain ⟨hK, hP⟩ := B0
  have hw0 : ∀ w ∈ wsX10, w.before args s = true := fun w h => hts w ((by decide +kernel : ∀ w ∈ wsX10, w ∈ wsX1_isWell) w h)
  have b_nw := hI.nw
  have b_nv := hI.nv
  have hl : lv_has ls 2 [(0, .ref (ad 0)), (1, .int (v))] := hl
  refine lv_iload_n hx hb dX1_isWell_0 rfl (lv_at hl 1 rfl) ?_
  refine lv_iconst (v := nI 0) hx hb dX1_isWell_1 (by decide) ?_
  refine lv_aload_n hx hb dX1_isWell_2 rfl (lv_at hl 0 rfl) ?_
  refine zg1 hx hb hw0 hown hK hP (by decide) rfl 0 (by decide) (hts (.fieldLink RX1 38 "WellFieldModel" "wells" "I") (by decide +kernel)) rfl rfl dX1_isWell_3 ?_
  refine lv_iconst (v := nI 1) hx hb dX1_isWell_6 (by decide) ?_
  refine lv_isub hx hb dX1_isWell_7 ?_
  refine vp_callSi (W.runS (As := [.int (v), .int (nI (0)), .int (nI (M 0 0) - nI (1))]) (rest := []) ⟨hx, hb, hml, hown, hts⟩ (c1_isIn l (v) (nI (0)) (nI (M 0 0) - nI (1))) (va_cwS 3 hts gX1_isWell_X1_isIn rfl rfl rfl (by decide +kernel) (by decide)) psN rfl rfl hl.1 rfl (lv_room (Nat.le_of_ble_eq_true rfl)) dX1_isWell_8 (by decide)) (fun r_1 hr_1 => ?_)
  obtain ⟨b_2, rfl, hb_2⟩ := hr_1
  subst hb_2
  exact hret (b := rgB (v) (nI (0)) (nI (M 0 0) - nI (1))) (rg_ixm (by omega)) rfl dX1_isWell_11
set_option maxHeartbeats 4000000 in
set_option maxRecDepth 100000 in
/-- isWatch -/
theorem c1_isWatch (l : Launch) {D : va_G} {ad : Nat → Nat} {cI : ClassId} {M : Mdl} {th : Int32} (hI : Inv M)  (v : Int32) : Met l yX1_isWatch wsX1_isWatch (rmP 1) (va_Pc [.ref (ad 0), .int (v)] (KP1 D ad cI M th)) (vp_Si (fun r => ∃ b : Bool, r = bB b ∧ b = ixB v (M 5 0))) 0 0 (fun _ => False) := by
  refine mk_Sz (post := fun b => b = ixB v (M 5 0)) (cc := cX1_isWatch) (maxL := 2) (by decide) rfl (Nat.le_of_ble_eq_true rfl) ?_
  intro p e s m args below meth c Q C0 B0 hret ls hl
  obtain ⟨hx, hb, hr, hml, hown, hts, hlocks⟩ := C0
  have hown : s.vm.findClass RX1 = some m.cls := hown
  obtain ⟨hK, hP⟩ := B0
  have hw0 : ∀ w ∈ wsX10, w.before args s = true := fun w h => hts w ((by decide +kernel : ∀ w ∈ wsX10, w ∈ wsX1_isWatch) w h)
  have b_nw := hI.nw
  have b_nv := hI.nv
  have hl : lv_has ls 2 [(0, .ref (ad 0)), (1, .int (v))] := hl
  refine lv_iload_n hx hb dX1_isWatch_0 rfl (lv_at hl 1 rfl) ?_
  refine lv_iconst (v := nI 0) hx hb dX1_isWatch_1 (by decide) ?_
  refine lv_aload_n hx hb dX1_isWatch_2 rfl (lv_at hl 0 rfl) ?_
  refine zg1 hx hb hw0 hown hK hP (by decide) rfl 5 (by decide) (hts (.fieldLink RX1 45 "WellFieldModel" "watches" "I") (by decide +kernel)) rfl rfl dX1_isWatch_3 ?_
  refine lv_iconst (v := nI 1) hx hb dX1_isWatch_6 (by decide) ?_
  refine lv_isub hx hb dX1_isWatch_7 ?_
  refine vp_callSi (W.runS (As := [.int (v), .int (nI (0)), .int (nI (M 5 0) - nI (1))]) (rest := []) ⟨hx, hb, hml, hown, hts⟩ (c1_isIn l (v) (nI (0)) (nI (M 5 0) - nI (1))) (va_cwS 3 hts gX1_isWatch_X1_isIn rfl rfl rfl (by decide +kernel) (by decide)) psN rfl rfl hl.1 rfl (lv_room (Nat.le_of_ble_eq_true rfl)) dX1_isWatch_8 (by decide)) (fun r_1 hr_1 => ?_)
  obtain ⟨b_2, rfl, hb_2⟩ := hr_1
  subst hb_2
  exact hret (b := rgB (v) (nI (0)) (nI (M 5 0) - nI (1))) (rg_ixm (by omega)) rfl dX1_isWatch_11
set_option maxHeartbeats 4000000 in
set_option maxRecDepth 100000 in
/-- thrown -/
theorem c1_thrown (l : Launch) {D : va_G} {ad : Nat → Nat} {cI : ClassId} {M : Mdl} {th : Int32} (hI : Inv M)   : Met l yX1_thrown wsX1_thrown (rmP 0) (va_Pc [.ref (ad 0)] (KP1 D ad cI M th)) (vp_Si (fun r_ => r_ = th)) 0 0 (fun _ => False) := by
  refine mk_Si (post := fun r_ => r_ = th) (cc := cX1_thrown) (maxL := 1) (by decide) rfl (Nat.le_of_ble_eq_true rfl) ?_
  intro p e s m args below meth c Q C0 B0 hret ls hl
  obtain ⟨hx, hb, hr, hml, hown, hts, hlocks⟩ := C0
  have hown : s.vm.findClass RX1 = some m.cls := hown
  obtain ⟨hK, hP⟩ := B0
  have hw0 : ∀ w ∈ wsX10, w.before args s = true := fun w h => hts w ((by decide +kernel : ∀ w ∈ wsX10, w ∈ wsX1_thrown) w h)
  have b_nw := hI.nw
  have b_nv := hI.nv
  have hl : lv_has ls 1 [(0, .ref (ad 0))] := hl
  refine lv_aload_n hx hb dX1_thrown_0 rfl (lv_at hl 0 rfl) ?_
  refine zg1 hx hb hw0 hown hK hP (by decide) rfl 10 (by decide) (hts (.fieldLink RX1 34 "WellFieldModel" "thrown" "I") (by decide +kernel)) rfl rfl dX1_thrown_1 ?_
  exact hret rfl dX1_thrown_4
set_option maxHeartbeats 4000000 in
set_option maxRecDepth 100000 in
/-- pumpedIn -/
theorem c1_pumpedIn (l : Launch) {D : va_G} {ad : Nat → Nat} {cI : ClassId} {M : Mdl} {th : Int32} (hI : Inv M) {w y : Nat} (hw : w < M 0 0) (hy : y < 3) : Met l yX1_pumpedIn wsX1_pumpedIn (rmP 0) (va_Pc [.ref (ad 0), .int (nI (w)), .int (nI (y))] (KP1 D ad cI M th)) (vp_Si (fun r_ => r_ = nI (yr M w y))) 0 0 (fun _ => False) := by
  refine mk_Si (post := fun r_ => r_ = nI (yr M w y)) (cc := cX1_pumpedIn) (maxL := 5) (by decide) rfl (Nat.le_of_ble_eq_true rfl) ?_
  intro p e s m args below meth c Q C0 B0 hret ls hl
  obtain ⟨hx, hb, hr, hml, hown, hts, hlocks⟩ := C0
  have hown : s.vm.findClass RX1 = some m.cls := hown
  obtain ⟨hK, hP⟩ := B0
  have hw0 : ∀ w ∈ wsX10, w.before args s = true := fun w h => hts w ((by decide +kernel : ∀ w ∈ wsX10, w ∈ wsX1_pumpedIn) w h)
  have b_nw := hI.nw
  have b_nv := hI.nv
  have hl : lv_has ls 5 [(0, .ref (ad 0)), (1, .int (nI (w))), (2, .int (nI (y)))] := hl
  refine lv_iconst (v := nI 0) hx hb dX1_pumpedIn_0 (by decide) ?_
  refine lv_istore_n (lv' := [(3, .int (nI (0))), (0, .ref (ad 0)), (1, .int (nI (w))), (2, .int (nI (y)))]) hx hb dX1_pumpedIn_1 rfl hl (by decide) rfl (fun ls hl => ?_)
  refine lv_bipush (v := nI 12) hx hb dX1_pumpedIn_2 (by decide) ?_
  refine lv_iload_n hx hb dX1_pumpedIn_4 rfl (lv_at hl 3 rfl) ?_
  refine zr_imul hx hb dX1_pumpedIn_5 ?_
  refine zt_i (congrArg nI (Nat.mul_comm 12 y)) ?_
  refine lv_istore (lv' := [(4, .int (nI ((y) * (12)))), (3, .int (nI (0))), (0, .ref (ad 0)), (1, .int (nI (w))), (2, .int (nI (y)))]) hx hb dX1_pumpedIn_6 hl (by decide) rfl (fun ls hl => ?_)
  have lp8 : ∀ (n k : Nat), k ≤ 12 → 12 - k < n → ∀ ls : Array Slot, lv_has ls 5 [(0, .ref (ad 0)), (1, .int (nI (w))), (2, .int (nI (y))), (3, .int (nI (ssum (fun k => M (10 + 3 * w) (y * 12 + k)) (k)))), (4, .int (nI ((y) * (12) + (k))))] → W p l e (rmP 0) s m args below meth c s.heap [] 0 0 Q (F0 m 8 ls []) := by
    intro n
    induction n with
    | zero => intro k q1 q2; omega
    | succ n ih8 =>
      intro k q1_8 q2_8 ls hl
      refine lv_iload hx hb dX1_pumpedIn_8 (lv_at hl 4 rfl) ?_
      refine lv_bipush (v := nI 12) hx hb dX1_pumpedIn_10 (by decide) ?_
      refine lv_iload_n hx hb dX1_pumpedIn_12 rfl (lv_at hl 2 rfl) ?_
      refine zr_imul hx hb dX1_pumpedIn_13 ?_
      refine zt_i (congrArg nI (Nat.mul_comm 12 y)) ?_
      refine lv_bipush (v := nI 12) hx hb dX1_pumpedIn_14 (by decide) ?_
      refine zr_iadd hx hb dX1_pumpedIn_16 ?_
      refine zb_ge (tgt := 41) hx hb (by omega) (by omega) dX1_pumpedIn_17 (by decide) (fun c_1 => ?_) (fun c_1 => ?_)
      · skip
        have q_2 : k = 12 := by omega
        subst q_2
        refine lv_iload_n hx hb dX1_pumpedIn_41 rfl (lv_at hl 3 rfl) ?_
        exact hret rfl dX1_pumpedIn_42
      · skip
        refine lv_iload_n hx hb dX1_pumpedIn_20 rfl (lv_at hl 3 rfl) ?_
        refine lv_aload_n hx hb dX1_pumpedIn_21 rfl (lv_at hl 0 rfl) ?_
        refine zg1 hx hb hw0 hown hK hP (by decide) rfl 4 (by decide) (hts (.fieldLink RX1 19 "WellFieldModel" "units" "[I") (by decide +kernel)) rfl rfl dX1_pumpedIn_22 ?_
        refine lv_bipush (v := nI 36) hx hb dX1_pumpedIn_25 (by decide) ?_
        refine lv_iload_n hx hb dX1_pumpedIn_27 rfl (lv_at hl 1 rfl) ?_
        refine zr_imul hx hb dX1_pumpedIn_28 ?_
        refine lv_iload hx hb dX1_pumpedIn_29 (lv_at hl 4 rfl) ?_
        refine zr_iadd hx hb dX1_pumpedIn_31 ?_
        refine zi_ld hx hb hK hP 4 (by decide) 0 rfl rfl (by decide) (i := ((36) * (w)) + ((y) * (12) + (k))) (by omega) (v := nI (M (10 + 3 * (w)) ((y) * (12) + (k)))) (fl_un (by omega)) dX1_pumpedIn_32 ?_
        have f_3 := hI.un (w) (by omega) ((y) * (12) + (k))
        refine zr_iadd hx hb dX1_pumpedIn_33 ?_
        refine lv_istore_n (lv' := [(3, .int (nI ((ssum (fun k => M (10 + 3 * w) (y * 12 + k)) (k)) + (M (10 + 3 * (w)) ((y) * (12) + (k)))))), (0, .ref (ad 0)), (1, .int (nI (w))), (2, .int (nI (y))), (4, .int (nI ((y) * (12) + (k))))]) hx hb dX1_pumpedIn_34 rfl hl (by decide) rfl (fun ls hl => ?_)
        refine lv_iinc (v := nI ((y) * (12) + (k) + 1)) (lv' := [(4, .int (nI ((y) * (12) + (k) + 1))), (3, .int (nI ((ssum (fun k => M (10 + 3 * w) (y * 12 + k)) (k)) + (M (10 + 3 * (w)) ((y) * (12) + (k)))))), (0, .ref (ad 0)), (1, .int (nI (w))), (2, .int (nI (y)))]) hx hb dX1_pumpedIn_35 hl (k := 4) rfl (zn_inc ((y) * (12) + (k))) (by decide) rfl (fun ls hl => ?_)
        refine lv_goto (tgt := 8) hx hb dX1_pumpedIn_38 (by decide) ?_
        exact ih8 (k + 1) (by omega) (by omega) _ (lv_sub hl [2, 3, 4, 1, 0] rfl)
  exact lp8 (12 - (0) + 1) (0) (by omega) (by omega) _ (lv_sub hl [2, 3, 4, 1, 0] rfl)
set_option maxHeartbeats 4000000 in
set_option maxRecDepth 100000 in
/-- answer -/
theorem c1_answer (l : Launch) {D : va_G} {ad : Nat → Nat} {cI : ClassId} {M : Mdl} {th : Int32} (hI : Inv M) {w v d : Nat} (hw : w < M 0 0) (hv : v < M 5 0) (hd : d < 2 ^ 30) : Met l yX1_answer wsX1_answer (rmP 0) (va_Pc [.ref (ad 0), .int (nI (w)), .int (nI (v)), .int (nI (d))] (KP1 D ad cI M th)) (vp_Si (fun r_ => r_ = nI (ans M w v d))) 0 0 (fun _ => False) := by
  refine mk_Si (post := fun r_ => r_ = nI (ans M w v d)) (cc := cX1_answer) (maxL := 6) (by decide) rfl (Nat.le_of_ble_eq_true rfl) ?_
  intro p e s m args below meth c Q C0 B0 hret ls hl
  obtain ⟨hx, hb, hr, hml, hown, hts, hlocks⟩ := C0
  have hown : s.vm.findClass RX1 = some m.cls := hown
  obtain ⟨hK, hP⟩ := B0
  have hw0 : ∀ w ∈ wsX10, w.before args s = true := fun w h => hts w ((by decide +kernel : ∀ w ∈ wsX10, w ∈ wsX1_answer) w h)
  have b_nw := hI.nw
  have b_nv := hI.nv
  have b_rch := rch_le hI w v
  have hl : lv_has ls 6 [(0, .ref (ad 0)), (1, .int (nI (w))), (2, .int (nI (v))), (3, .int (nI (d)))] := hl
  refine lv_aload_n hx hb dX1_answer_0 rfl (lv_at hl 0 rfl) ?_
  refine zg1 hx hb hw0 hown hK hP (by decide) rfl 1 (by decide) (hts (.fieldLink RX1 7 "WellFieldModel" "place" "[I") (by decide +kernel)) rfl rfl dX1_answer_1 ?_
  refine lv_iload_n hx hb dX1_answer_4 rfl (lv_at hl 1 rfl) ?_
  refine zi_ld hx hb hK hP 1 (by decide) 0 rfl rfl (by decide) (i := w) (by omega) (v := nI (M 1 (w))) rfl dX1_answer_5 ?_
  have f_1 := hI.pl (w)
  refine lv_aload_n hx hb dX1_answer_6 rfl (lv_at hl 0 rfl) ?_
  refine zg1 hx hb hw0 hown hK hP (by decide) rfl 6 (by decide) (hts (.fieldLink RX1 22 "WellFieldModel" "spot" "[I") (by decide +kernel)) rfl rfl dX1_answer_7 ?_
  refine lv_iload_n hx hb dX1_answer_10 rfl (lv_at hl 2 rfl) ?_
  refine zi_ld hx hb hK hP 5 (by decide) 0 rfl rfl (by decide) (i := v) (by omega) (v := nI (M 6 (v))) rfl dX1_answer_11 ?_
  have f_2 := hI.sp (v)
  refine lv_isub hx hb dX1_answer_12 ?_
  refine lv_istore (lv' := [(4, .int (nI (M 1 (w)) - nI (M 6 (v)))), (0, .ref (ad 0)), (1, .int (nI (w))), (2, .int (nI (v))), (3, .int (nI (d)))]) hx hb dX1_answer_13 hl (by decide) rfl (fun ls hl => ?_)
  refine lv_iload hx hb dX1_answer_15 (lv_at hl 0 rfl) ?_
  refine lv_if_ge (tgt := 26) hx hb dX1_answer_17 (by decide) (fun c_3 => ?_) (fun c_3 => ?_)
  · skip
    refine lv_iload hx hb dX1_answer_26 (lv_at hl 0 rfl) ?_
    refine zt_i (abs_p (by omega) (by omega) c_3) ?_
    refine lv_bipush (v := nI 10) hx hb dX1_answer_28 (by decide) ?_
    refine zr_idiv hx hb (by omega) (by omega) (by omega) dX1_answer_30 ?_
    refine lv_istore (lv' := [(5, .int (nI ((((M 1 (w)) - (M 6 (v))) + ((M 6 (v)) - (M 1 (w)))) / (10)))), (4, .int (nI (M 1 (w)) - nI (M 6 (v)))), (0, .ref (ad 0)), (1, .int (nI (w))), (2, .int (nI (v))), (3, .int (nI (d)))]) hx hb dX1_answer_31 hl (by decide) rfl (fun ls hl => ?_)
    have hl := lv_cast (l2 := [(5, .int (nI (rch M w v))), (4, .int (nI (M 1 (w)) - nI (M 6 (v)))), (0, .ref (ad 0)), (1, .int (nI (w))), (2, .int (nI (v))), (3, .int (nI (d)))]) hl (by rw [show (rch M w v) = ((((M 1 (w)) - (M 6 (v))) + ((M 6 (v)) - (M 1 (w)))) / (10)) from rfl])
    refine lv_iload hx hb dX1_answer_33 (lv_at hl 0 rfl) ?_
    refine lv_iconst (v := nI 5) hx hb dX1_answer_35 (by decide) ?_
    refine zb_ge (tgt := 64) hx hb (by omega) (by omega) dX1_answer_36 (by decide) (fun c_4 => ?_) (fun c_4 => ?_)
    · skip
      refine lv_iconst (v := nI 0) hx hb dX1_answer_64 (by decide) ?_
      exact hret (by show nI _ = nI (ans M w v d); unfold ans; split <;> first | rfl | omega) dX1_answer_65
    · skip
      refine lv_iload_n hx hb dX1_answer_39 rfl (lv_at hl 5 rfl) ?_
      refine lv_if_lt (tgt := 64) hx hb dX1_answer_40 (by decide) (fun c_5 => ?_) (fun c_5 => ?_)
      · skip
        exact absurd c_5 (nI_pos (by omega))
      · skip
        refine lv_iload_n hx hb dX1_answer_43 rfl (lv_at hl 5 rfl) ?_
        refine lv_bipush (v := nI 12) hx hb dX1_answer_44 (by decide) ?_
        refine zb_ge (tgt := 64) hx hb (by omega) (by omega) dX1_answer_46 (by decide) (fun c_6 => ?_) (fun c_6 => ?_)
        · skip
          refine lv_iconst (v := nI 0) hx hb dX1_answer_64 (by decide) ?_
          exact hret (by show nI _ = nI (ans M w v d); unfold ans; split <;> first | rfl | omega) dX1_answer_65
        · skip
          refine lv_aload_n hx hb dX1_answer_49 rfl (lv_at hl 2 rfl) ?_
          refine zg1 hx hb hw0 hown hK hP (by decide) rfl 8 (by decide) (hts (.fieldLink RX1 28 "WellFieldModel" "table" "[I") (by decide +kernel)) rfl rfl dX1_answer_50 ?_
          refine lv_bipush (v := nI 12) hx hb dX1_answer_53 (by decide) ?_
          refine lv_iload hx hb dX1_answer_55 (lv_at hl 0 rfl) ?_
          refine zr_imul hx hb dX1_answer_57 ?_
          refine lv_iload_n hx hb dX1_answer_58 rfl (lv_at hl 5 rfl) ?_
          refine zr_iadd hx hb dX1_answer_59 ?_
          refine zi_ld hx hb hK hP 7 (by decide) 0 rfl rfl (by decide) (i := ((12) * (rch M w v)) + (d)) (by omega) (v := nI (M (11 + 3 * (rch M w v)) (d))) (fl_tb (by omega)) dX1_answer_60 ?_
          have f_7 := hI.tb (rch M w v) (by omega) (d)
          refine lv_goto (tgt := 65) hx hb dX1_answer_61 (by decide) ?_
          exact hret (by show nI _ = nI (ans M w v d); unfold ans; split <;> first | rfl | omega) dX1_answer_65
  · skip
    refine lv_iload hx hb dX1_answer_20 (lv_at hl 0 rfl) ?_
    refine lv_ineg hx hb dX1_answer_22 ?_
    refine lv_goto (tgt := 28) hx hb dX1_answer_23 (by decide) ?_
    refine zt_i (abs_n (by omega) (by omega) c_3) ?_
    refine lv_bipush (v := nI 10) hx hb dX1_answer_28 (by decide) ?_
    refine zr_idiv hx hb (by omega) (by omega) (by omega) dX1_answer_30 ?_
    refine lv_istore (lv' := [(5, .int (nI ((((M 1 (w)) - (M 6 (v))) + ((M 6 (v)) - (M 1 (w)))) / (10)))), (4, .int (nI (M 1 (w)) - nI (M 6 (v)))), (0, .ref (ad 0)), (1, .int (nI (w))), (2, .int (nI (v))), (3, .int (nI (d)))]) hx hb dX1_answer_31 hl (by decide) rfl (fun ls hl => ?_)
    have hl := lv_cast (l2 := [(5, .int (nI (rch M w v))), (4, .int (nI (M 1 (w)) - nI (M 6 (v)))), (0, .ref (ad 0)), (1, .int (nI (w))), (2, .int (nI (v))), (3, .int (nI (d)))]) hl (by rw [show (rch M w v) = ((((M 1 (w)) - (M 6 (v))) + ((M 6 (v)) - (M 1 (w)))) / (10)) from rfl])
    refine lv_iload hx hb dX1_answer_33 (lv_at hl 0 rfl) ?_
    refine lv_iconst (v := nI 5) hx hb dX1_answer_35 (by decide) ?_
    refine zb_ge (tgt := 64) hx hb (by omega) (by omega) dX1_answer_36 (by decide) (fun c_8 => ?_) (fun c_8 => ?_)
    · skip
      refine lv_iconst (v := nI 0) hx hb dX1_answer_64 (by decide) ?_
      exact hret (by show nI _ = nI (ans M w v d); unfold ans; split <;> first | rfl | omega) dX1_answer_65
    · skip
      refine lv_iload_n hx hb dX1_answer_39 rfl (lv_at hl 5 rfl) ?_
      refine lv_if_lt (tgt := 64) hx hb dX1_answer_40 (by decide) (fun c_9 => ?_) (fun c_9 => ?_)
      · skip
        exact absurd c_9 (nI_pos (by omega))
      · skip
        refine lv_iload_n hx hb dX1_answer_43 rfl (lv_at hl 5 rfl) ?_
        refine lv_bipush (v := nI 12) hx hb dX1_answer_44 (by decide) ?_
        refine zb_ge (tgt := 64) hx hb (by omega) (by omega) dX1_answer_46 (by decide) (fun c_10 => ?_) (fun c_10 => ?_)
        · skip
          refine lv_iconst (v := nI 0) hx hb dX1_answer_64 (by decide) ?_
          exact hret (by show nI _ = nI (ans M w v d); unfold ans; split <;> first | rfl | omega) dX1_answer_65
        · skip
          refine lv_aload_n hx hb dX1_answer_49 rfl (lv_at hl 2 rfl) ?_
          refine zg1 hx hb hw0 hown hK hP (by decide) rfl 8 (by decide) (hts (.fieldLink RX1 28 "WellFieldModel" "table" "[I") (by decide +kernel)) rfl rfl dX1_answer_50 ?_
          refine lv_bipush (v := nI 12) hx hb dX1_answer_53 (by decide) ?_
          refine lv_iload hx hb dX1_answer_55 (lv_at hl 0 rfl) ?_
          refine zr_imul hx hb dX1_answer_57 ?_
          refine lv_iload_n hx hb dX1_answer_58 rfl (lv_at hl 5 rfl) ?_
          refine zr_iadd hx hb dX1_answer_59 ?_
          refine zi_ld hx hb hK hP 7 (by decide) 0 rfl rfl (by decide) (i := ((12) * (rch M w v)) + (d)) (by omega) (v := nI (M (11 + 3 * (rch M w v)) (d))) (fl_tb (by omega)) dX1_answer_60 ?_
          have f_11 := hI.tb (rch M w v) (by omega) (d)
          refine lv_goto (tgt := 65) hx hb dX1_answer_61 (by decide) ?_
          exact hret (by show nI _ = nI (ans M w v d); unfold ans; split <;> first | rfl | omega) dX1_answer_65
set_option maxHeartbeats 4000000 in
set_option maxRecDepth 100000 in
/-- drawdownOf -/
theorem c1_drawdownOf (l : Launch) {D : va_G} {ad : Nat → Nat} {cI : ClassId} {M : Mdl} {th : Int32} (hI : Inv M) {v mo : Nat} (hv : v < M 5 0) (hm : mo < 36) : Met l yX1_drawdownOf wsX1_drawdownOf (rmP 1) (va_Pc [.ref (ad 0), .int (nI (v)), .int (nI (mo))] (KP1 D ad cI M th)) (vp_Sl (fun r_ => r_ = lN (dd M v mo))) 0 0 (fun _ => False) := by
  refine mk_Sl (post := fun r_ => r_ = lN (dd M v mo)) (cc := cX1_drawdownOf) (maxL := 7) (by decide) rfl (Nat.le_of_ble_eq_true rfl) ?_
  intro p e s m args below meth c Q C0 B0 hret ls hl
  obtain ⟨hx, hb, hr, hml, hown, hts, hlocks⟩ := C0
  have hown : s.vm.findClass RX1 = some m.cls := hown
  obtain ⟨hK, hP⟩ := B0
  have hw0 : ∀ w ∈ wsX10, w.before args s = true := fun w h => hts w ((by decide +kernel : ∀ w ∈ wsX10, w ∈ wsX1_drawdownOf) w h)
  have b_nw := hI.nw
  have b_nv := hI.nv
  have hl : lv_has ls 7 [(0, .ref (ad 0)), (1, .int (nI (v))), (2, .int (nI (mo)))] := hl
  refine lv_lconst (v := lN 0) hx hb dX1_drawdownOf_0 (by decide) ?_
  refine lv_lstore_n (lv' := [(3, .long (lN (0))), (0, .ref (ad 0)), (1, .int (nI (v))), (2, .int (nI (mo)))]) hx hb dX1_drawdownOf_1 rfl hl (by decide) rfl (fun ls hl => ?_)
  refine lv_iconst (v := nI 0) hx hb dX1_drawdownOf_2 (by decide) ?_
  refine lv_istore (lv' := [(5, .int (nI (0))), (3, .long (lN (0))), (0, .ref (ad 0)), (1, .int (nI (v))), (2, .int (nI (mo)))]) hx hb dX1_drawdownOf_3 hl (by decide) rfl (fun ls hl => ?_)
  have lp5 : ∀ (n w : Nat), w ≤ M 0 0 → M 0 0 - w < n → ∀ ls : Array Slot, lv_has ls 7 [(0, .ref (ad 0)), (1, .int (nI (v))), (2, .int (nI (mo))), (3, .long (lN (ssum (fun w => drw M v mo w) (w)))), (5, .int (nI (w)))] → W p l e (rmP 1) s m args below meth c s.heap [] 0 0 Q (F0 m 5 ls []) := by
    intro n
    induction n with
    | zero => intro w q1 q2; omega
    | succ n ih5 =>
      intro w q1_5 q2_5 ls hl
      refine lv_iload hx hb dX1_drawdownOf_5 (lv_at hl 4 rfl) ?_
      refine lv_aload_n hx hb dX1_drawdownOf_7 rfl (lv_at hl 0 rfl) ?_
      refine zg1 hx hb hw0 hown hK hP (by decide) rfl 0 (by decide) (hts (.fieldLink RX1 38 "WellFieldModel" "wells" "I") (by decide +kernel)) rfl rfl dX1_drawdownOf_8 ?_
      refine zb_ge (tgt := 65) hx hb (by omega) (by omega) dX1_drawdownOf_11 (by decide) (fun c_1 => ?_) (fun c_1 => ?_)
      · skip
        have q_2 : w = M 0 0 := by omega
        subst q_2
        refine lv_lload_n hx hb dX1_drawdownOf_65 rfl (lv_at hl 3 rfl) ?_
        exact hret (by show lN _ = lN _; rw [drd_eq]) dX1_drawdownOf_66
      · skip
        refine lv_iconst (v := nI 0) hx hb dX1_drawdownOf_14 (by decide) ?_
        refine lv_istore (lv' := [(6, .int (nI (0))), (0, .ref (ad 0)), (1, .int (nI (v))), (2, .int (nI (mo))), (3, .long (lN (ssum (fun w => drw M v mo w) (w)))), (5, .int (nI (w)))]) hx hb dX1_drawdownOf_15 hl (by decide) rfl (fun ls hl => ?_)
        have lp17 : ∀ (n j : Nat), j ≤ mo + 1 → mo + 1 - j < n → ∀ ls : Array Slot, lv_has ls 7 [(0, .ref (ad 0)), (1, .int (nI (v))), (2, .int (nI (mo))), (3, .long (lN ((ssum (fun w => drw M v mo w) (w)) + (ssum (fun k => M (10 + 3 * w) k * ans M w v (mo - k)) (j))))), (5, .int (nI (w))), (6, .int (nI (j)))] → W p l e (rmP 1) s m args below meth c s.heap [] 0 0 Q (F0 m 17 ls []) := by
          intro n
          induction n with
          | zero => intro j q1 q2; omega
          | succ n ih17 =>
            intro j q1_17 q2_17 ls hl
            refine lv_iload hx hb dX1_drawdownOf_17 (lv_at hl 5 rfl) ?_
            refine lv_iload_n hx hb dX1_drawdownOf_19 rfl (lv_at hl 2 rfl) ?_
            refine zb_gt (tgt := 59) hx hb (by omega) (by omega) dX1_drawdownOf_20 (by decide) (fun c_3 => ?_) (fun c_3 => ?_)
            · skip
              have q_4 : j = mo + 1 := by omega
              subst q_4
              refine lv_iinc (v := nI (w + 1)) (lv' := [(5, .int (nI (w + 1))), (0, .ref (ad 0)), (1, .int (nI (v))), (2, .int (nI (mo))), (3, .long (lN ((ssum (fun w => drw M v mo w) (w)) + (ssum (fun k => M (10 + 3 * w) k * ans M w v (mo - k)) (mo + 1))))), (6, .int (nI (mo + 1)))]) hx hb dX1_drawdownOf_59 hl (k := 4) rfl (zn_inc (w)) (by decide) rfl (fun ls hl => ?_)
              refine lv_goto (tgt := 5) hx hb dX1_drawdownOf_62 (by decide) ?_
              exact ih5 (w + 1) (by omega) (by omega) _ (lv_sub hl [1, 2, 3, 4, 0] rfl)
            · skip
              refine lv_lload_n hx hb dX1_drawdownOf_23 rfl (lv_at hl 3 rfl) ?_
              refine lv_aload_n hx hb dX1_drawdownOf_24 rfl (lv_at hl 0 rfl) ?_
              refine zg1 hx hb hw0 hown hK hP (by decide) rfl 4 (by decide) (hts (.fieldLink RX1 19 "WellFieldModel" "units" "[I") (by decide +kernel)) rfl rfl dX1_drawdownOf_25 ?_
              refine lv_bipush (v := nI 36) hx hb dX1_drawdownOf_28 (by decide) ?_
              refine lv_iload hx hb dX1_drawdownOf_30 (lv_at hl 4 rfl) ?_
              refine zr_imul hx hb dX1_drawdownOf_32 ?_
              refine lv_iload hx hb dX1_drawdownOf_33 (lv_at hl 5 rfl) ?_
              refine zr_iadd hx hb dX1_drawdownOf_35 ?_
              refine zi_ld hx hb hK hP 4 (by decide) 0 rfl rfl (by decide) (i := ((36) * (w)) + (j)) (by omega) (v := nI (M (10 + 3 * (w)) (j))) (fl_un (by omega)) dX1_drawdownOf_36 ?_
              have f_5 := hI.un (w) (by omega) (j)
              refine zr_i2l hx hb (by omega) dX1_drawdownOf_37 ?_
              refine lv_aload_n hx hb dX1_drawdownOf_38 rfl (lv_at hl 0 rfl) ?_
              refine lv_iload hx hb dX1_drawdownOf_39 (lv_at hl 4 rfl) ?_
              refine lv_iload_n hx hb dX1_drawdownOf_41 rfl (lv_at hl 1 rfl) ?_
              refine lv_iload_n hx hb dX1_drawdownOf_42 rfl (lv_at hl 2 rfl) ?_
              refine lv_iload hx hb dX1_drawdownOf_43 (lv_at hl 5 rfl) ?_
              refine zr_isub hx hb (by omega) dX1_drawdownOf_45 ?_
              refine vp_callSi (W.runV (As := [.int (nI (w)), .int (nI (v)), .int (nI ((mo) - (j)))]) (rest := [.long (lN (M (10 + 3 * (w)) (j))), .long (lN ((ssum (fun w => drw M v mo w) (w)) + (ssum (fun k => M (10 + 3 * w) k * ans M w v (mo - k)) (j))))]) ⟨hx, hb, hml, hown, hts⟩ (c1_answer l hI (w := w) (v := v) (d := (mo) - (j)) (by omega) (by omega) (by omega)) (cwV 3 hts gX1_drawdownOf_X1_answer rfl rfl rfl (by decide +kernel) (by decide)) (pv1 hK hP) rfl rfl hl.1 rfl (lv_room (Nat.le_of_ble_eq_true rfl)) dX1_drawdownOf_46 (by decide)) (fun r_6 hr_6 => ?_)
              subst hr_6
              have f_7 := ans_le hI (w) (v) ((mo) - (j))
              refine zr_i2l hx hb (by omega) dX1_drawdownOf_49 ?_
              refine zr_lmul hx hb dX1_drawdownOf_50 ?_
              refine zr_ladd hx hb dX1_drawdownOf_51 ?_
              refine lv_lstore_n (lv' := [(3, .long (lN (((ssum (fun w => drw M v mo w) (w)) + (ssum (fun k => M (10 + 3 * w) k * ans M w v (mo - k)) (j))) + ((M (10 + 3 * (w)) (j)) * (ans M (w) (v) ((mo) - (j))))))), (0, .ref (ad 0)), (1, .int (nI (v))), (2, .int (nI (mo))), (5, .int (nI (w))), (6, .int (nI (j)))]) hx hb dX1_drawdownOf_52 rfl hl (by decide) rfl (fun ls hl => ?_)
              have hl := lv_cast (l2 := [(3, .long (lN ((ssum (fun w => drw M v mo w) (w)) + (ssum (fun k => M (10 + 3 * w) k * ans M w v (mo - k)) (j + 1))))), (0, .ref (ad 0)), (1, .int (nI (v))), (2, .int (nI (mo))), (5, .int (nI (w))), (6, .int (nI (j)))]) hl (by rw [show ((ssum (fun w => drw M v mo w) (w)) + (ssum (fun k => M (10 + 3 * w) k * ans M w v (mo - k)) (j + 1))) = (((ssum (fun w => drw M v mo w) (w)) + (ssum (fun k => M (10 + 3 * w) k * ans M w v (mo - k)) (j))) + ((M (10 + 3 * (w)) (j)) * (ans M (w) (v) ((mo) - (j))))) from (by rw [ssum_s, Nat.add_assoc])])
              refine lv_iinc (v := nI (j + 1)) (lv' := [(6, .int (nI (j + 1))), (3, .long (lN ((ssum (fun w => drw M v mo w) (w)) + (ssum (fun k => M (10 + 3 * w) k * ans M w v (mo - k)) (j + 1))))), (0, .ref (ad 0)), (1, .int (nI (v))), (2, .int (nI (mo))), (5, .int (nI (w)))]) hx hb dX1_drawdownOf_53 hl (k := 5) rfl (zn_inc (j)) (by decide) rfl (fun ls hl => ?_)
              refine lv_goto (tgt := 17) hx hb dX1_drawdownOf_56 (by decide) ?_
              exact ih17 (j + 1) (by omega) (by omega) _ (lv_sub hl [2, 3, 4, 1, 5, 0] rfl)
        exact lp17 (mo + 1 - (0) + 1) (0) (by omega) (by omega) _ (lv_sub hl [1, 2, 3, 4, 5, 0] rfl)
  exact lp5 (M 0 0 - (0) + 1) (0) (by omega) (by omega) _ (lv_sub hl [2, 3, 4, 1, 0] rfl)
set_option maxHeartbeats 4000000 in
set_option maxRecDepth 100000 in
/-- takenBy -/
theorem c1_takenBy (l : Launch) {D : va_G} {ad : Nat → Nat} {cI : ClassId} {M : Mdl} {th : Int32} (hI : Inv M) {w y E : Nat} (hw : w < M 0 0) (hy : y < 3) (hE : E ≤ 36) : Met l yX1_takenBy wsX1_takenBy (rmP 0) (va_Pc [.ref (ad 0), .int (nI (w)), .int (nI (y)), .int (nI (E))] (KP1 D ad cI M th)) (vp_Si (fun r_ => r_ = nI (tk M w y E))) 0 0 (fun _ => False) := by
  refine mk_Si (post := fun r_ => r_ = nI (tk M w y E)) (cc := cX1_takenBy) (maxL := 9) (by decide) rfl (Nat.le_of_ble_eq_true rfl) ?_
  intro p e s m args below meth c Q C0 B0 hret ls hl
  obtain ⟨hx, hb, hr, hml, hown, hts, hlocks⟩ := C0
  have hown : s.vm.findClass RX1 = some m.cls := hown
  obtain ⟨hK, hP⟩ := B0
  have hw0 : ∀ w ∈ wsX10, w.before args s = true := fun w h => hts w ((by decide +kernel : ∀ w ∈ wsX10, w ∈ wsX1_takenBy) w h)
  have b_nw := hI.nw
  have b_nv := hI.nv
  have hl : lv_has ls 9 [(0, .ref (ad 0)), (1, .int (nI (w))), (2, .int (nI (y))), (3, .int (nI (E)))] := hl
  refine lv_iconst (v := nI 0) hx hb dX1_takenBy_0 (by decide) ?_
  refine lv_istore (lv' := [(4, .int (nI (0))), (0, .ref (ad 0)), (1, .int (nI (w))), (2, .int (nI (y))), (3, .int (nI (E)))]) hx hb dX1_takenBy_1 hl (by decide) rfl (fun ls hl => ?_)
  refine lv_aload_n hx hb dX1_takenBy_3 rfl (lv_at hl 1 rfl) ?_
  refine zg1 hx hb hw0 hown hK hP (by decide) rfl 1 (by decide) (hts (.fieldLink RX1 7 "WellFieldModel" "place" "[I") (by decide +kernel)) rfl rfl dX1_takenBy_4 ?_
  refine lv_iload_n hx hb dX1_takenBy_7 rfl (lv_at hl 2 rfl) ?_
  refine zi_ld hx hb hK hP 1 (by decide) 0 rfl rfl (by decide) (i := w) (by omega) (v := nI (M 1 (w))) rfl dX1_takenBy_8 ?_
  have f_1 := hI.pl (w)
  refine lv_iconst (v := nI 5) hx hb dX1_takenBy_9 (by decide) ?_
  refine zr_idiv hx hb (by omega) (by omega) (by omega) dX1_takenBy_10 ?_
  refine lv_istore (lv' := [(5, .int (nI ((M 1 (w)) / (5)))), (4, .int (nI (0))), (0, .ref (ad 0)), (1, .int (nI (w))), (2, .int (nI (y))), (3, .int (nI (E)))]) hx hb dX1_takenBy_11 hl (by decide) rfl (fun ls hl => ?_)
  refine lv_iconst (v := nI 0) hx hb dX1_takenBy_13 (by decide) ?_
  refine lv_istore (lv' := [(6, .int (nI (0))), (5, .int (nI ((M 1 (w)) / (5)))), (4, .int (nI (0))), (0, .ref (ad 0)), (1, .int (nI (w))), (2, .int (nI (y))), (3, .int (nI (E)))]) hx hb dX1_takenBy_14 hl (by decide) rfl (fun ls hl => ?_)
  have lp16 : ∀ (n j : Nat), j ≤ E → E - j < n → ∀ ls : Array Slot, lv_has ls 9 [(0, .ref (ad 0)), (1, .int (nI (w))), (2, .int (nI (y))), (3, .int (nI (E))), (4, .int (nI (ssum (fun m => tks M w y m) (j)))), (5, .int (nI ((M 1 (w)) / (5)))), (6, .int (nI (j)))] → W p l e (rmP 0) s m args below meth c s.heap [] 0 0 Q (F0 m 16 ls []) := by
    intro n
    induction n with
    | zero => intro j q1 q2; omega
    | succ n ih16 =>
      intro j q1_16 q2_16 ls hl
      refine lv_iload hx hb dX1_takenBy_16 (lv_at hl 6 rfl) ?_
      refine lv_iload_n hx hb dX1_takenBy_18 rfl (lv_at hl 3 rfl) ?_
      refine zb_ge (tgt := 97) hx hb (by omega) (by omega) dX1_takenBy_19 (by decide) (fun c_2 => ?_) (fun c_2 => ?_)
      · skip
        have q_3 : j = E := by omega
        subst q_3
        refine lv_iload hx hb dX1_takenBy_97 (lv_at hl 4 rfl) ?_
        exact hret rfl dX1_takenBy_99
      · skip
        refine lv_iload hx hb dX1_takenBy_22 (lv_at hl 6 rfl) ?_
        refine lv_iload hx hb dX1_takenBy_24 (lv_at hl 5 rfl) ?_
        refine zr_iadd hx hb dX1_takenBy_26 ?_
        refine lv_istore (lv' := [(7, .int (nI ((j) + ((M 1 (w)) / (5))))), (0, .ref (ad 0)), (1, .int (nI (w))), (2, .int (nI (y))), (3, .int (nI (E))), (4, .int (nI (ssum (fun m => tks M w y m) (j)))), (5, .int (nI ((M 1 (w)) / (5)))), (6, .int (nI (j)))]) hx hb dX1_takenBy_27 hl (by decide) rfl (fun ls hl => ?_)
        refine lv_aload_n hx hb dX1_takenBy_29 rfl (lv_at hl 1 rfl) ?_
        refine zg1 hx hb hw0 hown hK hP (by decide) rfl 4 (by decide) (hts (.fieldLink RX1 19 "WellFieldModel" "units" "[I") (by decide +kernel)) rfl rfl dX1_takenBy_30 ?_
        refine lv_bipush (v := nI 36) hx hb dX1_takenBy_33 (by decide) ?_
        refine lv_iload_n hx hb dX1_takenBy_35 rfl (lv_at hl 2 rfl) ?_
        refine zr_imul hx hb dX1_takenBy_36 ?_
        refine lv_iload hx hb dX1_takenBy_37 (lv_at hl 7 rfl) ?_
        refine zr_iadd hx hb dX1_takenBy_39 ?_
        refine zi_ld hx hb hK hP 4 (by decide) 0 rfl rfl (by decide) (i := ((36) * (w)) + (j)) (by omega) (v := nI (M (10 + 3 * (w)) (j))) (fl_un (by omega)) dX1_takenBy_40 ?_
        have f_4 := hI.un (w) (by omega) (j)
        refine lv_istore (lv' := [(8, .int (nI (M (10 + 3 * (w)) (j)))), (7, .int (nI ((j) + ((M 1 (w)) / (5))))), (0, .ref (ad 0)), (1, .int (nI (w))), (2, .int (nI (y))), (3, .int (nI (E))), (4, .int (nI (ssum (fun m => tks M w y m) (j)))), (5, .int (nI ((M 1 (w)) / (5)))), (6, .int (nI (j)))]) hx hb dX1_takenBy_41 hl (by decide) rfl (fun ls hl => ?_)
        refine lv_iload hx hb dX1_takenBy_43 (lv_at hl 6 rfl) ?_
        refine lv_iload hx hb dX1_takenBy_45 (lv_at hl 1 rfl) ?_
        refine lv_bipush (v := nI 12) hx hb dX1_takenBy_47 (by decide) ?_
        refine zr_idiv hx hb (by omega) (by omega) (by omega) dX1_takenBy_49 ?_
        refine lv_iload_n hx hb dX1_takenBy_50 rfl (lv_at hl 4 rfl) ?_
        refine zb_ne (tgt := 63) hx hb (by omega) (by omega) dX1_takenBy_51 (by decide) (fun c_5 => ?_) (fun c_5 => ?_)
        · skip
          refine lv_iconst (v := nI 0) hx hb dX1_takenBy_63 (by decide) ?_
          refine zt_i (y := nI (if (j + M 1 w / 5) / 12 = y then M (10 + 3 * w) j - M (10 + 3 * w) j / 2 else 0)) (congrArg nI (by split <;> omega)) ?_
          refine zr_iadd hx hb dX1_takenBy_64 ?_
          refine lv_istore (lv' := [(4, .int (nI ((ssum (fun m => tks M w y m) (j)) + (if (j + M 1 w / 5) / 12 = y then M (10 + 3 * w) j - M (10 + 3 * w) j / 2 else 0)))), (8, .int (nI (M (10 + 3 * (w)) (j)))), (7, .int (nI ((j) + ((M 1 (w)) / (5))))), (0, .ref (ad 0)), (1, .int (nI (w))), (2, .int (nI (y))), (3, .int (nI (E))), (5, .int (nI ((M 1 (w)) / (5)))), (6, .int (nI (j)))]) hx hb dX1_takenBy_65 hl (by decide) rfl (fun ls hl => ?_)
          refine lv_iload hx hb dX1_takenBy_67 (lv_at hl 0 rfl) ?_
          refine lv_iload hx hb dX1_takenBy_69 (lv_at hl 2 rfl) ?_
          refine lv_iconst (v := nI 1) hx hb dX1_takenBy_71 (by decide) ?_
          refine zr_iadd hx hb dX1_takenBy_72 ?_
          refine lv_bipush (v := nI 12) hx hb dX1_takenBy_73 (by decide) ?_
          refine zr_idiv hx hb (by omega) (by omega) (by omega) dX1_takenBy_75 ?_
          refine lv_iload_n hx hb dX1_takenBy_76 rfl (lv_at hl 5 rfl) ?_
          refine zb_ne (tgt := 87) hx hb (by omega) (by omega) dX1_takenBy_77 (by decide) (fun c_6 => ?_) (fun c_6 => ?_)
          · skip
            refine lv_iconst (v := nI 0) hx hb dX1_takenBy_87 (by decide) ?_
            refine zt_i (y := nI (if (j + M 1 w / 5 + 1) / 12 = y then M (10 + 3 * w) j / 2 else 0)) (congrArg nI (by split <;> omega)) ?_
            refine zr_iadd hx hb dX1_takenBy_88 ?_
            refine lv_istore (lv' := [(4, .int (nI (((ssum (fun m => tks M w y m) (j)) + (if (j + M 1 w / 5) / 12 = y then M (10 + 3 * w) j - M (10 + 3 * w) j / 2 else 0)) + (if (j + M 1 w / 5 + 1) / 12 = y then M (10 + 3 * w) j / 2 else 0)))), (8, .int (nI (M (10 + 3 * (w)) (j)))), (7, .int (nI ((j) + ((M 1 (w)) / (5))))), (0, .ref (ad 0)), (1, .int (nI (w))), (2, .int (nI (y))), (3, .int (nI (E))), (5, .int (nI ((M 1 (w)) / (5)))), (6, .int (nI (j)))]) hx hb dX1_takenBy_89 hl (by decide) rfl (fun ls hl => ?_)
            have hl := lv_cast (l2 := [(4, .int (nI (ssum (fun m => tks M w y m) (j + 1)))), (8, .int (nI (M (10 + 3 * (w)) (j)))), (7, .int (nI ((j) + ((M 1 (w)) / (5))))), (0, .ref (ad 0)), (1, .int (nI (w))), (2, .int (nI (y))), (3, .int (nI (E))), (5, .int (nI ((M 1 (w)) / (5)))), (6, .int (nI (j)))]) hl (by rw [show (ssum (fun m => tks M w y m) (j + 1)) = (((ssum (fun m => tks M w y m) (j)) + (if (j + M 1 w / 5) / 12 = y then M (10 + 3 * w) j - M (10 + 3 * w) j / 2 else 0)) + (if (j + M 1 w / 5 + 1) / 12 = y then M (10 + 3 * w) j / 2 else 0)) from (by rw [ssum_s, tks]; exact (Nat.add_assoc _ _ _).symm)])
            refine lv_iinc (v := nI (j + 1)) (lv' := [(6, .int (nI (j + 1))), (4, .int (nI (ssum (fun m => tks M w y m) (j + 1)))), (8, .int (nI (M (10 + 3 * (w)) (j)))), (7, .int (nI ((j) + ((M 1 (w)) / (5))))), (0, .ref (ad 0)), (1, .int (nI (w))), (2, .int (nI (y))), (3, .int (nI (E))), (5, .int (nI ((M 1 (w)) / (5))))]) hx hb dX1_takenBy_91 hl (k := 8) rfl (zn_inc (j)) (by decide) rfl (fun ls hl => ?_)
            refine lv_goto (tgt := 16) hx hb dX1_takenBy_94 (by decide) ?_
            exact ih16 (j + 1) (by omega) (by omega) _ (lv_sub hl [4, 5, 6, 7, 1, 8, 0] rfl)
          · skip
            refine lv_iload hx hb dX1_takenBy_80 (lv_at hl 1 rfl) ?_
            refine lv_iconst (v := nI 2) hx hb dX1_takenBy_82 (by decide) ?_
            refine zr_idiv hx hb (by omega) (by omega) (by omega) dX1_takenBy_83 ?_
            refine lv_goto (tgt := 88) hx hb dX1_takenBy_84 (by decide) ?_
            refine zt_i (y := nI (if (j + M 1 w / 5 + 1) / 12 = y then M (10 + 3 * w) j / 2 else 0)) (congrArg nI (by split <;> omega)) ?_
            refine zr_iadd hx hb dX1_takenBy_88 ?_
            refine lv_istore (lv' := [(4, .int (nI (((ssum (fun m => tks M w y m) (j)) + (if (j + M 1 w / 5) / 12 = y then M (10 + 3 * w) j - M (10 + 3 * w) j / 2 else 0)) + (if (j + M 1 w / 5 + 1) / 12 = y then M (10 + 3 * w) j / 2 else 0)))), (8, .int (nI (M (10 + 3 * (w)) (j)))), (7, .int (nI ((j) + ((M 1 (w)) / (5))))), (0, .ref (ad 0)), (1, .int (nI (w))), (2, .int (nI (y))), (3, .int (nI (E))), (5, .int (nI ((M 1 (w)) / (5)))), (6, .int (nI (j)))]) hx hb dX1_takenBy_89 hl (by decide) rfl (fun ls hl => ?_)
            have hl := lv_cast (l2 := [(4, .int (nI (ssum (fun m => tks M w y m) (j + 1)))), (8, .int (nI (M (10 + 3 * (w)) (j)))), (7, .int (nI ((j) + ((M 1 (w)) / (5))))), (0, .ref (ad 0)), (1, .int (nI (w))), (2, .int (nI (y))), (3, .int (nI (E))), (5, .int (nI ((M 1 (w)) / (5)))), (6, .int (nI (j)))]) hl (by rw [show (ssum (fun m => tks M w y m) (j + 1)) = (((ssum (fun m => tks M w y m) (j)) + (if (j + M 1 w / 5) / 12 = y then M (10 + 3 * w) j - M (10 + 3 * w) j / 2 else 0)) + (if (j + M 1 w / 5 + 1) / 12 = y then M (10 + 3 * w) j / 2 else 0)) from (by rw [ssum_s, tks]; exact (Nat.add_assoc _ _ _).symm)])
            refine lv_iinc (v := nI (j + 1)) (lv' := [(6, .int (nI (j + 1))), (4, .int (nI (ssum (fun m => tks M w y m) (j + 1)))), (8, .int (nI (M (10 + 3 * (w)) (j)))), (7, .int (nI ((j) + ((M 1 (w)) / (5))))), (0, .ref (ad 0)), (1, .int (nI (w))), (2, .int (nI (y))), (3, .int (nI (E))), (5, .int (nI ((M 1 (w)) / (5))))]) hx hb dX1_takenBy_91 hl (k := 8) rfl (zn_inc (j)) (by decide) rfl (fun ls hl => ?_)
            refine lv_goto (tgt := 16) hx hb dX1_takenBy_94 (by decide) ?_
            exact ih16 (j + 1) (by omega) (by omega) _ (lv_sub hl [4, 5, 6, 7, 1, 8, 0] rfl)
        · skip
          refine lv_iload hx hb dX1_takenBy_54 (lv_at hl 0 rfl) ?_
          refine lv_iconst (v := nI 1) hx hb dX1_takenBy_56 (by decide) ?_
          refine zr_iadd hx hb dX1_takenBy_57 ?_
          refine lv_iconst (v := nI 2) hx hb dX1_takenBy_58 (by decide) ?_
          refine zr_idiv hx hb (by omega) (by omega) (by omega) dX1_takenBy_59 ?_
          refine lv_goto (tgt := 64) hx hb dX1_takenBy_60 (by decide) ?_
          refine zt_i (y := nI (if (j + M 1 w / 5) / 12 = y then M (10 + 3 * w) j - M (10 + 3 * w) j / 2 else 0)) (congrArg nI (by split <;> omega)) ?_
          refine zr_iadd hx hb dX1_takenBy_64 ?_
          refine lv_istore (lv' := [(4, .int (nI ((ssum (fun m => tks M w y m) (j)) + (if (j + M 1 w / 5) / 12 = y then M (10 + 3 * w) j - M (10 + 3 * w) j / 2 else 0)))), (8, .int (nI (M (10 + 3 * (w)) (j)))), (7, .int (nI ((j) + ((M 1 (w)) / (5))))), (0, .ref (ad 0)), (1, .int (nI (w))), (2, .int (nI (y))), (3, .int (nI (E))), (5, .int (nI ((M 1 (w)) / (5)))), (6, .int (nI (j)))]) hx hb dX1_takenBy_65 hl (by decide) rfl (fun ls hl => ?_)
          refine lv_iload hx hb dX1_takenBy_67 (lv_at hl 0 rfl) ?_
          refine lv_iload hx hb dX1_takenBy_69 (lv_at hl 2 rfl) ?_
          refine lv_iconst (v := nI 1) hx hb dX1_takenBy_71 (by decide) ?_
          refine zr_iadd hx hb dX1_takenBy_72 ?_
          refine lv_bipush (v := nI 12) hx hb dX1_takenBy_73 (by decide) ?_
          refine zr_idiv hx hb (by omega) (by omega) (by omega) dX1_takenBy_75 ?_
          refine lv_iload_n hx hb dX1_takenBy_76 rfl (lv_at hl 5 rfl) ?_
          refine zb_ne (tgt := 87) hx hb (by omega) (by omega) dX1_takenBy_77 (by decide) (fun c_7 => ?_) (fun c_7 => ?_)
          · skip
            refine lv_iconst (v := nI 0) hx hb dX1_takenBy_87 (by decide) ?_
            refine zt_i (y := nI (if (j + M 1 w / 5 + 1) / 12 = y then M (10 + 3 * w) j / 2 else 0)) (congrArg nI (by split <;> omega)) ?_
            refine zr_iadd hx hb dX1_takenBy_88 ?_
            refine lv_istore (lv' := [(4, .int (nI (((ssum (fun m => tks M w y m) (j)) + (if (j + M 1 w / 5) / 12 = y then M (10 + 3 * w) j - M (10 + 3 * w) j / 2 else 0)) + (if (j + M 1 w / 5 + 1) / 12 = y then M (10 + 3 * w) j / 2 else 0)))), (8, .int (nI (M (10 + 3 * (w)) (j)))), (7, .int (nI ((j) + ((M 1 (w)) / (5))))), (0, .ref (ad 0)), (1, .int (nI (w))), (2, .int (nI (y))), (3, .int (nI (E))), (5, .int (nI ((M 1 (w)) / (5)))), (6, .int (nI (j)))]) hx hb dX1_takenBy_89 hl (by decide) rfl (fun ls hl => ?_)
            have hl := lv_cast (l2 := [(4, .int (nI (ssum (fun m => tks M w y m) (j + 1)))), (8, .int (nI (M (10 + 3 * (w)) (j)))), (7, .int (nI ((j) + ((M 1 (w)) / (5))))), (0, .ref (ad 0)), (1, .int (nI (w))), (2, .int (nI (y))), (3, .int (nI (E))), (5, .int (nI ((M 1 (w)) / (5)))), (6, .int (nI (j)))]) hl (by rw [show (ssum (fun m => tks M w y m) (j + 1)) = (((ssum (fun m => tks M w y m) (j)) + (if (j + M 1 w / 5) / 12 = y then M (10 + 3 * w) j - M (10 + 3 * w) j / 2 else 0)) + (if (j + M 1 w / 5 + 1) / 12 = y then M (10 + 3 * w) j / 2 else 0)) from (by rw [ssum_s, tks]; exact (Nat.add_assoc _ _ _).symm)])
            refine lv_iinc (v := nI (j + 1)) (lv' := [(6, .int (nI (j + 1))), (4, .int (nI (ssum (fun m => tks M w y m) (j + 1)))), (8, .int (nI (M (10 + 3 * (w)) (j)))), (7, .int (nI ((j) + ((M 1 (w)) / (5))))), (0, .ref (ad 0)), (1, .int (nI (w))), (2, .int (nI (y))), (3, .int (nI (E))), (5, .int (nI ((M 1 (w)) / (5))))]) hx hb dX1_takenBy_91 hl (k := 8) rfl (zn_inc (j)) (by decide) rfl (fun ls hl => ?_)
            refine lv_goto (tgt := 16) hx hb dX1_takenBy_94 (by decide) ?_
            exact ih16 (j + 1) (by omega) (by omega) _ (lv_sub hl [4, 5, 6, 7, 1, 8, 0] rfl)
          · skip
            refine lv_iload hx hb dX1_takenBy_80 (lv_at hl 1 rfl) ?_
            refine lv_iconst (v := nI 2) hx hb dX1_takenBy_82 (by decide) ?_
            refine zr_idiv hx hb (by omega) (by omega) (by omega) dX1_takenBy_83 ?_
            refine lv_goto (tgt := 88) hx hb dX1_takenBy_84 (by decide) ?_
            refine zt_i (y := nI (if (j + M 1 w / 5 + 1) / 12 = y then M (10 + 3 * w) j / 2 else 0)) (congrArg nI (by split <;> omega)) ?_
            refine zr_iadd hx hb dX1_takenBy_88 ?_
            refine lv_istore (lv' := [(4, .int (nI (((ssum (fun m => tks M w y m) (j)) + (if (j + M 1 w / 5) / 12 = y then M (10 + 3 * w) j - M (10 + 3 * w) j / 2 else 0)) + (if (j + M 1 w / 5 + 1) / 12 = y then M (10 + 3 * w) j / 2 else 0)))), (8, .int (nI (M (10 + 3 * (w)) (j)))), (7, .int (nI ((j) + ((M 1 (w)) / (5))))), (0, .ref (ad 0)), (1, .int (nI (w))), (2, .int (nI (y))), (3, .int (nI (E))), (5, .int (nI ((M 1 (w)) / (5)))), (6, .int (nI (j)))]) hx hb dX1_takenBy_89 hl (by decide) rfl (fun ls hl => ?_)
            have hl := lv_cast (l2 := [(4, .int (nI (ssum (fun m => tks M w y m) (j + 1)))), (8, .int (nI (M (10 + 3 * (w)) (j)))), (7, .int (nI ((j) + ((M 1 (w)) / (5))))), (0, .ref (ad 0)), (1, .int (nI (w))), (2, .int (nI (y))), (3, .int (nI (E))), (5, .int (nI ((M 1 (w)) / (5)))), (6, .int (nI (j)))]) hl (by rw [show (ssum (fun m => tks M w y m) (j + 1)) = (((ssum (fun m => tks M w y m) (j)) + (if (j + M 1 w / 5) / 12 = y then M (10 + 3 * w) j - M (10 + 3 * w) j / 2 else 0)) + (if (j + M 1 w / 5 + 1) / 12 = y then M (10 + 3 * w) j / 2 else 0)) from (by rw [ssum_s, tks]; exact (Nat.add_assoc _ _ _).symm)])
            refine lv_iinc (v := nI (j + 1)) (lv' := [(6, .int (nI (j + 1))), (4, .int (nI (ssum (fun m => tks M w y m) (j + 1)))), (8, .int (nI (M (10 + 3 * (w)) (j)))), (7, .int (nI ((j) + ((M 1 (w)) / (5))))), (0, .ref (ad 0)), (1, .int (nI (w))), (2, .int (nI (y))), (3, .int (nI (E))), (5, .int (nI ((M 1 (w)) / (5))))]) hx hb dX1_takenBy_91 hl (k := 8) rfl (zn_inc (j)) (by decide) rfl (fun ls hl => ?_)
            refine lv_goto (tgt := 16) hx hb dX1_takenBy_94 (by decide) ?_
            exact ih16 (j + 1) (by omega) (by omega) _ (lv_sub hl [4, 5, 6, 7, 1, 8, 0] rfl)
  exact lp16 (E - (0) + 1) (0) (by omega) (by omega) _ (lv_sub hl [3, 4, 5, 6, 2, 1, 0] rfl)
set_option maxHeartbeats 4000000 in
set_option maxRecDepth 100000 in
/-- allOf -/
theorem c1_allOf (l : Launch) {D : va_G} {ad : Nat → Nat} {cI : ClassId} {M : Mdl} {th : Int32} (hI : Inv M) {w v : Nat} (hw : w < M 0 0) (hv : v < M 5 0) : Met l yX1_allOf wsX1_allOf (rmP 1) (va_Pc [.ref (ad 0), .int (nI (w)), .int (nI (v))] (KP1 D ad cI M th)) (vp_Si (fun r_ => r_ = nI (als M w v))) 0 0 (fun _ => False) := by
  refine mk_Si (post := fun r_ => r_ = nI (als M w v)) (cc := cX1_allOf) (maxL := 5) (by decide) rfl (Nat.le_of_ble_eq_true rfl) ?_
  intro p e s m args below meth c Q C0 B0 hret ls hl
  obtain ⟨hx, hb, hr, hml, hown, hts, hlocks⟩ := C0
  have hown : s.vm.findClass RX1 = some m.cls := hown
  obtain ⟨hK, hP⟩ := B0
  have hw0 : ∀ w ∈ wsX10, w.before args s = true := fun w h => hts w ((by decide +kernel : ∀ w ∈ wsX10, w ∈ wsX1_allOf) w h)
  have b_nw := hI.nw
  have b_nv := hI.nv
  have hl : lv_has ls 5 [(0, .ref (ad 0)), (1, .int (nI (w))), (2, .int (nI (v)))] := hl
  refine lv_iconst (v := nI 0) hx hb dX1_allOf_0 (by decide) ?_
  refine lv_istore_n (lv' := [(3, .int (nI (0))), (0, .ref (ad 0)), (1, .int (nI (w))), (2, .int (nI (v)))]) hx hb dX1_allOf_1 rfl hl (by decide) rfl (fun ls hl => ?_)
  refine lv_iconst (v := nI 0) hx hb dX1_allOf_2 (by decide) ?_
  refine lv_istore (lv' := [(4, .int (nI (0))), (3, .int (nI (0))), (0, .ref (ad 0)), (1, .int (nI (w))), (2, .int (nI (v)))]) hx hb dX1_allOf_3 hl (by decide) rfl (fun ls hl => ?_)
  have lp5 : ∀ (n d : Nat), d ≤ 12 → 12 - d < n → ∀ ls : Array Slot, lv_has ls 5 [(0, .ref (ad 0)), (1, .int (nI (w))), (2, .int (nI (v))), (3, .int (nI (ssum (fun d => ans M w v d) (d)))), (4, .int (nI (d)))] → W p l e (rmP 1) s m args below meth c s.heap [] 0 0 Q (F0 m 5 ls []) := by
    intro n
    induction n with
    | zero => intro d q1 q2; omega
    | succ n ih5 =>
      intro d q1_5 q2_5 ls hl
      refine lv_iload hx hb dX1_allOf_5 (lv_at hl 4 rfl) ?_
      refine lv_bipush (v := nI 12) hx hb dX1_allOf_7 (by decide) ?_
      refine zb_ge (tgt := 29) hx hb (by omega) (by omega) dX1_allOf_9 (by decide) (fun c_1 => ?_) (fun c_1 => ?_)
      · skip
        have q_2 : d = 12 := by omega
        subst q_2
        refine lv_iload_n hx hb dX1_allOf_29 rfl (lv_at hl 3 rfl) ?_
        exact hret rfl dX1_allOf_30
      · skip
        refine lv_iload_n hx hb dX1_allOf_12 rfl (lv_at hl 3 rfl) ?_
        refine lv_aload_n hx hb dX1_allOf_13 rfl (lv_at hl 0 rfl) ?_
        refine lv_iload_n hx hb dX1_allOf_14 rfl (lv_at hl 1 rfl) ?_
        refine lv_iload_n hx hb dX1_allOf_15 rfl (lv_at hl 2 rfl) ?_
        refine lv_iload hx hb dX1_allOf_16 (lv_at hl 4 rfl) ?_
        refine vp_callSi (W.runV (As := [.int (nI (w)), .int (nI (v)), .int (nI (d))]) (rest := [.int (nI (ssum (fun d => ans M w v d) (d)))]) ⟨hx, hb, hml, hown, hts⟩ (c1_answer l hI (w := w) (v := v) (d := d) (by omega) (by omega) (by omega)) (cwV 3 hts gX1_allOf_X1_answer rfl rfl rfl (by decide +kernel) (by decide)) (pv1 hK hP) rfl rfl hl.1 rfl (lv_room (Nat.le_of_ble_eq_true rfl)) dX1_allOf_18 (by decide)) (fun r_3 hr_3 => ?_)
        subst hr_3
        have f_4 := ans_le hI (w) (v) (d)
        refine zr_iadd hx hb dX1_allOf_21 ?_
        refine lv_istore_n (lv' := [(3, .int (nI ((ssum (fun d => ans M w v d) (d)) + (ans M (w) (v) (d))))), (0, .ref (ad 0)), (1, .int (nI (w))), (2, .int (nI (v))), (4, .int (nI (d)))]) hx hb dX1_allOf_22 rfl hl (by decide) rfl (fun ls hl => ?_)
        refine lv_iinc (v := nI (d + 1)) (lv' := [(4, .int (nI (d + 1))), (3, .int (nI ((ssum (fun d => ans M w v d) (d)) + (ans M (w) (v) (d))))), (0, .ref (ad 0)), (1, .int (nI (w))), (2, .int (nI (v)))]) hx hb dX1_allOf_23 hl (k := 4) rfl (zn_inc (d)) (by decide) rfl (fun ls hl => ?_)
        refine lv_goto (tgt := 5) hx hb dX1_allOf_26 (by decide) ?_
        exact ih5 (d + 1) (by omega) (by omega) _ (lv_sub hl [2, 3, 4, 1, 0] rfl)
  exact lp5 (12 - (0) + 1) (0) (by omega) (by omega) _ (lv_sub hl [2, 3, 4, 1, 0] rfl)
set_option maxHeartbeats 4000000 in
set_option maxRecDepth 100000 in
/-- got -/
theorem c1_got (l : Launch) {D : va_G} {ad : Nat → Nat} {cI : ClassId} {M : Mdl} {th : Int32} (hI : Inv M) {f t u : Nat} (hf : f < M 0 0) (ht : t < M 0 0) (hu : u ≤ 5000) : Met l yX1_got wsX1_got (rmP 0) (va_Pc [.ref (ad 0), .int (nI (f)), .int (nI (t)), .int (nI (u))] (KP1 D ad cI M th)) (vp_Si (fun r_ => r_ = nI (gt M f t u))) 0 0 (fun _ => False) := by
  refine mk_Si (post := fun r_ => r_ = nI (gt M f t u)) (cc := cX1_got) (maxL := 4) (by decide) rfl (Nat.le_of_ble_eq_true rfl) ?_
  intro p e s m args below meth c Q C0 B0 hret ls hl
  obtain ⟨hx, hb, hr, hml, hown, hts, hlocks⟩ := C0
  have hown : s.vm.findClass RX1 = some m.cls := hown
  obtain ⟨hK, hP⟩ := B0
  have hw0 : ∀ w ∈ wsX10, w.before args s = true := fun w h => hts w ((by decide +kernel : ∀ w ∈ wsX10, w ∈ wsX1_got) w h)
  have b_nw := hI.nw
  have b_nv := hI.nv
  have hl : lv_has ls 4 [(0, .ref (ad 0)), (1, .int (nI (f))), (2, .int (nI (t))), (3, .int (nI (u)))] := hl
  refine lv_iload_n hx hb dX1_got_0 rfl (lv_at hl 3 rfl) ?_
  refine lv_aload_n hx hb dX1_got_1 rfl (lv_at hl 0 rfl) ?_
  refine zg1 hx hb hw0 hown hK hP (by decide) rfl 9 (by decide) (hts (.fieldLink RX1 31 "WellFieldModel" "ratio" "[I") (by decide +kernel)) rfl rfl dX1_got_2 ?_
  refine lv_iconst (v := nI 3) hx hb dX1_got_5 (by decide) ?_
  refine lv_aload_n hx hb dX1_got_6 rfl (lv_at hl 0 rfl) ?_
  refine zg1 hx hb hw0 hown hK hP (by decide) rfl 2 (by decide) (hts (.fieldLink RX1 13 "WellFieldModel" "zone" "[I") (by decide +kernel)) rfl rfl dX1_got_7 ?_
  refine lv_iload_n hx hb dX1_got_10 rfl (lv_at hl 1 rfl) ?_
  refine zi_ld hx hb hK hP 2 (by decide) 0 rfl rfl (by decide) (i := f) (by omega) (v := nI (M 2 (f))) rfl dX1_got_11 ?_
  have f_1 := hI.zo (f)
  refine zr_imul hx hb dX1_got_12 ?_
  refine lv_aload_n hx hb dX1_got_13 rfl (lv_at hl 0 rfl) ?_
  refine zg1 hx hb hw0 hown hK hP (by decide) rfl 2 (by decide) (hts (.fieldLink RX1 13 "WellFieldModel" "zone" "[I") (by decide +kernel)) rfl rfl dX1_got_14 ?_
  refine lv_iload_n hx hb dX1_got_17 rfl (lv_at hl 2 rfl) ?_
  refine zi_ld hx hb hK hP 2 (by decide) 0 rfl rfl (by decide) (i := t) (by omega) (v := nI (M 2 (t))) rfl dX1_got_18 ?_
  have f_2 := hI.zo (t)
  refine zr_iadd hx hb dX1_got_19 ?_
  refine zi_ld hx hb hK hP 8 (by decide) 0 rfl rfl (by decide) (i := ((3) * (M 2 (f))) + (M 2 (t))) (by omega) (v := nI (M (12 + 3 * (M 2 (f))) (M 2 (t)))) (fl_ra (by omega)) dX1_got_20 ?_
  have f_3 := hI.ra (M 2 (f)) (by omega) (M 2 (t))
  refine zr_imul hx hb dX1_got_21 ?_
  refine lv_bipush (v := nI 100) hx hb dX1_got_22 (by decide) ?_
  refine zr_idiv hx hb (by have := (gt_le hI f t hu).1; omega) (by omega) (by omega) dX1_got_24 ?_
  exact hret rfl dX1_got_25
set_option maxHeartbeats 4000000 in
set_option maxRecDepth 100000 in
/-- can -/
theorem c1_can (l : Launch) {D : va_G} {ad : Nat → Nat} {cI : ClassId} {M : Mdl} {th : Int32} (hI : Inv M) {f t u : Nat} (hf : f < M 0 0) (ht : t < M 0 0) (hu : u ≤ 5000) : Met l yX1_can wsX1_can (rmP 2) (va_Pc [.ref (ad 0), .int (nI (f)), .int (nI (t)), .int (nI (u))] (KP1 D ad cI M th)) (vp_Si (fun r => ∃ b : Bool, r = bB b ∧ b = cn M f t u)) 0 0 (fun _ => False) := by
  refine mk_Sz (post := fun b => b = cn M f t u) (cc := cX1_can) (maxL := 7) (by decide) rfl (Nat.le_of_ble_eq_true rfl) ?_
  intro p e s m args below meth c Q C0 B0 hret ls hl
  obtain ⟨hx, hb, hr, hml, hown, hts, hlocks⟩ := C0
  have hown : s.vm.findClass RX1 = some m.cls := hown
  obtain ⟨hK, hP⟩ := B0
  have hw0 : ∀ w ∈ wsX10, w.before args s = true := fun w h => hts w ((by decide +kernel : ∀ w ∈ wsX10, w ∈ wsX1_can) w h)
  have b_nw := hI.nw
  have b_nv := hI.nv
  have b_gt := (gt_le hI f t hu).2
  have hl : lv_has ls 7 [(0, .ref (ad 0)), (1, .int (nI (f))), (2, .int (nI (t))), (3, .int (nI (u)))] := hl
  refine lv_aload_n hx hb dX1_can_0 rfl (lv_at hl 0 rfl) ?_
  refine lv_iload_n hx hb dX1_can_1 rfl (lv_at hl 1 rfl) ?_
  refine lv_iload_n hx hb dX1_can_2 rfl (lv_at hl 2 rfl) ?_
  refine lv_iload_n hx hb dX1_can_3 rfl (lv_at hl 3 rfl) ?_
  refine vp_callSi (W.runV (As := [.int (nI (f)), .int (nI (t)), .int (nI (u))]) (rest := []) ⟨hx, hb, hml, hown, hts⟩ (c1_got l hI (f := f) (t := t) (u := u) (by omega) (by omega) (by omega)) (cwV 3 hts gX1_can_X1_got rfl rfl rfl (by decide +kernel) (by decide)) (pv1 hK hP) rfl rfl hl.1 rfl (lv_room (Nat.le_of_ble_eq_true rfl)) dX1_can_4 (by decide)) (fun r_1 hr_1 => ?_)
  subst hr_1
  have f_2 := (gt_le hI (f) (t) (u := u) (by omega)).2
  refine lv_istore (lv' := [(4, .int (nI (gt M (f) (t) (u)))), (0, .ref (ad 0)), (1, .int (nI (f))), (2, .int (nI (t))), (3, .int (nI (u)))]) hx hb dX1_can_7 hl (by decide) rfl (fun ls hl => ?_)
  refine lv_aload_n hx hb dX1_can_9 rfl (lv_at hl 1 rfl) ?_
  refine zg1 hx hb hw0 hown hK hP (by decide) rfl 3 (by decide) (hts (.fieldLink RX1 16 "WellFieldModel" "licence" "[I") (by decide +kernel)) rfl rfl dX1_can_10 ?_
  refine lv_iload_n hx hb dX1_can_13 rfl (lv_at hl 2 rfl) ?_
  refine zi_ld hx hb hK hP 3 (by decide) 0 rfl rfl (by decide) (i := f) (by omega) (v := nI (M 3 (f))) rfl dX1_can_14 ?_
  have f_3 := hI.li (f)
  refine lv_iload_n hx hb dX1_can_15 rfl (lv_at hl 4 rfl) ?_
  refine zb_lt (tgt := 38) hx hb (by omega) (by omega) dX1_can_16 (by decide) (fun c_4 => ?_) (fun c_4 => ?_)
  · skip
    refine lv_iconst (v := nI 0) hx hb dX1_can_38 (by decide) ?_
    refine zt_i (y := bB (decide (u ≤ M 3 f) && decide (M 3 t + gt M f t u ≤ 20000) && cnv M f t u 0)) (bB_0.trans (congrArg bB (by first | rw [decide_eq_false (show ¬ u ≤ M 3 f by omega), Bool.false_and, Bool.false_and] | rw [decide_eq_false (show ¬ M 3 t + gt M f t u ≤ 20000 by omega), Bool.and_false, Bool.false_and]))) ?_
    refine lv_istore (lv' := [(5, .int (bB (decide (u ≤ M 3 f) && decide (M 3 t + gt M f t u ≤ 20000) && cnv M f t u 0))), (4, .int (nI (gt M (f) (t) (u)))), (0, .ref (ad 0)), (1, .int (nI (f))), (2, .int (nI (t))), (3, .int (nI (u)))]) hx hb dX1_can_39 hl (by decide) rfl (fun ls hl => ?_)
    refine lv_iconst (v := nI 0) hx hb dX1_can_41 (by decide) ?_
    refine lv_istore (lv' := [(6, .int (nI (0))), (5, .int (bB (decide (u ≤ M 3 f) && decide (M 3 t + gt M f t u ≤ 20000) && cnv M f t u 0))), (4, .int (nI (gt M (f) (t) (u)))), (0, .ref (ad 0)), (1, .int (nI (f))), (2, .int (nI (t))), (3, .int (nI (u)))]) hx hb dX1_can_42 hl (by decide) rfl (fun ls hl => ?_)
    have lp44 : ∀ (n v : Nat), v ≤ M 5 0 → M 5 0 - v < n → ∀ ls : Array Slot, lv_has ls 7 [(0, .ref (ad 0)), (1, .int (nI (f))), (2, .int (nI (t))), (3, .int (nI (u))), (4, .int (nI (gt M (f) (t) (u)))), (5, .int (bB (decide (u ≤ M 3 f) && decide (M 3 t + gt M f t u ≤ 20000) && cnv M f t u (v)))), (6, .int (nI (v)))] → W p l e (rmP 2) s m args below meth c s.heap [] 0 0 Q (F0 m 44 ls []) := by
      intro n
      induction n with
      | zero => intro v q1 q2; omega
      | succ n ih44 =>
        intro v q1_44 q2_44 ls hl
        refine lv_iload hx hb dX1_can_44 (lv_at hl 6 rfl) ?_
        refine lv_aload_n hx hb dX1_can_46 rfl (lv_at hl 0 rfl) ?_
        refine zg1 hx hb hw0 hown hK hP (by decide) rfl 5 (by decide) (hts (.fieldLink RX1 45 "WellFieldModel" "watches" "I") (by decide +kernel)) rfl rfl dX1_can_47 ?_
        refine zb_ge (tgt := 98) hx hb (by omega) (by omega) dX1_can_50 (by decide) (fun c_5 => ?_) (fun c_5 => ?_)
        · skip
          have q_6 : v = M 5 0 := by omega
          subst q_6
          refine lv_iload hx hb dX1_can_98 (lv_at hl 5 rfl) ?_
          exact hret (b := decide (u ≤ M 3 f) && decide (M 3 t + gt M f t u ≤ 20000) && cnv M f t u (M 5 0)) rfl rfl dX1_can_100
        · skip
          refine lv_iload hx hb dX1_can_53 (lv_at hl 5 rfl) ?_
          refine zb_Beq (tgt := 89) hx hb dX1_can_55 (by decide) (fun c_7 => ?_) (fun c_7 => ?_)
          · skip
            refine lv_iconst (v := nI 0) hx hb dX1_can_89 (by decide) ?_
            have e90 : (decide (u ≤ M 3 f) && decide (M 3 t + gt M f t u ≤ 20000) && cnv M f t u (v + 1)) = ((decide (u ≤ M 3 f) && decide (M 3 t + gt M f t u ≤ 20000) && cnv M f t u v) && decide (gt M f t u * als M t v ≤ u * als M f v)) := (Bool.and_assoc _ _ _).symm
            refine zt_i (y := bB (decide (u ≤ M 3 f) && decide (M 3 t + gt M f t u ≤ 20000) && cnv M f t u (v + 1))) (bB_0.trans (congrArg bB (by rw [e90, c_7]; rfl))) ?_
            refine lv_istore (lv' := [(5, .int (bB (decide (u ≤ M 3 f) && decide (M 3 t + gt M f t u ≤ 20000) && cnv M f t u (v + 1)))), (0, .ref (ad 0)), (1, .int (nI (f))), (2, .int (nI (t))), (3, .int (nI (u))), (4, .int (nI (gt M (f) (t) (u)))), (6, .int (nI (v)))]) hx hb dX1_can_90 hl (by decide) rfl (fun ls hl => ?_)
            refine lv_iinc (v := nI (v + 1)) (lv' := [(6, .int (nI (v + 1))), (5, .int (bB (decide (u ≤ M 3 f) && decide (M 3 t + gt M f t u ≤ 20000) && cnv M f t u (v + 1)))), (0, .ref (ad 0)), (1, .int (nI (f))), (2, .int (nI (t))), (3, .int (nI (u))), (4, .int (nI (gt M (f) (t) (u))))]) hx hb dX1_can_92 hl (k := 6) rfl (zn_inc (v)) (by decide) rfl (fun ls hl => ?_)
            refine lv_goto (tgt := 44) hx hb dX1_can_95 (by decide) ?_
            exact ih44 (v + 1) (by omega) (by omega) _ (lv_sub hl [2, 3, 4, 5, 6, 1, 0] rfl)
          · skip
            refine lv_iload hx hb dX1_can_58 (lv_at hl 4 rfl) ?_
            refine zr_i2l hx hb (by omega) dX1_can_60 ?_
            refine lv_aload_n hx hb dX1_can_61 rfl (lv_at hl 0 rfl) ?_
            refine lv_iload_n hx hb dX1_can_62 rfl (lv_at hl 2 rfl) ?_
            refine lv_iload hx hb dX1_can_63 (lv_at hl 6 rfl) ?_
            refine vp_callSi (W.runV (As := [.int (nI (t)), .int (nI (v))]) (rest := [.long (lN (gt M (f) (t) (u)))]) ⟨hx, hb, hml, hown, hts⟩ (c1_allOf l hI (w := t) (v := v) (by omega) (by omega)) (cwV 2 hts gX1_can_X1_allOf rfl rfl rfl (by decide +kernel) (by decide)) (pv1 hK hP) rfl rfl hl.1 rfl (lv_room (Nat.le_of_ble_eq_true rfl)) dX1_can_65 (by decide)) (fun r_8 hr_8 => ?_)
            subst hr_8
            have f_9 := als_le hI (t) (v)
            refine zr_i2l hx hb (by omega) dX1_can_68 ?_
            refine zr_lmul hx hb dX1_can_69 ?_
            refine lv_iload_n hx hb dX1_can_70 rfl (lv_at hl 3 rfl) ?_
            refine zr_i2l hx hb (by omega) dX1_can_71 ?_
            refine lv_aload_n hx hb dX1_can_72 rfl (lv_at hl 0 rfl) ?_
            refine lv_iload_n hx hb dX1_can_73 rfl (lv_at hl 1 rfl) ?_
            refine lv_iload hx hb dX1_can_74 (lv_at hl 6 rfl) ?_
            refine vp_callSi (W.runV (As := [.int (nI (f)), .int (nI (v))]) (rest := [.long (lN (u)), .long (lN ((gt M (f) (t) (u)) * (als M (t) (v))))]) ⟨hx, hb, hml, hown, hts⟩ (c1_allOf l hI (w := f) (v := v) (by omega) (by omega)) (cwV 2 hts gX1_can_X1_allOf rfl rfl rfl (by decide +kernel) (by decide)) (pv1 hK hP) rfl rfl hl.1 rfl (lv_room (Nat.le_of_ble_eq_true rfl)) dX1_can_76 (by decide)) (fun r_10 hr_10 => ?_)
            subst hr_10
            have f_11 := als_le hI (f) (v)
            refine zr_i2l hx hb (by omega) dX1_can_79 ?_
            refine zr_lmul hx hb dX1_can_80 ?_
            refine zbL_gt (tgt := 89) hx hb (by have h1 := als_le hI t v; have h2 := Nat.mul_le_mul b_gt h1; omega) (by have h1 := als_le hI f v; have h2 := Nat.mul_le_mul hu h1; omega) dX1_can_81 dX1_can_82 (by decide) (fun c_12 => ?_) (fun c_12 => ?_)
            · skip
              refine lv_iconst (v := nI 0) hx hb dX1_can_89 (by decide) ?_
              have e90 : (decide (u ≤ M 3 f) && decide (M 3 t + gt M f t u ≤ 20000) && cnv M f t u (v + 1)) = ((decide (u ≤ M 3 f) && decide (M 3 t + gt M f t u ≤ 20000) && cnv M f t u v) && decide (gt M f t u * als M t v ≤ u * als M f v)) := (Bool.and_assoc _ _ _).symm
              refine zt_i (y := bB (decide (u ≤ M 3 f) && decide (M 3 t + gt M f t u ≤ 20000) && cnv M f t u (v + 1))) (bB_0.trans (congrArg bB (by rw [e90, decide_eq_false (show ¬ gt M f t u * als M t v ≤ u * als M f v by omega), Bool.and_false]))) ?_
              refine lv_istore (lv' := [(5, .int (bB (decide (u ≤ M 3 f) && decide (M 3 t + gt M f t u ≤ 20000) && cnv M f t u (v + 1)))), (0, .ref (ad 0)), (1, .int (nI (f))), (2, .int (nI (t))), (3, .int (nI (u))), (4, .int (nI (gt M (f) (t) (u)))), (6, .int (nI (v)))]) hx hb dX1_can_90 hl (by decide) rfl (fun ls hl => ?_)
              refine lv_iinc (v := nI (v + 1)) (lv' := [(6, .int (nI (v + 1))), (5, .int (bB (decide (u ≤ M 3 f) && decide (M 3 t + gt M f t u ≤ 20000) && cnv M f t u (v + 1)))), (0, .ref (ad 0)), (1, .int (nI (f))), (2, .int (nI (t))), (3, .int (nI (u))), (4, .int (nI (gt M (f) (t) (u))))]) hx hb dX1_can_92 hl (k := 6) rfl (zn_inc (v)) (by decide) rfl (fun ls hl => ?_)
              refine lv_goto (tgt := 44) hx hb dX1_can_95 (by decide) ?_
              exact ih44 (v + 1) (by omega) (by omega) _ (lv_sub hl [2, 3, 4, 5, 6, 1, 0] rfl)
            · skip
              refine lv_iconst (v := nI 1) hx hb dX1_can_85 (by decide) ?_
              refine lv_goto (tgt := 90) hx hb dX1_can_86 (by decide) ?_
              have e90 : (decide (u ≤ M 3 f) && decide (M 3 t + gt M f t u ≤ 20000) && cnv M f t u (v + 1)) = ((decide (u ≤ M 3 f) && decide (M 3 t + gt M f t u ≤ 20000) && cnv M f t u v) && decide (gt M f t u * als M t v ≤ u * als M f v)) := (Bool.and_assoc _ _ _).symm
              refine zt_i (y := bB (decide (u ≤ M 3 f) && decide (M 3 t + gt M f t u ≤ 20000) && cnv M f t u (v + 1))) (bB_1.trans (congrArg bB (by rw [e90, c_7, decide_eq_true (by omega)]; rfl))) ?_
              refine lv_istore (lv' := [(5, .int (bB (decide (u ≤ M 3 f) && decide (M 3 t + gt M f t u ≤ 20000) && cnv M f t u (v + 1)))), (0, .ref (ad 0)), (1, .int (nI (f))), (2, .int (nI (t))), (3, .int (nI (u))), (4, .int (nI (gt M (f) (t) (u)))), (6, .int (nI (v)))]) hx hb dX1_can_90 hl (by decide) rfl (fun ls hl => ?_)
              refine lv_iinc (v := nI (v + 1)) (lv' := [(6, .int (nI (v + 1))), (5, .int (bB (decide (u ≤ M 3 f) && decide (M 3 t + gt M f t u ≤ 20000) && cnv M f t u (v + 1)))), (0, .ref (ad 0)), (1, .int (nI (f))), (2, .int (nI (t))), (3, .int (nI (u))), (4, .int (nI (gt M (f) (t) (u))))]) hx hb dX1_can_92 hl (k := 6) rfl (zn_inc (v)) (by decide) rfl (fun ls hl => ?_)
              refine lv_goto (tgt := 44) hx hb dX1_can_95 (by decide) ?_
              exact ih44 (v + 1) (by omega) (by omega) _ (lv_sub hl [2, 3, 4, 5, 6, 1, 0] rfl)
    exact lp44 (M 5 0 - (0) + 1) (0) (by omega) (by omega) _ (lv_sub hl [3, 4, 5, 6, 2, 1, 0] rfl)
  · skip
    refine lv_aload_n hx hb dX1_can_19 rfl (lv_at hl 1 rfl) ?_
    refine zg1 hx hb hw0 hown hK hP (by decide) rfl 3 (by decide) (hts (.fieldLink RX1 16 "WellFieldModel" "licence" "[I") (by decide +kernel)) rfl rfl dX1_can_20 ?_
    refine lv_iload_n hx hb dX1_can_23 rfl (lv_at hl 3 rfl) ?_
    refine zi_ld hx hb hK hP 3 (by decide) 0 rfl rfl (by decide) (i := t) (by omega) (v := nI (M 3 (t))) rfl dX1_can_24 ?_
    have f_13 := hI.li (t)
    refine lv_iload hx hb dX1_can_25 (lv_at hl 0 rfl) ?_
    refine zr_iadd hx hb dX1_can_27 ?_
    refine lv_sipush (v := nI 20000) hx hb dX1_can_28 (by decide) ?_
    refine zb_gt (tgt := 38) hx hb (by omega) (by omega) dX1_can_31 (by decide) (fun c_14 => ?_) (fun c_14 => ?_)
    · skip
      refine lv_iconst (v := nI 0) hx hb dX1_can_38 (by decide) ?_
      refine zt_i (y := bB (decide (u ≤ M 3 f) && decide (M 3 t + gt M f t u ≤ 20000) && cnv M f t u 0)) (bB_0.trans (congrArg bB (by first | rw [decide_eq_false (show ¬ u ≤ M 3 f by omega), Bool.false_and, Bool.false_and] | rw [decide_eq_false (show ¬ M 3 t + gt M f t u ≤ 20000 by omega), Bool.and_false, Bool.false_and]))) ?_
      refine lv_istore (lv' := [(5, .int (bB (decide (u ≤ M 3 f) && decide (M 3 t + gt M f t u ≤ 20000) && cnv M f t u 0))), (4, .int (nI (gt M (f) (t) (u)))), (0, .ref (ad 0)), (1, .int (nI (f))), (2, .int (nI (t))), (3, .int (nI (u)))]) hx hb dX1_can_39 hl (by decide) rfl (fun ls hl => ?_)
      refine lv_iconst (v := nI 0) hx hb dX1_can_41 (by decide) ?_
      refine lv_istore (lv' := [(6, .int (nI (0))), (5, .int (bB (decide (u ≤ M 3 f) && decide (M 3 t + gt M f t u ≤ 20000) && cnv M f t u 0))), (4, .int (nI (gt M (f) (t) (u)))), (0, .ref (ad 0)), (1, .int (nI (f))), (2, .int (nI (t))), (3, .int (nI (u)))]) hx hb dX1_can_42 hl (by decide) rfl (fun ls hl => ?_)
      have lp44 : ∀ (n v : Nat), v ≤ M 5 0 → M 5 0 - v < n → ∀ ls : Array Slot, lv_has ls 7 [(0, .ref (ad 0)), (1, .int (nI (f))), (2, .int (nI (t))), (3, .int (nI (u))), (4, .int (nI (gt M (f) (t) (u)))), (5, .int (bB (decide (u ≤ M 3 f) && decide (M 3 t + gt M f t u ≤ 20000) && cnv M f t u (v)))), (6, .int (nI (v)))] → W p l e (rmP 2) s m args below meth c s.heap [] 0 0 Q (F0 m 44 ls []) := by
        intro n
        induction n with
        | zero => intro v q1 q2; omega
        | succ n ih44 =>
          intro v q1_44 q2_44 ls hl
          refine lv_iload hx hb dX1_can_44 (lv_at hl 6 rfl) ?_
          refine lv_aload_n hx hb dX1_can_46 rfl (lv_at hl 0 rfl) ?_
          refine zg1 hx hb hw0 hown hK hP (by decide) rfl 5 (by decide) (hts (.fieldLink RX1 45 "WellFieldModel" "watches" "I") (by decide +kernel)) rfl rfl dX1_can_47 ?_
          refine zb_ge (tgt := 98) hx hb (by omega) (by omega) dX1_can_50 (by decide) (fun c_15 => ?_) (fun c_15 => ?_)
          · skip
            have q_16 : v = M 5 0 := by omega
            subst q_16
            refine lv_iload hx hb dX1_can_98 (lv_at hl 5 rfl) ?_
            exact hret (b := decide (u ≤ M 3 f) && decide (M 3 t + gt M f t u ≤ 20000) && cnv M f t u (M 5 0)) rfl rfl dX1_can_100
          · skip
            refine lv_iload hx hb dX1_can_53 (lv_at hl 5 rfl) ?_
            refine zb_Beq (tgt := 89) hx hb dX1_can_55 (by decide) (fun c_17 => ?_) (fun c_17 => ?_)
            · skip
              refine lv_iconst (v := nI 0) hx hb dX1_can_89 (by decide) ?_
              have e90 : (decide (u ≤ M 3 f) && decide (M 3 t + gt M f t u ≤ 20000) && cnv M f t u (v + 1)) = ((decide (u ≤ M 3 f) && decide (M 3 t + gt M f t u ≤ 20000) && cnv M f t u v) && decide (gt M f t u * als M t v ≤ u * als M f v)) := (Bool.and_assoc _ _ _).symm
              refine zt_i (y := bB (decide (u ≤ M 3 f) && decide (M 3 t + gt M f t u ≤ 20000) && cnv M f t u (v + 1))) (bB_0.trans (congrArg bB (by rw [e90, c_17]; rfl))) ?_
              refine lv_istore (lv' := [(5, .int (bB (decide (u ≤ M 3 f) && decide (M 3 t + gt M f t u ≤ 20000) && cnv M f t u (v + 1)))), (0, .ref (ad 0)), (1, .int (nI (f))), (2, .int (nI (t))), (3, .int (nI (u))), (4, .int (nI (gt M (f) (t) (u)))), (6, .int (nI (v)))]) hx hb dX1_can_90 hl (by decide) rfl (fun ls hl => ?_)
              refine lv_iinc (v := nI (v + 1)) (lv' := [(6, .int (nI (v + 1))), (5, .int (bB (decide (u ≤ M 3 f) && decide (M 3 t + gt M f t u ≤ 20000) && cnv M f t u (v + 1)))), (0, .ref (ad 0)), (1, .int (nI (f))), (2, .int (nI (t))), (3, .int (nI (u))), (4, .int (nI (gt M (f) (t) (u))))]) hx hb dX1_can_92 hl (k := 6) rfl (zn_inc (v)) (by decide) rfl (fun ls hl => ?_)
              refine lv_goto (tgt := 44) hx hb dX1_can_95 (by decide) ?_
              exact ih44 (v + 1) (by omega) (by omega) _ (lv_sub hl [2, 3, 4, 5, 6, 1, 0] rfl)
            · skip
              refine lv_iload hx hb dX1_can_58 (lv_at hl 4 rfl) ?_
              refine zr_i2l hx hb (by omega) dX1_can_60 ?_
              refine lv_aload_n hx hb dX1_can_61 rfl (lv_at hl 0 rfl) ?_
              refine lv_iload_n hx hb dX1_can_62 rfl (lv_at hl 2 rfl) ?_
              refine lv_iload hx hb dX1_can_63 (lv_at hl 6 rfl) ?_
              refine vp_callSi (W.runV (As := [.int (nI (t)), .int (nI (v))]) (rest := [.long (lN (gt M (f) (t) (u)))]) ⟨hx, hb, hml, hown, hts⟩ (c1_allOf l hI (w := t) (v := v) (by omega) (by omega)) (cwV 2 hts gX1_can_X1_allOf rfl rfl rfl (by decide +kernel) (by decide)) (pv1 hK hP) rfl rfl hl.1 rfl (lv_room (Nat.le_of_ble_eq_true rfl)) dX1_can_65 (by decide)) (fun r_18 hr_18 => ?_)
              subst hr_18
              have f_19 := als_le hI (t) (v)
              refine zr_i2l hx hb (by omega) dX1_can_68 ?_
              refine zr_lmul hx hb dX1_can_69 ?_
              refine lv_iload_n hx hb dX1_can_70 rfl (lv_at hl 3 rfl) ?_
              refine zr_i2l hx hb (by omega) dX1_can_71 ?_
              refine lv_aload_n hx hb dX1_can_72 rfl (lv_at hl 0 rfl) ?_
              refine lv_iload_n hx hb dX1_can_73 rfl (lv_at hl 1 rfl) ?_
              refine lv_iload hx hb dX1_can_74 (lv_at hl 6 rfl) ?_
              refine vp_callSi (W.runV (As := [.int (nI (f)), .int (nI (v))]) (rest := [.long (lN (u)), .long (lN ((gt M (f) (t) (u)) * (als M (t) (v))))]) ⟨hx, hb, hml, hown, hts⟩ (c1_allOf l hI (w := f) (v := v) (by omega) (by omega)) (cwV 2 hts gX1_can_X1_allOf rfl rfl rfl (by decide +kernel) (by decide)) (pv1 hK hP) rfl rfl hl.1 rfl (lv_room (Nat.le_of_ble_eq_true rfl)) dX1_can_76 (by decide)) (fun r_20 hr_20 => ?_)
              subst hr_20
              have f_21 := als_le hI (f) (v)
              refine zr_i2l hx hb (by omega) dX1_can_79 ?_
              refine zr_lmul hx hb dX1_can_80 ?_
              refine zbL_gt (tgt := 89) hx hb (by have h1 := als_le hI t v; have h2 := Nat.mul_le_mul b_gt h1; omega) (by have h1 := als_le hI f v; have h2 := Nat.mul_le_mul hu h1; omega) dX1_can_81 dX1_can_82 (by decide) (fun c_22 => ?_) (fun c_22 => ?_)
              · skip
                refine lv_iconst (v := nI 0) hx hb dX1_can_89 (by decide) ?_
                have e90 : (decide (u ≤ M 3 f) && decide (M 3 t + gt M f t u ≤ 20000) && cnv M f t u (v + 1)) = ((decide (u ≤ M 3 f) && decide (M 3 t + gt M f t u ≤ 20000) && cnv M f t u v) && decide (gt M f t u * als M t v ≤ u * als M f v)) := (Bool.and_assoc _ _ _).symm
                refine zt_i (y := bB (decide (u ≤ M 3 f) && decide (M 3 t + gt M f t u ≤ 20000) && cnv M f t u (v + 1))) (bB_0.trans (congrArg bB (by rw [e90, decide_eq_false (show ¬ gt M f t u * als M t v ≤ u * als M f v by omega), Bool.and_false]))) ?_
                refine lv_istore (lv' := [(5, .int (bB (decide (u ≤ M 3 f) && decide (M 3 t + gt M f t u ≤ 20000) && cnv M f t u (v + 1)))), (0, .ref (ad 0)), (1, .int (nI (f))), (2, .int (nI (t))), (3, .int (nI (u))), (4, .int (nI (gt M (f) (t) (u)))), (6, .int (nI (v)))]) hx hb dX1_can_90 hl (by decide) rfl (fun ls hl => ?_)
                refine lv_iinc (v := nI (v + 1)) (lv' := [(6, .int (nI (v + 1))), (5, .int (bB (decide (u ≤ M 3 f) && decide (M 3 t + gt M f t u ≤ 20000) && cnv M f t u (v + 1)))), (0, .ref (ad 0)), (1, .int (nI (f))), (2, .int (nI (t))), (3, .int (nI (u))), (4, .int (nI (gt M (f) (t) (u))))]) hx hb dX1_can_92 hl (k := 6) rfl (zn_inc (v)) (by decide) rfl (fun ls hl => ?_)
                refine lv_goto (tgt := 44) hx hb dX1_can_95 (by decide) ?_
                exact ih44 (v + 1) (by omega) (by omega) _ (lv_sub hl [2, 3, 4, 5, 6, 1, 0] rfl)
              · skip
                refine lv_iconst (v := nI 1) hx hb dX1_can_85 (by decide) ?_
                refine lv_goto (tgt := 90) hx hb dX1_can_86 (by decide) ?_
                have e90 : (decide (u ≤ M 3 f) && decide (M 3 t + gt M f t u ≤ 20000) && cnv M f t u (v + 1)) = ((decide (u ≤ M 3 f) && decide (M 3 t + gt M f t u ≤ 20000) && cnv M f t u v) && decide (gt M f t u * als M t v ≤ u * als M f v)) := (Bool.and_assoc _ _ _).symm
                refine zt_i (y := bB (decide (u ≤ M 3 f) && decide (M 3 t + gt M f t u ≤ 20000) && cnv M f t u (v + 1))) (bB_1.trans (congrArg bB (by rw [e90, c_17, decide_eq_true (by omega)]; rfl))) ?_
                refine lv_istore (lv' := [(5, .int (bB (decide (u ≤ M 3 f) && decide (M 3 t + gt M f t u ≤ 20000) && cnv M f t u (v + 1)))), (0, .ref (ad 0)), (1, .int (nI (f))), (2, .int (nI (t))), (3, .int (nI (u))), (4, .int (nI (gt M (f) (t) (u)))), (6, .int (nI (v)))]) hx hb dX1_can_90 hl (by decide) rfl (fun ls hl => ?_)
                refine lv_iinc (v := nI (v + 1)) (lv' := [(6, .int (nI (v + 1))), (5, .int (bB (decide (u ≤ M 3 f) && decide (M 3 t + gt M f t u ≤ 20000) && cnv M f t u (v + 1)))), (0, .ref (ad 0)), (1, .int (nI (f))), (2, .int (nI (t))), (3, .int (nI (u))), (4, .int (nI (gt M (f) (t) (u))))]) hx hb dX1_can_92 hl (k := 6) rfl (zn_inc (v)) (by decide) rfl (fun ls hl => ?_)
                refine lv_goto (tgt := 44) hx hb dX1_can_95 (by decide) ?_
                exact ih44 (v + 1) (by omega) (by omega) _ (lv_sub hl [2, 3, 4, 5, 6, 1, 0] rfl)
      exact lp44 (M 5 0 - (0) + 1) (0) (by omega) (by omega) _ (lv_sub hl [3, 4, 5, 6, 2, 1, 0] rfl)
    · skip
      refine lv_iconst (v := nI 1) hx hb dX1_can_34 (by decide) ?_
      refine lv_goto (tgt := 39) hx hb dX1_can_35 (by decide) ?_
      refine zt_i (y := bB (decide (u ≤ M 3 f) && decide (M 3 t + gt M f t u ≤ 20000) && cnv M f t u 0)) (bB_1.trans (congrArg bB (by rw [decide_eq_true (by omega), decide_eq_true (by omega)]; rfl))) ?_
      refine lv_istore (lv' := [(5, .int (bB (decide (u ≤ M 3 f) && decide (M 3 t + gt M f t u ≤ 20000) && cnv M f t u 0))), (4, .int (nI (gt M (f) (t) (u)))), (0, .ref (ad 0)), (1, .int (nI (f))), (2, .int (nI (t))), (3, .int (nI (u)))]) hx hb dX1_can_39 hl (by decide) rfl (fun ls hl => ?_)
      refine lv_iconst (v := nI 0) hx hb dX1_can_41 (by decide) ?_
      refine lv_istore (lv' := [(6, .int (nI (0))), (5, .int (bB (decide (u ≤ M 3 f) && decide (M 3 t + gt M f t u ≤ 20000) && cnv M f t u 0))), (4, .int (nI (gt M (f) (t) (u)))), (0, .ref (ad 0)), (1, .int (nI (f))), (2, .int (nI (t))), (3, .int (nI (u)))]) hx hb dX1_can_42 hl (by decide) rfl (fun ls hl => ?_)
      have lp44 : ∀ (n v : Nat), v ≤ M 5 0 → M 5 0 - v < n → ∀ ls : Array Slot, lv_has ls 7 [(0, .ref (ad 0)), (1, .int (nI (f))), (2, .int (nI (t))), (3, .int (nI (u))), (4, .int (nI (gt M (f) (t) (u)))), (5, .int (bB (decide (u ≤ M 3 f) && decide (M 3 t + gt M f t u ≤ 20000) && cnv M f t u (v)))), (6, .int (nI (v)))] → W p l e (rmP 2) s m args below meth c s.heap [] 0 0 Q (F0 m 44 ls []) := by
        intro n
        induction n with
        | zero => intro v q1 q2; omega
        | succ n ih44 =>
          intro v q1_44 q2_44 ls hl
          refine lv_iload hx hb dX1_can_44 (lv_at hl 6 rfl) ?_
          refine lv_aload_n hx hb dX1_can_46 rfl (lv_at hl 0 rfl) ?_
          refine zg1 hx hb hw0 hown hK hP (by decide) rfl 5 (by decide) (hts (.fieldLink RX1 45 "WellFieldModel" "watches" "I") (by decide +kernel)) rfl rfl dX1_can_47 ?_
          refine zb_ge (tgt := 98) hx hb (by omega) (by omega) dX1_can_50 (by decide) (fun c_23 => ?_) (fun c_23 => ?_)
          · skip
            have q_24 : v = M 5 0 := by omega
            subst q_24
            refine lv_iload hx hb dX1_can_98 (lv_at hl 5 rfl) ?_
            exact hret (b := decide (u ≤ M 3 f) && decide (M 3 t + gt M f t u ≤ 20000) && cnv M f t u (M 5 0)) rfl rfl dX1_can_100
          · skip
            refine lv_iload hx hb dX1_can_53 (lv_at hl 5 rfl) ?_
            refine zb_Beq (tgt := 89) hx hb dX1_can_55 (by decide) (fun c_25 => ?_) (fun c_25 => ?_)
            · skip
              refine lv_iconst (v := nI 0) hx hb dX1_can_89 (by decide) ?_
              have e90 : (decide (u ≤ M 3 f) && decide (M 3 t + gt M f t u ≤ 20000) && cnv M f t u (v + 1)) = ((decide (u ≤ M 3 f) && decide (M 3 t + gt M f t u ≤ 20000) && cnv M f t u v) && decide (gt M f t u * als M t v ≤ u * als M f v)) := (Bool.and_assoc _ _ _).symm
              refine zt_i (y := bB (decide (u ≤ M 3 f) && decide (M 3 t + gt M f t u ≤ 20000) && cnv M f t u (v + 1))) (bB_0.trans (congrArg bB (by rw [e90, c_25]; rfl))) ?_
              refine lv_istore (lv' := [(5, .int (bB (decide (u ≤ M 3 f) && decide (M 3 t + gt M f t u ≤ 20000) && cnv M f t u (v + 1)))), (0, .ref (ad 0)), (1, .int (nI (f))), (2, .int (nI (t))), (3, .int (nI (u))), (4, .int (nI (gt M (f) (t) (u)))), (6, .int (nI (v)))]) hx hb dX1_can_90 hl (by decide) rfl (fun ls hl => ?_)
              refine lv_iinc (v := nI (v + 1)) (lv' := [(6, .int (nI (v + 1))), (5, .int (bB (decide (u ≤ M 3 f) && decide (M 3 t + gt M f t u ≤ 20000) && cnv M f t u (v + 1)))), (0, .ref (ad 0)), (1, .int (nI (f))), (2, .int (nI (t))), (3, .int (nI (u))), (4, .int (nI (gt M (f) (t) (u))))]) hx hb dX1_can_92 hl (k := 6) rfl (zn_inc (v)) (by decide) rfl (fun ls hl => ?_)
              refine lv_goto (tgt := 44) hx hb dX1_can_95 (by decide) ?_
              exact ih44 (v + 1) (by omega) (by omega) _ (lv_sub hl [2, 3, 4, 5, 6, 1, 0] rfl)
            · skip
              refine lv_iload hx hb dX1_can_58 (lv_at hl 4 rfl) ?_
              refine zr_i2l hx hb (by omega) dX1_can_60 ?_
              refine lv_aload_n hx hb dX1_can_61 rfl (lv_at hl 0 rfl) ?_
              refine lv_iload_n hx hb dX1_can_62 rfl (lv_at hl 2 rfl) ?_
              refine lv_iload hx hb dX1_can_63 (lv_at hl 6 rfl) ?_
              refine vp_callSi (W.runV (As := [.int (nI (t)), .int (nI (v))]) (rest := [.long (lN (gt M (f) (t) (u)))]) ⟨hx, hb, hml, hown, hts⟩ (c1_allOf l hI (w := t) (v := v) (by omega) (by omega)) (cwV 2 hts gX1_can_X1_allOf rfl rfl rfl (by decide +kernel) (by decide)) (pv1 hK hP) rfl rfl hl.1 rfl (lv_room (Nat.le_of_ble_eq_true rfl)) dX1_can_65 (by decide)) (fun r_26 hr_26 => ?_)
              subst hr_26
              have f_27 := als_le hI (t) (v)
              refine zr_i2l hx hb (by omega) dX1_can_68 ?_
              refine zr_lmul hx hb dX1_can_69 ?_
              refine lv_iload_n hx hb dX1_can_70 rfl (lv_at hl 3 rfl) ?_
              refine zr_i2l hx hb (by omega) dX1_can_71 ?_
              refine lv_aload_n hx hb dX1_can_72 rfl (lv_at hl 0 rfl) ?_
              refine lv_iload_n hx hb dX1_can_73 rfl (lv_at hl 1 rfl) ?_
              refine lv_iload hx hb dX1_can_74 (lv_at hl 6 rfl) ?_
              refine vp_callSi (W.runV (As := [.int (nI (f)), .int (nI (v))]) (rest := [.long (lN (u)), .long (lN ((gt M (f) (t) (u)) * (als M (t) (v))))]) ⟨hx, hb, hml, hown, hts⟩ (c1_allOf l hI (w := f) (v := v) (by omega) (by omega)) (cwV 2 hts gX1_can_X1_allOf rfl rfl rfl (by decide +kernel) (by decide)) (pv1 hK hP) rfl rfl hl.1 rfl (lv_room (Nat.le_of_ble_eq_true rfl)) dX1_can_76 (by decide)) (fun r_28 hr_28 => ?_)
              subst hr_28
              have f_29 := als_le hI (f) (v)
              refine zr_i2l hx hb (by omega) dX1_can_79 ?_
              refine zr_lmul hx hb dX1_can_80 ?_
              refine zbL_gt (tgt := 89) hx hb (by have h1 := als_le hI t v; have h2 := Nat.mul_le_mul b_gt h1; omega) (by have h1 := als_le hI f v; have h2 := Nat.mul_le_mul hu h1; omega) dX1_can_81 dX1_can_82 (by decide) (fun c_30 => ?_) (fun c_30 => ?_)
              · skip
                refine lv_iconst (v := nI 0) hx hb dX1_can_89 (by decide) ?_
                have e90 : (decide (u ≤ M 3 f) && decide (M 3 t + gt M f t u ≤ 20000) && cnv M f t u (v + 1)) = ((decide (u ≤ M 3 f) && decide (M 3 t + gt M f t u ≤ 20000) && cnv M f t u v) && decide (gt M f t u * als M t v ≤ u * als M f v)) := (Bool.and_assoc _ _ _).symm
                refine zt_i (y := bB (decide (u ≤ M 3 f) && decide (M 3 t + gt M f t u ≤ 20000) && cnv M f t u (v + 1))) (bB_0.trans (congrArg bB (by rw [e90, decide_eq_false (show ¬ gt M f t u * als M t v ≤ u * als M f v by omega), Bool.and_false]))) ?_
                refine lv_istore (lv' := [(5, .int (bB (decide (u ≤ M 3 f) && decide (M 3 t + gt M f t u ≤ 20000) && cnv M f t u (v + 1)))), (0, .ref (ad 0)), (1, .int (nI (f))), (2, .int (nI (t))), (3, .int (nI (u))), (4, .int (nI (gt M (f) (t) (u)))), (6, .int (nI (v)))]) hx hb dX1_can_90 hl (by decide) rfl (fun ls hl => ?_)
                refine lv_iinc (v := nI (v + 1)) (lv' := [(6, .int (nI (v + 1))), (5, .int (bB (decide (u ≤ M 3 f) && decide (M 3 t + gt M f t u ≤ 20000) && cnv M f t u (v + 1)))), (0, .ref (ad 0)), (1, .int (nI (f))), (2, .int (nI (t))), (3, .int (nI (u))), (4, .int (nI (gt M (f) (t) (u))))]) hx hb dX1_can_92 hl (k := 6) rfl (zn_inc (v)) (by decide) rfl (fun ls hl => ?_)
                refine lv_goto (tgt := 44) hx hb dX1_can_95 (by decide) ?_
                exact ih44 (v + 1) (by omega) (by omega) _ (lv_sub hl [2, 3, 4, 5, 6, 1, 0] rfl)
              · skip
                refine lv_iconst (v := nI 1) hx hb dX1_can_85 (by decide) ?_
                refine lv_goto (tgt := 90) hx hb dX1_can_86 (by decide) ?_
                have e90 : (decide (u ≤ M 3 f) && decide (M 3 t + gt M f t u ≤ 20000) && cnv M f t u (v + 1)) = ((decide (u ≤ M 3 f) && decide (M 3 t + gt M f t u ≤ 20000) && cnv M f t u v) && decide (gt M f t u * als M t v ≤ u * als M f v)) := (Bool.and_assoc _ _ _).symm
                refine zt_i (y := bB (decide (u ≤ M 3 f) && decide (M 3 t + gt M f t u ≤ 20000) && cnv M f t u (v + 1))) (bB_1.trans (congrArg bB (by rw [e90, c_25, decide_eq_true (by omega)]; rfl))) ?_
                refine lv_istore (lv' := [(5, .int (bB (decide (u ≤ M 3 f) && decide (M 3 t + gt M f t u ≤ 20000) && cnv M f t u (v + 1)))), (0, .ref (ad 0)), (1, .int (nI (f))), (2, .int (nI (t))), (3, .int (nI (u))), (4, .int (nI (gt M (f) (t) (u)))), (6, .int (nI (v)))]) hx hb dX1_can_90 hl (by decide) rfl (fun ls hl => ?_)
                refine lv_iinc (v := nI (v + 1)) (lv' := [(6, .int (nI (v + 1))), (5, .int (bB (decide (u ≤ M 3 f) && decide (M 3 t + gt M f t u ≤ 20000) && cnv M f t u (v + 1)))), (0, .ref (ad 0)), (1, .int (nI (f))), (2, .int (nI (t))), (3, .int (nI (u))), (4, .int (nI (gt M (f) (t) (u))))]) hx hb dX1_can_92 hl (k := 6) rfl (zn_inc (v)) (by decide) rfl (fun ls hl => ?_)
                refine lv_goto (tgt := 44) hx hb dX1_can_95 (by decide) ?_
                exact ih44 (v + 1) (by omega) (by omega) _ (lv_sub hl [2, 3, 4, 5, 6, 1, 0] rfl)
      exact lp44 (M 5 0 - (0) + 1) (0) (by omega) (by omega) _ (lv_sub hl [3, 4, 5, 6, 2, 1, 0] rfl)
end
section
set_option maxHeartbeats 4000000 in
set_option maxRecDepth 100000 in
theorem c1_may (l : Launch) {D : va_G} {ad : Nat → Nat} {cI : ClassId} {M : Mdl} {th : Int32} {sz : Nat} (hnd : ndz 9 ad) (a1 : Bool) : Met l yX1_may wsX1_may (rmP 0) (va_Pc [.ref (ad 0), .int (bB (a1))] (KP1S D ad cI M th sz)) (va_Qi (fun r_ (u_ : Unit) => ∃ b_ : Bool, r_ = bB b_ ∧ b_ = (a1)) (fun (u_ : Unit) t_ => KP1 D ad cI M (nI (cd1 a1)) t_) (azs 9 ad sz)) 0 0 (azs 9 ad sz) := by
  refine mk_Qz (S := Unit) (post := fun b_ u_ => b_ = (a1)) (BQ := fun u_ t_ => KP1 D ad cI M (nI (cd1 a1)) t_) (cc := cX1_may) (maxL := 2) (by decide) rfl (Nat.le_of_ble_eq_true rfl) ?_
  intro p e s m args below meth c Q C0 B0 hret ls hl
  obtain ⟨hx, hb, hr, hml, hown, hts, hlocks⟩ := C0
  have hown : s.vm.findClass RX1 = some m.cls := hown
  obtain ⟨hsz, hK, hP⟩ := B0
  have hw0 : ∀ w ∈ wsX10, w.before args s = true := fun w h => hts w ((by decide +kernel : ∀ w ∈ wsX10, w ∈ wsX1_may) w h)
  subst hsz
  have hAd : ∀ i, i < 9 → azs 9 ad s.heap.size (ad i) := fun i h => azs_i h
  have hS : va_S (azs 9 ad s.heap.size) s.heap s.heap [] := va_S.rf
  have hl : lv_has ls 2 [(0, .ref (ad 0)), (1, .int (bB (a1)))] := hl
  refine lv_aload_n hx hb dX1_may_0 rfl (lv_at hl 0 rfl) ?_
  refine lv_iload_n hx hb dX1_may_1 rfl (lv_at hl 1 rfl) ?_
  refine zb_Beq (tgt := 9) hx hb dX1_may_2 (by decide) (fun c_1 => ?_) (fun c_1 => ?_)
  · skip
    refine lv_iconst (v := nI 1) hx hb dX1_may_9 (by decide) ?_
    refine zt_i (y := nI (cd1 a1)) (congrArg nI (by simp [cd1, c_1])) ?_
    refine zp1 hx hb hw0 hown hK hP hnd hAd hS (by decide) rfl 10 (by decide) (hts (.fieldLink RX1 34 "WellFieldModel" "thrown" "I") (by decide +kernel)) rfl rfl (by decide +kernel) (Nat.le_of_ble_eq_true rfl) (wmE ad cI (M) (nI (cd1 a1))) wmS_th dX1_may_10 (fun H locs hP hS => ?_)
    refine lv_iload_n hx hb dX1_may_13 rfl (lv_at hl 1 rfl) ?_
    exact hret (b := a1) (u := ()) rfl rfl hS (fun t ht hA => ⟨va_K.moved hA hK, by rw [ht]; exact hP⟩) dX1_may_14
  · skip
    refine lv_iconst (v := nI 0) hx hb dX1_may_5 (by decide) ?_
    refine lv_goto (tgt := 10) hx hb dX1_may_6 (by decide) ?_
    refine zt_i (y := nI (cd1 a1)) (congrArg nI (by simp [cd1, c_1])) ?_
    refine zp1 hx hb hw0 hown hK hP hnd hAd hS (by decide) rfl 10 (by decide) (hts (.fieldLink RX1 34 "WellFieldModel" "thrown" "I") (by decide +kernel)) rfl rfl (by decide +kernel) (Nat.le_of_ble_eq_true rfl) (wmE ad cI (M) (nI (cd1 a1))) wmS_th dX1_may_10 (fun H locs hP hS => ?_)
    refine lv_iload_n hx hb dX1_may_13 rfl (lv_at hl 1 rfl) ?_
    exact hret (b := a1) (u := ()) rfl rfl hS (fun t ht hA => ⟨va_K.moved hA hK, by rw [ht]; exact hP⟩) dX1_may_14
set_option maxHeartbeats 4000000 in
set_option maxRecDepth 100000 in
theorem c1_mayBoth (l : Launch) {D : va_G} {ad : Nat → Nat} {cI : ClassId} {M : Mdl} {th : Int32} {sz : Nat} (hnd : ndz 9 ad) (a1 a2 : Bool) : Met l yX1_mayBoth wsX1_mayBoth (rmP 0) (va_Pc [.ref (ad 0), .int (bB (a1)), .int (bB (a2))] (KP1S D ad cI M th sz)) (va_Qi (fun r_ (u_ : Unit) => ∃ b_ : Bool, r_ = bB b_ ∧ b_ = (a1 && a2)) (fun (u_ : Unit) t_ => KP1 D ad cI M (nI (cd2 a1 a2)) t_) (azs 9 ad sz)) 0 0 (azs 9 ad sz) := by
  refine mk_Qz (S := Unit) (post := fun b_ u_ => b_ = (a1 && a2)) (BQ := fun u_ t_ => KP1 D ad cI M (nI (cd2 a1 a2)) t_) (cc := cX1_mayBoth) (maxL := 3) (by decide) rfl (Nat.le_of_ble_eq_true rfl) ?_
  intro p e s m args below meth c Q C0 B0 hret ls hl
  obtain ⟨hx, hb, hr, hml, hown, hts, hlocks⟩ := C0
  have hown : s.vm.findClass RX1 = some m.cls := hown
  obtain ⟨hsz, hK, hP⟩ := B0
  have hw0 : ∀ w ∈ wsX10, w.before args s = true := fun w h => hts w ((by decide +kernel : ∀ w ∈ wsX10, w ∈ wsX1_mayBoth) w h)
  subst hsz
  have hAd : ∀ i, i < 9 → azs 9 ad s.heap.size (ad i) := fun i h => azs_i h
  have hS : va_S (azs 9 ad s.heap.size) s.heap s.heap [] := va_S.rf
  have hl : lv_has ls 3 [(0, .ref (ad 0)), (1, .int (bB (a1))), (2, .int (bB (a2)))] := hl
  refine lv_aload_n hx hb dX1_mayBoth_0 rfl (lv_at hl 0 rfl) ?_
  refine lv_iload_n hx hb dX1_mayBoth_1 rfl (lv_at hl 1 rfl) ?_
  refine zb_Bne (tgt := 9) hx hb dX1_mayBoth_2 (by decide) (fun c_1 => ?_) (fun c_1 => ?_)
  · skip
    refine lv_iload_n hx hb dX1_mayBoth_9 rfl (lv_at hl 2 rfl) ?_
    refine zb_Bne (tgt := 17) hx hb dX1_mayBoth_10 (by decide) (fun c_2 => ?_) (fun c_2 => ?_)
    · skip
      refine lv_iconst (v := nI 0) hx hb dX1_mayBoth_17 (by decide) ?_
      refine zt_i (y := nI (cd2 a1 a2)) (congrArg nI (by simp [cd2, c_1, c_2])) ?_
      refine zp1 hx hb hw0 hown hK hP hnd hAd hS (by decide) rfl 10 (by decide) (hts (.fieldLink RX1 34 "WellFieldModel" "thrown" "I") (by decide +kernel)) rfl rfl (by decide +kernel) (Nat.le_of_ble_eq_true rfl) (wmE ad cI (M) (nI (cd2 a1 a2))) wmS_th dX1_mayBoth_18 (fun H locs hP hS => ?_)
      refine lv_aload_n hx hb dX1_mayBoth_21 rfl (lv_at hl 0 rfl) ?_
      refine zg1 hx hb hw0 hown hK hP (by decide) rfl 10 (by decide) (hts (.fieldLink RX1 34 "WellFieldModel" "thrown" "I") (by decide +kernel)) rfl rfl dX1_mayBoth_22 ?_
      refine zt_i (y := nI 0) (congrArg nI (by simp [cd2, c_1, c_2])) ?_
      refine zb_0ne (tgt := 32) hx hb (by omega) dX1_mayBoth_25 (by decide) (fun c_3 => ?_) (fun c_3 => ?_)
      · skip
        exact absurd c_3 (by omega)
      · skip
        refine lv_iconst (v := nI 1) hx hb dX1_mayBoth_28 (by decide) ?_
        refine lv_goto (tgt := 33) hx hb dX1_mayBoth_29 (by decide) ?_
        exact hret (b := true) (u := ()) (by simp [c_1, c_2]) rfl hS (fun t ht hA => ⟨va_K.moved hA hK, by rw [ht]; exact hP⟩) dX1_mayBoth_33
    · skip
      refine lv_iconst (v := nI 2) hx hb dX1_mayBoth_13 (by decide) ?_
      refine lv_goto (tgt := 18) hx hb dX1_mayBoth_14 (by decide) ?_
      refine zt_i (y := nI (cd2 a1 a2)) (congrArg nI (by simp [cd2, c_1, c_2])) ?_
      refine zp1 hx hb hw0 hown hK hP hnd hAd hS (by decide) rfl 10 (by decide) (hts (.fieldLink RX1 34 "WellFieldModel" "thrown" "I") (by decide +kernel)) rfl rfl (by decide +kernel) (Nat.le_of_ble_eq_true rfl) (wmE ad cI (M) (nI (cd2 a1 a2))) wmS_th dX1_mayBoth_18 (fun H locs hP hS => ?_)
      refine lv_aload_n hx hb dX1_mayBoth_21 rfl (lv_at hl 0 rfl) ?_
      refine zg1 hx hb hw0 hown hK hP (by decide) rfl 10 (by decide) (hts (.fieldLink RX1 34 "WellFieldModel" "thrown" "I") (by decide +kernel)) rfl rfl dX1_mayBoth_22 ?_
      refine zt_i (y := nI 2) (congrArg nI (by simp [cd2, c_1, c_2])) ?_
      refine zb_0ne (tgt := 32) hx hb (by omega) dX1_mayBoth_25 (by decide) (fun c_4 => ?_) (fun c_4 => ?_)
      · skip
        refine lv_iconst (v := nI 0) hx hb dX1_mayBoth_32 (by decide) ?_
        exact hret (b := false) (u := ()) (by simp [c_1, c_2]) rfl hS (fun t ht hA => ⟨va_K.moved hA hK, by rw [ht]; exact hP⟩) dX1_mayBoth_33
      · skip
        exact absurd c_4 (by omega)
  · skip
    refine lv_iconst (v := nI 1) hx hb dX1_mayBoth_5 (by decide) ?_
    refine lv_goto (tgt := 18) hx hb dX1_mayBoth_6 (by decide) ?_
    refine zt_i (y := nI (cd2 a1 a2)) (congrArg nI (by simp [cd2, c_1])) ?_
    refine zp1 hx hb hw0 hown hK hP hnd hAd hS (by decide) rfl 10 (by decide) (hts (.fieldLink RX1 34 "WellFieldModel" "thrown" "I") (by decide +kernel)) rfl rfl (by decide +kernel) (Nat.le_of_ble_eq_true rfl) (wmE ad cI (M) (nI (cd2 a1 a2))) wmS_th dX1_mayBoth_18 (fun H locs hP hS => ?_)
    refine lv_aload_n hx hb dX1_mayBoth_21 rfl (lv_at hl 0 rfl) ?_
    refine zg1 hx hb hw0 hown hK hP (by decide) rfl 10 (by decide) (hts (.fieldLink RX1 34 "WellFieldModel" "thrown" "I") (by decide +kernel)) rfl rfl dX1_mayBoth_22 ?_
    refine zt_i (y := nI 1) (congrArg nI (by simp [cd2, c_1])) ?_
    refine zb_0ne (tgt := 32) hx hb (by omega) dX1_mayBoth_25 (by decide) (fun c_5 => ?_) (fun c_5 => ?_)
    · skip
      refine lv_iconst (v := nI 0) hx hb dX1_mayBoth_32 (by decide) ?_
      exact hret (b := false) (u := ()) (by simp [c_1, c_5]) rfl hS (fun t ht hA => ⟨va_K.moved hA hK, by rw [ht]; exact hP⟩) dX1_mayBoth_33
    · skip
      exact absurd c_5 (by omega)
set_option maxHeartbeats 4000000 in
set_option maxRecDepth 100000 in
theorem c1_mayAll (l : Launch) {D : va_G} {ad : Nat → Nat} {cI : ClassId} {M : Mdl} {th : Int32} {sz : Nat} (hnd : ndz 9 ad) (a1 a2 a3 : Bool) : Met l yX1_mayAll wsX1_mayAll (rmP 0) (va_Pc [.ref (ad 0), .int (bB (a1)), .int (bB (a2)), .int (bB (a3))] (KP1S D ad cI M th sz)) (va_Qi (fun r_ (u_ : Unit) => ∃ b_ : Bool, r_ = bB b_ ∧ b_ = (a1 && a2 && a3)) (fun (u_ : Unit) t_ => KP1 D ad cI M (nI (cd3 a1 a2 a3)) t_) (azs 9 ad sz)) 0 0 (azs 9 ad sz) := by
  refine mk_Qz (S := Unit) (post := fun b_ u_ => b_ = (a1 && a2 && a3)) (BQ := fun u_ t_ => KP1 D ad cI M (nI (cd3 a1 a2 a3)) t_) (cc := cX1_mayAll) (maxL := 4) (by decide) rfl (Nat.le_of_ble_eq_true rfl) ?_
  intro p e s m args below meth c Q C0 B0 hret ls hl
  obtain ⟨hx, hb, hr, hml, hown, hts, hlocks⟩ := C0
  have hown : s.vm.findClass RX1 = some m.cls := hown
  obtain ⟨hsz, hK, hP⟩ := B0
  have hw0 : ∀ w ∈ wsX10, w.before args s = true := fun w h => hts w ((by decide +kernel : ∀ w ∈ wsX10, w ∈ wsX1_mayAll) w h)
  subst hsz
  have hAd : ∀ i, i < 9 → azs 9 ad s.heap.size (ad i) := fun i h => azs_i h
  have hS : va_S (azs 9 ad s.heap.size) s.heap s.heap [] := va_S.rf
  have hl : lv_has ls 4 [(0, .ref (ad 0)), (1, .int (bB (a1))), (2, .int (bB (a2))), (3, .int (bB (a3)))] := hl
  refine lv_aload_n hx hb dX1_mayAll_0 rfl (lv_at hl 0 rfl) ?_
  refine lv_iload_n hx hb dX1_mayAll_1 rfl (lv_at hl 1 rfl) ?_
  refine zb_Bne (tgt := 9) hx hb dX1_mayAll_2 (by decide) (fun c_1 => ?_) (fun c_1 => ?_)
  · skip
    refine lv_iload_n hx hb dX1_mayAll_9 rfl (lv_at hl 2 rfl) ?_
    refine zb_Bne (tgt := 17) hx hb dX1_mayAll_10 (by decide) (fun c_2 => ?_) (fun c_2 => ?_)
    · skip
      refine lv_iload_n hx hb dX1_mayAll_17 rfl (lv_at hl 3 rfl) ?_
      refine zb_Bne (tgt := 25) hx hb dX1_mayAll_18 (by decide) (fun c_3 => ?_) (fun c_3 => ?_)
      · skip
        refine lv_iconst (v := nI 0) hx hb dX1_mayAll_25 (by decide) ?_
        refine zt_i (y := nI (cd3 a1 a2 a3)) (congrArg nI (by simp [cd3, c_1, c_2, c_3])) ?_
        refine zp1 hx hb hw0 hown hK hP hnd hAd hS (by decide) rfl 10 (by decide) (hts (.fieldLink RX1 34 "WellFieldModel" "thrown" "I") (by decide +kernel)) rfl rfl (by decide +kernel) (Nat.le_of_ble_eq_true rfl) (wmE ad cI (M) (nI (cd3 a1 a2 a3))) wmS_th dX1_mayAll_26 (fun H locs hP hS => ?_)
        refine lv_aload_n hx hb dX1_mayAll_29 rfl (lv_at hl 0 rfl) ?_
        refine zg1 hx hb hw0 hown hK hP (by decide) rfl 10 (by decide) (hts (.fieldLink RX1 34 "WellFieldModel" "thrown" "I") (by decide +kernel)) rfl rfl dX1_mayAll_30 ?_
        refine zt_i (y := nI 0) (congrArg nI (by simp [cd3, c_1, c_2, c_3])) ?_
        refine zb_0ne (tgt := 40) hx hb (by omega) dX1_mayAll_33 (by decide) (fun c_4 => ?_) (fun c_4 => ?_)
        · skip
          exact absurd c_4 (by omega)
        · skip
          refine lv_iconst (v := nI 1) hx hb dX1_mayAll_36 (by decide) ?_
          refine lv_goto (tgt := 41) hx hb dX1_mayAll_37 (by decide) ?_
          exact hret (b := true) (u := ()) (by simp [c_1, c_2, c_3]) rfl hS (fun t ht hA => ⟨va_K.moved hA hK, by rw [ht]; exact hP⟩) dX1_mayAll_41
      · skip
        refine lv_iconst (v := nI 3) hx hb dX1_mayAll_21 (by decide) ?_
        refine lv_goto (tgt := 26) hx hb dX1_mayAll_22 (by decide) ?_
        refine zt_i (y := nI (cd3 a1 a2 a3)) (congrArg nI (by simp [cd3, c_1, c_2, c_3])) ?_
        refine zp1 hx hb hw0 hown hK hP hnd hAd hS (by decide) rfl 10 (by decide) (hts (.fieldLink RX1 34 "WellFieldModel" "thrown" "I") (by decide +kernel)) rfl rfl (by decide +kernel) (Nat.le_of_ble_eq_true rfl) (wmE ad cI (M) (nI (cd3 a1 a2 a3))) wmS_th dX1_mayAll_26 (fun H locs hP hS => ?_)
        refine lv_aload_n hx hb dX1_mayAll_29 rfl (lv_at hl 0 rfl) ?_
        refine zg1 hx hb hw0 hown hK hP (by decide) rfl 10 (by decide) (hts (.fieldLink RX1 34 "WellFieldModel" "thrown" "I") (by decide +kernel)) rfl rfl dX1_mayAll_30 ?_
        refine zt_i (y := nI 3) (congrArg nI (by simp [cd3, c_1, c_2, c_3])) ?_
        refine zb_0ne (tgt := 40) hx hb (by omega) dX1_mayAll_33 (by decide) (fun c_5 => ?_) (fun c_5 => ?_)
        · skip
          refine lv_iconst (v := nI 0) hx hb dX1_mayAll_40 (by decide) ?_
          exact hret (b := false) (u := ()) (by simp [c_1, c_2, c_3]) rfl hS (fun t ht hA => ⟨va_K.moved hA hK, by rw [ht]; exact hP⟩) dX1_mayAll_41
        · skip
          exact absurd c_5 (by omega)
    · skip
      refine lv_iconst (v := nI 2) hx hb dX1_mayAll_13 (by decide) ?_
      refine lv_goto (tgt := 26) hx hb dX1_mayAll_14 (by decide) ?_
      refine zt_i (y := nI (cd3 a1 a2 a3)) (congrArg nI (by simp [cd3, c_1, c_2])) ?_
      refine zp1 hx hb hw0 hown hK hP hnd hAd hS (by decide) rfl 10 (by decide) (hts (.fieldLink RX1 34 "WellFieldModel" "thrown" "I") (by decide +kernel)) rfl rfl (by decide +kernel) (Nat.le_of_ble_eq_true rfl) (wmE ad cI (M) (nI (cd3 a1 a2 a3))) wmS_th dX1_mayAll_26 (fun H locs hP hS => ?_)
      refine lv_aload_n hx hb dX1_mayAll_29 rfl (lv_at hl 0 rfl) ?_
      refine zg1 hx hb hw0 hown hK hP (by decide) rfl 10 (by decide) (hts (.fieldLink RX1 34 "WellFieldModel" "thrown" "I") (by decide +kernel)) rfl rfl dX1_mayAll_30 ?_
      refine zt_i (y := nI 2) (congrArg nI (by simp [cd3, c_1, c_2])) ?_
      refine zb_0ne (tgt := 40) hx hb (by omega) dX1_mayAll_33 (by decide) (fun c_6 => ?_) (fun c_6 => ?_)
      · skip
        refine lv_iconst (v := nI 0) hx hb dX1_mayAll_40 (by decide) ?_
        exact hret (b := false) (u := ()) (by simp [c_1, c_2, c_6]) rfl hS (fun t ht hA => ⟨va_K.moved hA hK, by rw [ht]; exact hP⟩) dX1_mayAll_41
      · skip
        exact absurd c_6 (by omega)
  · skip
    refine lv_iconst (v := nI 1) hx hb dX1_mayAll_5 (by decide) ?_
    refine lv_goto (tgt := 26) hx hb dX1_mayAll_6 (by decide) ?_
    refine zt_i (y := nI (cd3 a1 a2 a3)) (congrArg nI (by simp [cd3, c_1])) ?_
    refine zp1 hx hb hw0 hown hK hP hnd hAd hS (by decide) rfl 10 (by decide) (hts (.fieldLink RX1 34 "WellFieldModel" "thrown" "I") (by decide +kernel)) rfl rfl (by decide +kernel) (Nat.le_of_ble_eq_true rfl) (wmE ad cI (M) (nI (cd3 a1 a2 a3))) wmS_th dX1_mayAll_26 (fun H locs hP hS => ?_)
    refine lv_aload_n hx hb dX1_mayAll_29 rfl (lv_at hl 0 rfl) ?_
    refine zg1 hx hb hw0 hown hK hP (by decide) rfl 10 (by decide) (hts (.fieldLink RX1 34 "WellFieldModel" "thrown" "I") (by decide +kernel)) rfl rfl dX1_mayAll_30 ?_
    refine zt_i (y := nI 1) (congrArg nI (by simp [cd3, c_1])) ?_
    refine zb_0ne (tgt := 40) hx hb (by omega) dX1_mayAll_33 (by decide) (fun c_7 => ?_) (fun c_7 => ?_)
    · skip
      refine lv_iconst (v := nI 0) hx hb dX1_mayAll_40 (by decide) ?_
      exact hret (b := false) (u := ()) (by simp [c_1, c_7]) rfl hS (fun t ht hA => ⟨va_K.moved hA hK, by rw [ht]; exact hP⟩) dX1_mayAll_41
    · skip
      exact absurd c_7 (by omega)
set_option maxHeartbeats 4000000 in
set_option maxRecDepth 100000 in
theorem r0_wells (l : Launch) {D : va_G} {ad : Nat → Nat} {cI : ClassId} {M : Mdl} {th : Int32} {sz : Nat} (hnd : ndz 9 ad) : Met l yX1_wells wsX1_wells (rmP 0) (va_Pc [.ref (ad 0)] (KP1S D ad cI M th sz)) (va_Qi (fun r_ (u_ : Unit) => r_ = nI (M 0 0)) (fun (u_ : Unit) t_ => KP1 D ad cI M (nI (0)) t_) (azs 9 ad sz)) 0 0 (azs 9 ad sz) := by
  refine mk_Qi (S := Unit) (post := fun r_ u_ => r_ = nI (M 0 0)) (BQ := fun u_ t_ => KP1 D ad cI M (nI (0)) t_) (cc := cX1_wells) (maxL := 1) (by decide) rfl (Nat.le_of_ble_eq_true rfl) ?_
  intro p e s m args below meth c Q C0 B0 hret ls hl
  obtain ⟨hx, hb, hr, hml, hown, hts, hlocks⟩ := C0
  have hown : s.vm.findClass RX1 = some m.cls := hown
  obtain ⟨hsz, hK, hP⟩ := B0
  have hw0 : ∀ w ∈ wsX10, w.before args s = true := fun w h => hts w ((by decide +kernel : ∀ w ∈ wsX10, w ∈ wsX1_wells) w h)
  subst hsz
  have hAd : ∀ i, i < 9 → azs 9 ad s.heap.size (ad i) := fun i h => azs_i h
  have hS : va_S (azs 9 ad s.heap.size) s.heap s.heap [] := va_S.rf
  have hl : lv_has ls 1 [(0, .ref (ad 0))] := hl
  refine lv_aload_n hx hb dX1_wells_0 rfl (lv_at hl 0 rfl) ?_
  refine lv_iconst (v := nI 0) hx hb dX1_wells_1 (by decide) ?_
  refine zp1 hx hb hw0 hown hK hP hnd hAd hS (by decide) rfl 10 (by decide) (hts (.fieldLink RX1 34 "WellFieldModel" "thrown" "I") (by decide +kernel)) rfl rfl (by decide +kernel) (Nat.le_of_ble_eq_true rfl) (wmE ad cI (M) (nI (0))) wmS_th dX1_wells_2 (fun H locs hP hS => ?_)
  refine lv_aload_n hx hb dX1_wells_5 rfl (lv_at hl 0 rfl) ?_
  refine zg1 hx hb hw0 hown hK hP (by decide) rfl 0 (by decide) (hts (.fieldLink RX1 38 "WellFieldModel" "wells" "I") (by decide +kernel)) rfl rfl dX1_wells_6 ?_
  exact hret (u := ()) rfl hS (fun t ht hA => ⟨va_K.moved hA hK, by rw [ht]; exact hP⟩) dX1_wells_9
set_option maxHeartbeats 4000000 in
set_option maxRecDepth 100000 in
theorem r0_watches (l : Launch) {D : va_G} {ad : Nat → Nat} {cI : ClassId} {M : Mdl} {th : Int32} {sz : Nat} (hnd : ndz 9 ad) : Met l yX1_watches wsX1_watches (rmP 0) (va_Pc [.ref (ad 0)] (KP1S D ad cI M th sz)) (va_Qi (fun r_ (u_ : Unit) => r_ = nI (M 5 0)) (fun (u_ : Unit) t_ => KP1 D ad cI M (nI (0)) t_) (azs 9 ad sz)) 0 0 (azs 9 ad sz) := by
  refine mk_Qi (S := Unit) (post := fun r_ u_ => r_ = nI (M 5 0)) (BQ := fun u_ t_ => KP1 D ad cI M (nI (0)) t_) (cc := cX1_watches) (maxL := 1) (by decide) rfl (Nat.le_of_ble_eq_true rfl) ?_
  intro p e s m args below meth c Q C0 B0 hret ls hl
  obtain ⟨hx, hb, hr, hml, hown, hts, hlocks⟩ := C0
  have hown : s.vm.findClass RX1 = some m.cls := hown
  obtain ⟨hsz, hK, hP⟩ := B0
  have hw0 : ∀ w ∈ wsX10, w.before args s = true := fun w h => hts w ((by decide +kernel : ∀ w ∈ wsX10, w ∈ wsX1_watches) w h)
  subst hsz
  have hAd : ∀ i, i < 9 → azs 9 ad s.heap.size (ad i) := fun i h => azs_i h
  have hS : va_S (azs 9 ad s.heap.size) s.heap s.heap [] := va_S.rf
  have hl : lv_has ls 1 [(0, .ref (ad 0))] := hl
  refine lv_aload_n hx hb dX1_watches_0 rfl (lv_at hl 0 rfl) ?_
  refine lv_iconst (v := nI 0) hx hb dX1_watches_1 (by decide) ?_
  refine zp1 hx hb hw0 hown hK hP hnd hAd hS (by decide) rfl 10 (by decide) (hts (.fieldLink RX1 34 "WellFieldModel" "thrown" "I") (by decide +kernel)) rfl rfl (by decide +kernel) (Nat.le_of_ble_eq_true rfl) (wmE ad cI (M) (nI (0))) wmS_th dX1_watches_2 (fun H locs hP hS => ?_)
  refine lv_aload_n hx hb dX1_watches_5 rfl (lv_at hl 0 rfl) ?_
  refine zg1 hx hb hw0 hown hK hP (by decide) rfl 5 (by decide) (hts (.fieldLink RX1 45 "WellFieldModel" "watches" "I") (by decide +kernel)) rfl rfl dX1_watches_6 ?_
  exact hret (u := ()) rfl hS (fun t ht hA => ⟨va_K.moved hA hK, by rw [ht]; exact hP⟩) dX1_watches_9
end
