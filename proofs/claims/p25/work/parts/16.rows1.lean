section ZM
variable {p : Program} {l : Launch} {e : Env} {R : Room} {s : State} {m : MethodId} {args : Array Value} {below : List Frame} {meth : Method} {c : Code} {H : Heap} {locs : List Loc} {cells slots : Nat} {Q : State → Prop}
variable {cc : ByteArray} {pc : Nat} {ls : Array Slot} {rest : List Value}
theorem zbL_gt (hx : p.tables.exec = Jvm.exec) (hb : c.code = cc) {a b : Nat} (ha : a < 2 ^ 62) (hb2 : b < 2 ^ 62) {off : Int} {tgt : Nat} (hd0 : decode cc pc = .ok (.lcmp, 1)) (hdg : decode cc (pc + 1) = .ok (.ifCond .gt off, 3)) (ht : (pc : Int) + 1 + off = (tgt : Int))
    (kt : b < a → W p l e R s m args below meth c H locs cells slots Q (F0 m tgt ls rest)) (kf : a ≤ b → W p l e R s m args below meth c H locs cells slots Q (F0 m (pc + 4) ls rest)) : W p l e R s m args below meth c H locs cells slots Q (F0 m pc ls (.long (lN b) :: .long (lN a) :: rest)) := by
  refine W.lcmp hx hb hd0 ?_
  refine lv_if_gt hx hb hdg (by omega) (fun h => kt ((pk_lLT (by omega) (by omega)).mp ((lg_cmp_gt _ _).mp h))) (fun h => kf ?_)
  rcases Nat.lt_or_ge b a with q | q
  · exact absurd ((lg_cmp_gt _ _).mpr ((pk_lLT (by omega) (by omega)).mpr q)) h
  · exact q
end ZM
theorem bB_1 : nI 1 = bB true := rfl
theorem bB_0 : nI 0 = bB false := rfl
theorem abs_p {a b : Nat} (ha : a < 2 ^ 30) (hb : b < 2 ^ 30) (h : 0 ≤ nI a - nI b) : nI a - nI b = nI ((a - b) + (b - a)) := by
  have h1 := abs_nI ha hb
  rw [if_pos h] at h1
  exact h1
theorem abs_n {a b : Nat} (ha : a < 2 ^ 30) (hb : b < 2 ^ 30) (h : ¬ 0 ≤ nI a - nI b) : -(nI a - nI b) = nI ((a - b) + (b - a)) := by
  have h1 := abs_nI ha hb
  rw [if_neg h, Int32.zero_sub] at h1
  exact h1
theorem nsub_p {a b : Nat} (ha : a < 2 ^ 30) (hb : b < 2 ^ 30) (h : ¬ nI a - nI b ≤ 0) : nI a - nI b = nI (a - b) := by
  refine pk_sub ?_
  rcases Nat.lt_or_ge a b with q | q
  · refine absurd ?_ h
    rw [Int32.le_iff_toInt_le, pk_sub_toInt ha hb]
    have : (0 : Int32).toInt = 0 := by decide
    omega
  · exact q
theorem nsub_n {a b : Nat} (ha : a < 2 ^ 30) (hb : b < 2 ^ 30) (h : nI a - nI b ≤ 0) : nI 0 = nI (a - b) := by
  rw [Int32.le_iff_toInt_le, pk_sub_toInt ha hb] at h
  have : (0 : Int32).toInt = 0 := by decide
  rw [show a - b = 0 by omega]
theorem cd3_and (a b c : Bool) : cd3 a b (a && b && c) = cd3 a b c := by cases a <;> cases b <;> rfl
