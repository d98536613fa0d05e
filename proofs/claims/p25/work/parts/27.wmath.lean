/-! what the watches' check counts -/
/-- the greatest month before m, so far -/
def wsm (M : Mdl) (v : Nat) : Nat → Nat
  | 0 => 0
  | m + 1 => wst M v m
theorem wsm_lt (M : Mdl) (v : Nat) : ∀ m, m ≤ 36 → wsm M v m < 36
  | 0, _ => by show 0 < 36; omega
  | m + 1, h => by
    have h1 := wst_le M v m
    show wst M v m < 36
    omega
theorem wsm_t {M : Mdl} {v : Nat} : ∀ {m}, dd M v (wsm M v m) < dd M v m → wsm M v (m + 1) = m
  | 0, h => absurd h (Nat.lt_irrefl _)
  | m + 1, h => if_pos h
theorem wsm_f {M : Mdl} {v : Nat} : ∀ {m}, dd M v m ≤ dd M v (wsm M v m) → wsm M v (m + 1) = wsm M v m
  | 0, _ => rfl
  | m + 1, h => if_neg (Nat.not_lt.mpr h)
theorem ovc_t {M : Mdl} {v m : Nat} (h : 1000 * M 7 v < dd M v m) : ovc M v m = 1 := if_pos h
theorem ovc_f {M : Mdl} {v m : Nat} (h : dd M v m ≤ 1000 * M 7 v) : ovc M v m = 0 := if_neg (Nat.not_lt.mpr h)
theorem lia_rl (M : Mdl) (w v m : Nat) : ssum (fun d => M (10 + 3 * w) m * tbn M (rch M w v) d) (rl5 (rch M w v) m) = lia M w v m := by
  rcases rl5_s (rch M w v) m with ⟨h1, h2⟩ | ⟨h1, h2⟩
  · rw [h2]
    rfl
  · rw [h2]
    have e : ∀ d, tbn M (rch M w v) d = 0 := fun d => if_neg (by omega)
    exact (ssum_0s (fun k _ => by rw [e, Nat.mul_zero])).symm
/-- what a unit of a well lowers in a month -/
def onf (M : Mdl) (w v mo t : Nat) : Nat := if mo ≤ t ∧ t < mo + rl5 (rch M w v) mo then M (11 + 3 * rch M w v) (t - mo) else 0
theorem onf_le {M : Mdl} (hI : Inv M) (w v mo t : Nat) : onf M w v mo t ≤ 1000 := by
  unfold onf
  split
  · next h =>
    rcases rl5_s (rch M w v) mo with ⟨h1, h2⟩ | ⟨h1, h2⟩
    · exact hI.tb _ h1 _
    · omega
  · omega
theorem one_k {on : Nat → Int64} {mo d x : Nat} {f : Nat → Nat} (hx : x = f d) (h : ∀ t, t < 36 → on t = lN (if mo ≤ t ∧ t < mo + d then f (t - mo) else 0)) : ∀ t, t < 36 → vp_updL on (mo + d) (lN x) t = lN (if mo ≤ t ∧ t < mo + (d + 1) then f (t - mo) else 0) := by
  intro t ht
  by_cases q : t = mo + d
  · subst q
    rw [pk_uLs, if_pos (by omega), show mo + d - mo = d by omega, hx]
  · rw [pk_uLn q, h t ht]
    congr 1
    by_cases q2 : mo ≤ t ∧ t < mo + d
    · rw [if_pos q2, if_pos (by omega)]
    · rw [if_neg q2, if_neg (by omega)]
/-- the room that is left in one month -/
def wrm (x r o L : Nat) : Nat := if 0 < o then min x ((L - r) / o) else x
theorem wrm_le (x r o L : Nat) : wrm x r o L ≤ x := by
  unfold wrm
  split <;> omega
theorem wrm_lt {x r o L y : Nat} (ho : 0 < o) (h : L < r + y * o) (hy : 0 < y) : wrm x r o L < y := by
  unfold wrm
  rw [if_pos ho]
  have h1 : (L - r) / o < y := by
    rw [Nat.div_lt_iff_lt_mul ho]
    have h2 : 0 < y * o := Nat.mul_pos hy ho
    omega
  omega
theorem wrm_eq {x r o L y : Nat} (h1 : y ≤ x) (h2 : wrm x r o L ≤ y) (h : y = 0 ∨ o = 0 ∨ r + y * o ≤ L) : y = wrm x r o L := by
  rcases h with h | h | h
  · omega
  · unfold wrm at h2 ⊢
    rw [if_neg (by omega)] at h2 ⊢
    omega
  · unfold wrm at h2 ⊢
    by_cases ho : 0 < o
    · rw [if_pos ho] at h2 ⊢
      have h3 : y ≤ (L - r) / o := by
        rw [Nat.le_div_iff_mul_le ho]
        omega
      omega
    · rw [if_neg ho] at h2 ⊢
      omega
def rmf (M : Mdl) (w v mo x : Nat) : Nat → Nat
  | 0 => x
  | t + 1 => wrm (rmf M w v mo x t) (dd M v t) (onf M w v mo t) (1000 * M 7 v)
theorem rmf_le (M : Mdl) (w v mo x : Nat) : ∀ t, rmf M w v mo x t ≤ x
  | 0 => Nat.le_refl _
  | t + 1 => Nat.le_trans (wrm_le _ _ _ _) (rmf_le M w v mo x t)
theorem rmf_a (M : Mdl) (w v mo x : Nat) : ∀ t, t ≤ mo → rmf M w v mo x t = x
  | 0, _ => rfl
  | t + 1, h => by
    show wrm (rmf M w v mo x t) (dd M v t) (onf M w v mo t) (1000 * M 7 v) = x
    rw [rmf_a M w v mo x t (by omega), show onf M w v mo t = 0 from if_neg (by omega)]
    rfl
theorem rmf_b (M : Mdl) (w v mo x : Nat) (hr : rch M w v < 5) (hx : x ≤ 1000) : ∀ d, d ≤ rl5 (rch M w v) mo → rmf M w v mo x (mo + d) = min x (ulf M v (rch M w v) mo d)
  | 0, _ => by
    rw [Nat.add_zero, rmf_a M w v mo x mo (Nat.le_refl _)]
    show x = min x 1000
    omega
  | d + 1, h => by
    show wrm (rmf M w v mo x (mo + d)) (dd M v (mo + d)) (onf M w v mo (mo + d)) (1000 * M 7 v) = min x (if 0 < tbn M (rch M w v) d then min (ulf M v (rch M w v) mo d) ((1000 * M 7 v - dd M v (mo + d)) / tbn M (rch M w v) d) else ulf M v (rch M w v) mo d)
    rw [rmf_b M w v mo x hr hx d (by omega)]
    have e : onf M w v mo (mo + d) = tbn M (rch M w v) d := by
      unfold onf tbn
      rw [if_pos (by omega), if_pos hr, show mo + d - mo = d by omega]
    rw [e]
    unfold wrm
    split <;> omega
theorem rmf_c (M : Mdl) (w v mo x : Nat) : ∀ n, rmf M w v mo x (mo + rl5 (rch M w v) mo + n) = rmf M w v mo x (mo + rl5 (rch M w v) mo)
  | 0 => rfl
  | n + 1 => by
    show wrm (rmf M w v mo x (mo + rl5 (rch M w v) mo + n)) _ (onf M w v mo (mo + rl5 (rch M w v) mo + n)) _ = _
    rw [rmf_c M w v mo x n, show onf M w v mo (mo + rl5 (rch M w v) mo + n) = 0 from if_neg (by omega)]
    rfl
theorem ulf_5 (M : Mdl) (v r m : Nat) (hr : 5 ≤ r) : ∀ D, ulf M v r m D = 1000
  | 0 => rfl
  | D + 1 => by
    have e : tbn M r D = 0 := if_neg (by omega)
    unfold ulf
    rw [e, if_neg (by omega)]
    exact ulf_5 M v r m hr D
theorem rmf_e (M : Mdl) (w v mo x : Nat) (hx : x ≤ 1000) (hm : mo < 36) : rmf M w v mo x 36 = min x (ulf M v (rch M w v) mo (d12 (36 - mo))) := by
  have hs := d12_s (36 - mo)
  have hc := rmf_c M w v mo x (36 - (mo + rl5 (rch M w v) mo))
  rcases rl5_s (rch M w v) mo with ⟨h1, h2⟩ | ⟨h1, h2⟩
  · rw [show mo + rl5 (rch M w v) mo + (36 - (mo + rl5 (rch M w v) mo)) = 36 by omega] at hc
    rw [hc, rmf_b M w v mo x h1 hx _ (Nat.le_refl _), h2]
  · rw [show mo + rl5 (rch M w v) mo + (36 - (mo + rl5 (rch M w v) mo)) = 36 by omega] at hc
    rw [hc, h2, Nat.add_zero, rmf_a M w v mo x mo (Nat.le_refl _), ulf_5 M v _ mo h1]
    omega
theorem hdr_s (M : Mdl) (w mo v : Nat) (hm : mo < 36) : rmf M w v mo (hdr M w mo v) 36 = hdr M w mo (v + 1) := rmf_e M w v mo _ (hdr_le M w mo v) hm
section ZQ
variable {p : Program} {l : Launch} {e : Env} {R : Room} {s : State} {m : MethodId} {args : Array Value} {below : List Frame} {meth : Method} {c : Code} {H : Heap} {locs : List Loc} {cells slots : Nat} {Q : State → Prop}
variable {cc : ByteArray} {pc : Nat} {ls : Array Slot} {rest : List Value}
theorem zb_same_ne (hx : p.tables.exec = Jvm.exec) (hb : c.code = cc) {x : Int64} {off : Int} {tgt : Nat} (hd0 : decode cc pc = .ok (.lcmp, 1)) (hdg : decode cc (pc + 1) = .ok (.ifCond .ne off, 3)) (ht : (pc : Int) + 1 + off = (tgt : Int))
    (kk : W p l e R s m args below meth c H locs cells slots Q (F0 m (pc + 4) ls rest)) : W p l e R s m args below meth c H locs cells slots Q (F0 m pc ls (.long x :: .long x :: rest)) := by
  refine W.lcmp hx hb hd0 ?_
  exact lv_if_ne (tgt := tgt) hx hb hdg (by omega) (fun h => absurd ((lg_cmp_eq _ _).mpr rfl) h) (fun _ => kk)
theorem zb_same_eq (hx : p.tables.exec = Jvm.exec) (hb : c.code = cc) {x : Int64} {off : Int} {tgt : Nat} (hd0 : decode cc pc = .ok (.lcmp, 1)) (hdg : decode cc (pc + 1) = .ok (.ifCond .eq off, 3)) (ht : (pc : Int) + 1 + off = (tgt : Int))
    (kk : W p l e R s m args below meth c H locs cells slots Q (F0 m tgt ls rest)) : W p l e R s m args below meth c H locs cells slots Q (F0 m pc ls (.long x :: .long x :: rest)) := by
  refine W.lcmp hx hb hd0 ?_
  exact lv_if_eq (tgt := tgt) hx hb hdg (by omega) (fun _ => kk) (fun h => absurd ((lg_cmp_eq _ _).mpr rfl) h)
end ZQ
