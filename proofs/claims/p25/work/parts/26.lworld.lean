/-! the law's world grows by a row -/
theorem wcE_at {D : va_G} {ad ad' : Nat → Nat} {cI cJ cQ : ClassId} {M : Mdl} {ts : Nat → Nat} {pu : Nat → Int64} {H : Heap} (he : ∀ k, k < 27 → ad' k = ad k) {a : Nat} : ∀ {k : Nat}, k < 27 → va_at D vwCl (a, wcE ad cI cJ cQ M ts pu k) H → va_at D vwCl (a, wcE ad' cI cJ cQ M ts pu k) H := fun {k} hk h =>
  match k, hk, h with
  | 0, _, h => by
    have e : wcE ad' cI cJ cQ M ts pu 0 = wcE ad cI cJ cQ M ts pu 0 := by
      show (.inr (0, [.ref (ad' 1), .ref (ad' 2), .ref (ad' 3), .ref (ad' 4), .ref (ad' 5), .ref (ad' 6), .ref (ad' 7), .ref (ad' 8), .ref (ad' 9), .ref (ad' 10), .int (nI (M 0 0)), .int (nI (M 5 0))]) : va_E) = .inr (0, [.ref (ad 1), .ref (ad 2), .ref (ad 3), .ref (ad 4), .ref (ad 5), .ref (ad 6), .ref (ad 7), .ref (ad 8), .ref (ad 9), .ref (ad 10), .int (nI (M 0 0)), .int (nI (M 5 0))])
      rw [he 1 (by omega), he 2 (by omega), he 3 (by omega), he 4 (by omega), he 5 (by omega), he 6 (by omega), he 7 (by omega), he 8 (by omega), he 9 (by omega), he 10 (by omega)]
    rw [e]
    exact h
  | 1, _, h => h
  | 2, _, h => h
  | 3, _, h => h
  | 4, _, h => h.trans (congrArg some (rows_congr (fun j hj => by show some (ad (11 + j)) = some (ad' (11 + j)); rw [he _ (by omega)])))
  | 5, _, h => h
  | 6, _, h => h
  | 7, _, h => h.trans (congrArg some (rows_congr (fun j hj => by show some (ad (19 + j)) = some (ad' (19 + j)); rw [he _ (by omega)])))
  | 8, _, h => h
  | 9, _, h => h.trans (congrArg some (rows_congr (fun j hj => by show some (ad (24 + j)) = some (ad' (24 + j)); rw [he _ (by omega)])))
  | 10, _, h => h
  | 11, _, h => h
  | 12, _, h => h
  | 13, _, h => h
  | 14, _, h => h
  | 15, _, h => h
  | 16, _, h => h
  | 17, _, h => h
  | 18, _, h => h
  | 19, _, h => h
  | 20, _, h => h
  | 21, _, h => h
  | 22, _, h => h
  | 23, _, h => h
  | 24, _, h => h
  | 25, _, h => h
  | 26, _, h => h
  | n + 27, hk, _ => absurd hk (by omega)
theorem wx_mk {D : va_G} {ad ad' : Nat → Nat} {cI cJ cQ : ClassId} {M K : Mdl} {ts : Nat → Nat} {pu : Nat → Int64} {X : Nat → va_E} {a b : va_E} {H : Heap} (he : ∀ k, k < 37 → ad' k = ad k) (hP : va_P D vwCl (wz 39 ad' (fun k => if k = 38 then b else if k = 37 then a else wxE ad cI cJ cQ M ts pu K X k)) H) : va_P D vwCl (wz 39 ad' (wxE ad' cI cJ cQ M ts pu K (X2 a b))) H := fun k q hk => by
  obtain ⟨h1, rfl⟩ := wz_inv hk
  have h := hP k _ (wz_at h1)
  by_cases q1 : k < 27
  · rw [if_neg (by omega), if_neg (by omega), wx_c q1] at h
    rw [wx_c q1]
    exact wcE_at (fun k hk => he k (by omega)) q1 h
  · by_cases q2 : k < 37
    · rw [if_neg (by omega), if_neg (by omega)] at h
      unfold wxE at h ⊢
      rw [if_neg q1, if_pos q2] at h ⊢
      exact h
    · unfold wxE X2
      rw [if_neg q1, if_neg q2]
      by_cases q3 : k = 38
      · rw [if_pos q3] at h
        rw [if_neg (by omega)]
        exact h
      · rw [if_neg q3, if_pos (by omega)] at h
        rw [if_pos (by omega)]
        exact h
theorem wx_drop {D : va_G} {ad ad' : Nat → Nat} {cI cJ cQ : ClassId} {M K : Mdl} {ts : Nat → Nat} {pu : Nat → Int64} {X Y : Nat → va_E} {H : Heap} (he : ∀ k, k < 37 → ad' k = ad k) (hP : va_P D vwCl (wz 39 ad' (wxE ad' cI cJ cQ M ts pu K X)) H) : va_P D vwCl (wz 37 ad (wxE ad cI cJ cQ M ts pu K Y)) H := fun k q hk => by
  obtain ⟨h1, rfl⟩ := wz_inv hk
  have h := hP k _ (wz_at (by omega))
  rw [he k h1] at h
  by_cases q1 : k < 27
  · rw [wx_c q1] at h ⊢
    exact wcE_at (fun k hk => (he k (by omega)).symm) q1 h
  · unfold wxE at h ⊢
    rw [if_neg q1, if_pos h1] at h ⊢
    exact h
section ZN
variable {p : Program} {l : Launch} {e : Env} {R : Room} {s : State} {m : MethodId} {args : Array Value} {below : List Frame} {meth : Method} {c : Code} {H H0 : Heap} {locs : List Loc} {cells slots : Nat} {Q : State → Prop}
variable {cc : ByteArray} {pc : Nat} {ls : Array Slot} {rest : List Value} {D : va_G} {cI cJ cQ : ClassId} {n N z0 : Nat} {ad : Nat → Nat} {F : Nat → va_E}
theorem zn_end {q : Nat} {x : va_E} {A : Nat → Prop} (hnd : ndz n ad) (hAd : ∀ i, i < n → A (ad i)) (hD : va_D A (wz n ad F ++ [(q, x)])) (hP : va_P D vwCl (wz n ad F ++ [(q, x)]) H) : ∃ ad' : Nat → Nat, ad' n = q ∧ (∀ k, k < n → ad' k = ad k) ∧ ndz (n + 1) ad' ∧ (∀ i, i < n + 1 → A (ad' i)) ∧ va_P D vwCl (wz (n + 1) ad' (fun k => if k = n then x else F k)) H := by
  have hlen : (wz n ad F).length = n := by simp [wz]
  have hr : (wz n ad F ++ [(q, x)])[n]? = some (q, x) := by
    rw [List.getElem?_append_right (by omega), hlen, Nat.sub_self]
    rfl
  have hlf : ∀ k, k < n → (wz n ad F ++ [(q, x)])[k]? = some (ad k, F k) := fun k hk => by
    rw [List.getElem?_append_left (by omega)]
    exact wz_at hk
  have hne : ∀ i, i < n → ad i ≠ q := fun i hi h => by
    have h1 := hD.1 i n _ _ (hlf i hi) hr h
    omega
  refine ⟨fun k => if k = n then q else ad k, if_pos rfl, fun k hk => if_neg (by omega), fun i j hi hj h => ?_, fun i hi => ?_, fun k y hk => ?_⟩
  · have h9 : (if i = n then q else ad i) = (if j = n then q else ad j) := h
    by_cases q1 : i = n
    · by_cases q2 : j = n
      · omega
      · rw [if_pos q1, if_neg q2] at h9
        exact absurd h9.symm (hne j (by omega))
    · by_cases q2 : j = n
      · rw [if_neg q1, if_pos q2] at h9
        exact absurd h9 (hne i (by omega))
      · rw [if_neg q1, if_neg q2] at h9
        exact hnd i j (by omega) (by omega) h9
  · show A (if i = n then q else ad i)
    by_cases q1 : i = n
    · rw [if_pos q1]
      exact hD.2 n _ hr
    · rw [if_neg q1]
      exact hAd i (by omega)
  · obtain ⟨h1, rfl⟩ := wz_inv hk
    show va_at D vwCl ((if k = n then q else ad k), (if k = n then x else F k)) H
    by_cases q1 : k = n
    · rw [if_pos q1, if_pos q1]
      exact hP n _ hr
    · rw [if_neg q1, if_neg q1]
      exact hP k _ (hlf k (by omega))
theorem zn_I (hx : p.tables.exec = Jvm.exec) (hb : c.code = cc) (harr : (Cond.arrayClass .int).before args s = true) (hK : va_K D vwCl [(cI, .int), (cJ, .long), (cQ, .array .int)] s) (hP : va_P D vwCl (wz n ad F) H) (hnd : ndz n ad) (hAd : ∀ i, i < n → zA z0 (ad i)) (hS : va_S (zA z0) H0 H locs) (hz : z0 ≤ H0.size) (hN : N ≤ 1000) (hc : cells + 1 ≤ R.cells) (hs : slots + N ≤ R.slots) (hdg : decode cc pc = .ok (.newarray .int, 2))
    (kk : ∀ (ad' : Nat → Nat) (H1 : Heap), (∀ k, k < n → ad' k = ad k) → ndz (n + 1) ad' → (∀ i, i < n + 1 → zA z0 (ad' i)) → va_P D vwCl (wz (n + 1) ad' (fun k => if k = n then .inl (cI, N, .inl (fun _ => nI 0)) else F k)) H1 → va_S (zA z0) H0 H1 locs → W p l e R s m args below meth c H1 locs (cells + 1) (slots + N) Q (F0 m (pc + 2) ls (.ref (ad' n) :: rest))) : W p l e R s m args below meth c H locs cells slots Q (F0 m pc ls (.int (nI N) :: rest)) := by
  refine va_newa (atype := .int) (ty := .int) (a0 := (N, .inl (fun _ => nI 0))) hx hb harr rfl hK hP (wz_D hnd hAd) hS (fun q h => Nat.le_trans hz h) (fun _ => rfl) (nI_pos (by omega)) (nI_clamp (by omega)) (by show N * 4 ≤ _; omega) hc hs hdg (fun q cA H1 hK1 hP1 hD1 hS1 => ?_)
  have eI : cI = cA := Option.some.inj ((hK1.2 0 _ rfl).2.symm.trans (hK1.2 3 _ rfl).2)
  subst eI
  obtain ⟨ad', rfl, h2, h3, h4, h5⟩ := zn_end hnd hAd hD1 hP1
  exact kk ad' H1 h2 h3 h4 h5 hS1
theorem zn_L (hx : p.tables.exec = Jvm.exec) (hb : c.code = cc) (harr : (Cond.arrayClass .long).before args s = true) (hK : va_K D vwCl [(cI, .int), (cJ, .long), (cQ, .array .int)] s) (hP : va_P D vwCl (wz n ad F) H) (hnd : ndz n ad) (hAd : ∀ i, i < n → zA z0 (ad i)) (hS : va_S (zA z0) H0 H locs) (hz : z0 ≤ H0.size) (hN : N ≤ 1000) (hc : cells + 1 ≤ R.cells) (hs : slots + N ≤ R.slots) (hdg : decode cc pc = .ok (.newarray .long, 2))
    (kk : ∀ (ad' : Nat → Nat) (H1 : Heap), (∀ k, k < n → ad' k = ad k) → ndz (n + 1) ad' → (∀ i, i < n + 1 → zA z0 (ad' i)) → va_P D vwCl (wz (n + 1) ad' (fun k => if k = n then .inl (cJ, N, .inr (.inl (fun _ => lN 0))) else F k)) H1 → va_S (zA z0) H0 H1 locs → W p l e R s m args below meth c H1 locs (cells + 1) (slots + N) Q (F0 m (pc + 2) ls (.ref (ad' n) :: rest))) : W p l e R s m args below meth c H locs cells slots Q (F0 m pc ls (.int (nI N) :: rest)) := by
  refine va_newa (atype := .long) (ty := .long) (a0 := (N, .inr (.inl (fun _ => lN 0)))) hx hb harr rfl hK hP (wz_D hnd hAd) hS (fun q h => Nat.le_trans hz h) (fun _ => rfl) (nI_pos (by omega)) (nI_clamp (by omega)) (by show N * 8 ≤ _; omega) hc hs hdg (fun q cA H1 hK1 hP1 hD1 hS1 => ?_)
  have eJ : cJ = cA := Option.some.inj ((hK1.2 1 _ rfl).2.symm.trans (hK1.2 3 _ rfl).2)
  subst eJ
  obtain ⟨ad', rfl, h2, h3, h4, h5⟩ := zn_end hnd hAd hD1 hP1
  exact kk ad' H1 h2 h3 h4 h5 hS1
end ZN
