/-! the law's words are the tables' -/
theorem in_two {a b t : List Cond} {c : Cond} (h1 : ∀ w ∈ a, w ∈ t) (hc : c ∈ t) (h2 : ∀ w ∈ b, w ∈ t) : ∀ w ∈ a ++ c :: b, w ∈ t := fun w h => (List.mem_append.mp h).elim (h1 w) (fun h => (List.mem_cons.mp h).elim (fun e => by rw [e]; exact hc) (h2 w))
theorem inr1 : ∀ w ∈ wsL_law0_r1, w ∈ lw_tbl := by decide +kernel
theorem inr2c : Cond.code yL_lays cL_lays 14 (some .boolean) ∈ lw_tbl := by
  show _ ∈ k2_sels lw_privs ++ (tables_1_1 ++ tables_1_2)
  exact List.mem_append_right _ (List.mem_append_left _ (List.mem_of_getElem? (i := 67) rfl))
theorem inr2 : ∀ w ∈ wsL_law0_r2, w ∈ lw_tbl := in_two (a := [Cond.initialized RL, Cond.code yL_cell cL_cell 2 (some .int), Cond.constantLong RL 7 (2862933555), Cond.methodLink RL 101 yL_some, Cond.static yL_some, Cond.code yL_some cL_some 2 (some .int), Cond.methodLink RL 158 yL_lays, Cond.static yL_lays]) (b := [Cond.methodLink RL 104 yL_built, Cond.static yL_built, Cond.codeWith yL_built cL_built 5 (some .int) [(0, 7, 8, 33)], Cond.classLink RL 33 "java/lang/IllegalArgumentException", Cond.methodLink RL 27 yX0_well, Cond.instanceMethod yX0_well, Cond.selects RX0 yX0_well yX0_well, Cond.code yX0_well cX0_well 5 (some .int), Cond.fieldLink RX0 47 "WellField" "wellCount" "I", Cond.methodLink RX0 43 yX0_needRange, Cond.static yX0_needRange, Cond.code yX0_needRange cX0_needRange 3 none, Cond.classLink RX0 121 "java/lang/IllegalArgumentException", Cond.initialized "java/lang/IllegalArgumentException", Cond.methodLink RX0 51 yX0_needAllowed]) (by decide +kernel) inr2c (by decide +kernel)
theorem inr3 : ∀ w ∈ wsL_law0_r3, w ∈ lw_tbl := by decide +kernel
theorem inr4 : ∀ w ∈ wsL_law0_r4, w ∈ lw_tbl := by decide +kernel
theorem inr5 : ∀ w ∈ wsL_law0_r5, w ∈ lw_tbl := by decide +kernel
theorem inr6 : ∀ w ∈ wsL_law0_r6, w ∈ lw_tbl := by decide +kernel
theorem inr7c : Cond.code yL_watches cL_watches 28 (some .boolean) ∈ lw_tbl := by
  show _ ∈ k2_sels lw_privs ++ (tables_1_1 ++ tables_1_2)
  exact List.mem_append_right _ (List.mem_append_right _ (List.mem_of_getElem? (i := 34) rfl))
theorem inr7 : ∀ w ∈ wsL_law0_r7, w ∈ lw_tbl := in_two (a := [Cond.code yX0_trade cX0_trade 5 (some .int), Cond.methodLink RL 170 yL_watches, Cond.static yL_watches]) (b := [Cond.constantLong RL 130 (1000), Cond.constantLong RL 91 (-101), Cond.methodLink RL 126 yL_lowers, Cond.static yL_lowers, Cond.code yL_lowers cL_lowers 12 none, Cond.methodLink RL 15 yL_lower, Cond.static yL_lower, Cond.code yL_lower cL_lower 10 none, Cond.methodLink RL 132 yL_down, Cond.static yL_down, Cond.codeWith yL_down cL_down 5 (some .long) [(0, 32, 33, 51)], Cond.methodLink RL 81 yX0_drawdown, Cond.instanceMethod yX0_drawdown, Cond.selects RX0 yX0_drawdown yX0_drawdown, Cond.code yX0_drawdown cX0_drawdown 3 (some .long), Cond.methodLink RX0 74 yX0_loweredIn, Cond.instanceMethod yX0_loweredIn, Cond.selects RX0 yX0_loweredIn yX0_loweredIn, Cond.code yX0_loweredIn cX0_loweredIn 8 (some .long), Cond.methodLink RX0 137 yX0_tableNumber]) (by decide +kernel) inr7c (by decide +kernel)
theorem inr8 : ∀ w ∈ wsL_law0_r8, w ∈ lw_tbl := by decide +kernel
theorem inr9 : ∀ w ∈ wsL_law0_r9, w ∈ lw_tbl := by decide +kernel
theorem inr10 : ∀ w ∈ wsL_law0_r10, w ∈ lw_tbl := by decide +kernel
theorem inr11c : Cond.code yL_years cL_years 17 (some .boolean) ∈ lw_tbl := by
  show _ ∈ k2_sels lw_privs ++ (tables_1_1 ++ tables_1_2)
  exact List.mem_append_right _ (List.mem_append_right _ (List.mem_of_getElem? (i := 144) rfl))
theorem inr11 : ∀ w ∈ wsL_law0_r11, w ∈ lw_tbl := in_two (a := [Cond.instanceMethod yX0_taken, Cond.selects RX0 yX0_taken yX0_taken, Cond.code yX0_taken cX0_taken 4 (some .int), Cond.methodLink RL 72 yX0_licence, Cond.instanceMethod yX0_licence, Cond.selects RX0 yX0_licence yX0_licence, Cond.code yX0_licence cX0_licence 2 (some .int), Cond.methodLink RL 75 yX0_worstMonth, Cond.instanceMethod yX0_worstMonth, Cond.selects RX0 yX0_worstMonth yX0_worstMonth, Cond.code yX0_worstMonth cX0_worstMonth 8 (some .int), Cond.methodLink RL 78 yX0_over, Cond.instanceMethod yX0_over, Cond.selects RX0 yX0_over yX0_over, Cond.code yX0_over cX0_over 4 (some .int), Cond.methodLink RL 173 yL_years, Cond.static yL_years]) (b := [Cond.methodLink RL 139 yL_takes, Cond.static yL_takes, Cond.code yL_takes cL_takes 9 none, Cond.methodLink RL 143 yL_year, Cond.static yL_year, Cond.code yL_year cL_year 4 (some .int)]) (by decide +kernel) inr11c (by decide +kernel)
theorem inr12 : ∀ w ∈ wsL_law0_r12, w ∈ lw_tbl := by decide +kernel
theorem inX0 : ∀ w ∈ wsX00, w ∈ lw_tbl := by decide +kernel
theorem wsL_law_x0 : ∀ w ∈ (vx_atS RX0 125 "java/lang/IllegalArgumentException" ["java/lang/RuntimeException", "java/lang/Exception"]).filter goodWord, w ∈ lw_tbl := by decide +kernel
theorem wsL_law_x1 : ∀ w ∈ (vx_atS RX0 130 "java/lang/IllegalStateException" ["java/lang/RuntimeException", "java/lang/Exception"]).filter goodWord, w ∈ lw_tbl := by decide +kernel
theorem wsL_law_x2 : ∀ w ∈ (vx_atS RX0 118 "java/lang/IndexOutOfBoundsException" ["java/lang/RuntimeException", "java/lang/Exception"]).filter goodWord, w ∈ lw_tbl := by decide +kernel
theorem in_app {a b t : List Cond} (h1 : ∀ w ∈ a, w ∈ t) (h2 : ∀ w ∈ b, w ∈ t) : ∀ w ∈ a ++ b, w ∈ t := fun w h => (List.mem_append.mp h).elim (h1 w) (h2 w)
theorem wsL_law_in0 : ∀ w ∈ wsL_law0, w ∈ lw_tbl := in_app (in_app (in_app inr1 (in_app inr2 (in_app inr3 (in_app inr4 (in_app inr5 (in_app inr6 (in_app inr7 (in_app inr8 (in_app inr9 (in_app inr10 (in_app inr11 inr12))))))))))) inX0) (fun _ h => absurd h List.not_mem_nil)
theorem wsL_law_in : ∀ w ∈ wsL_law, w ∈ lw_tbl := in_app (in_app (in_app wsL_law_in0 wsL_law_x0) wsL_law_x1) wsL_law_x2
