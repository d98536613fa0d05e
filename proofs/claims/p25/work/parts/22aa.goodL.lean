set_option maxRecDepth 20000 in
theorem ggL_lower_L_reach : GoodIn wsL_lower wsL_reach := goodIn_r _ [4] (by decide +kernel) (by decide +kernel)
set_option maxRecDepth 20000 in
theorem gL_lower_L_reach : GoodIn wsL_lower (va_wsS RL 9 yL_reach wsL_reach) := goodIn_app (goodIn_of _ (by decide +kernel)) ggL_lower_L_reach
set_option maxRecDepth 20000 in
theorem ggL_lowers_L_lower : GoodIn wsL_lowers wsL_lower := goodIn_r _ [4, 5, 6, 3, 7] (by decide +kernel) (by decide +kernel)
set_option maxRecDepth 20000 in
theorem gL_lowers_L_lower : GoodIn wsL_lowers (va_wsS RL 15 yL_lower wsL_lower) := goodIn_app (goodIn_of _ (by decide +kernel)) ggL_lowers_L_lower
set_option maxRecDepth 20000 in
theorem ggL_all_L_reach : GoodIn wsL_all wsL_reach := goodIn_r _ [4] (by decide +kernel) (by decide +kernel)
set_option maxRecDepth 20000 in
theorem gL_all_L_reach : GoodIn wsL_all (va_wsS RL 9 yL_reach wsL_reach) := goodIn_app (goodIn_of _ (by decide +kernel)) ggL_all_L_reach
set_option maxRecDepth 20000 in
theorem ggL_burden_L_all : GoodIn wsL_burden wsL_all := goodIn_r _ [4, 5, 6, 3, 7] (by decide +kernel) (by decide +kernel)
set_option maxRecDepth 20000 in
theorem gL_burden_L_all : GoodIn wsL_burden (va_wsS RL 19 yL_all wsL_all) := goodIn_app (goodIn_of _ (by decide +kernel)) ggL_burden_L_all
set_option maxRecDepth 20000 in
theorem ggL_trades_L_burden : GoodIn wsL_trades wsL_burden := goodIn_r _ [4, 5, 6, 3, 7, 8, 9, 10] (by decide +kernel) (by decide +kernel)
set_option maxRecDepth 20000 in
theorem gL_trades_L_burden : GoodIn wsL_trades (va_wsS RL 23 yL_burden wsL_burden) := goodIn_app (goodIn_of _ (by decide +kernel)) ggL_trades_L_burden
set_option maxRecDepth 20000 in
theorem ggL_built_X0_well : GoodIn wsL_built wsX0_well := goodIn_ca (goodIn_ca (goodIn_r _ [6, 7, 8, 9, 10, 11, 12, 5, 13, 14, 15, 16, 17, 18, 19, 20, 21, 22, 23, 24, 25, 26, 27, 28, 29, 30, 31, 32] (by decide +kernel) (by decide +kernel)) (goodIn_sub (fun _ h => List.mem_cons_of_mem _ (List.mem_append_left _ (List.mem_append_right _ h))) (by decide +kernel))) (goodIn_sub (fun _ h => List.mem_cons_of_mem _ (List.mem_append_right _ h)) (by decide +kernel))
set_option maxRecDepth 20000 in
theorem gL_built_X0_well : GoodIn wsL_built (wsV RL 27 RX0 yX0_well wsX0_well) := goodIn_app (goodIn_of _ (by decide +kernel)) ggL_built_X0_well
set_option maxRecDepth 20000 in
theorem ggL_watched_X0_watch : GoodIn wsL_watched wsX0_watch := goodIn_ca (goodIn_ca (goodIn_r _ [6, 7, 8, 9, 10, 11, 5, 12, 13, 14, 15, 16, 17, 18, 19, 20, 21, 22, 23, 24, 25, 26, 27, 28, 29, 30, 31] (by decide +kernel) (by decide +kernel)) (goodIn_sub (fun _ h => List.mem_cons_of_mem _ (List.mem_append_left _ (List.mem_append_right _ h))) (by decide +kernel))) (goodIn_sub (fun _ h => List.mem_cons_of_mem _ (List.mem_append_right _ h)) (by decide +kernel))
set_option maxRecDepth 20000 in
theorem gL_watched_X0_watch : GoodIn wsL_watched (wsV RL 35 RX0 yX0_watch wsX0_watch) := goodIn_app (goodIn_of _ (by decide +kernel)) ggL_watched_X0_watch
set_option maxRecDepth 20000 in
theorem ggL_set_X0_response : GoodIn wsL_set wsX0_response := goodIn_ca (goodIn_ca (goodIn_r _ [7, 8, 9, 10, 11, 6, 12, 13, 14, 15, 16, 17, 18, 19, 39, 40, 41, 42, 43, 44, 45, 46, 47, 48, 49, 50] (by decide +kernel) (by decide +kernel)) (goodIn_sub (fun _ h => List.mem_cons_of_mem _ (List.mem_append_left _ (List.mem_append_right _ h))) (by decide +kernel))) (goodIn_sub (fun _ h => List.mem_cons_of_mem _ (List.mem_append_right _ h)) (by decide +kernel))
set_option maxRecDepth 20000 in
theorem gL_set_X0_response : GoodIn wsL_set (wsV RL 39 RX0 yX0_response wsX0_response) := goodIn_app (goodIn_of _ (by decide +kernel)) ggL_set_X0_response
set_option maxRecDepth 20000 in
theorem ggL_set_X0_pump : GoodIn wsL_set wsX0_pump := goodIn_ca (goodIn_ca (goodIn_r _ [23, 24, 25, 10, 11, 6, 12, 13, 14, 15, 16, 17, 18, 19, 39, 40, 41, 42, 43, 44, 45, 46, 47, 48, 49, 50] (by decide +kernel) (by decide +kernel)) (goodIn_sub (fun _ h => List.mem_cons_of_mem _ (List.mem_append_left _ (List.mem_append_right _ h))) (by decide +kernel))) (goodIn_sub (fun _ h => List.mem_cons_of_mem _ (List.mem_append_right _ h)) (by decide +kernel))
set_option maxRecDepth 20000 in
theorem gL_set_X0_pump : GoodIn wsL_set (wsV RL 42 RX0 yX0_pump wsX0_pump) := goodIn_app (goodIn_of _ (by decide +kernel)) ggL_set_X0_pump
set_option maxRecDepth 20000 in
theorem ggL_set_X0_rest : GoodIn wsL_set wsX0_rest := goodIn_ca (goodIn_ca (goodIn_r _ [29, 24, 30, 31, 32, 33, 25, 10, 11, 6, 12, 13, 14, 15, 16, 17, 18, 19, 39, 40, 41, 42, 43, 44, 45, 46, 47, 48, 49, 50] (by decide +kernel) (by decide +kernel)) (goodIn_sub (fun _ h => List.mem_cons_of_mem _ (List.mem_append_left _ (List.mem_append_right _ h))) (by decide +kernel))) (goodIn_sub (fun _ h => List.mem_cons_of_mem _ (List.mem_append_right _ h)) (by decide +kernel))
set_option maxRecDepth 20000 in
theorem gL_set_X0_rest : GoodIn wsL_set (wsV RL 45 RX0 yX0_rest wsX0_rest) := goodIn_app (goodIn_of _ (by decide +kernel)) ggL_set_X0_rest
set_option maxRecDepth 20000 in
theorem ggL_set_X0_ratio : GoodIn wsL_set wsX0_ratio := goodIn_ca (goodIn_ca (goodIn_r _ [37, 38, 10, 11, 6, 12, 13, 14, 15, 16, 17, 18, 19, 39, 40, 41, 42, 43, 44, 45, 46, 47, 48, 49, 50] (by decide +kernel) (by decide +kernel)) (goodIn_sub (fun _ h => List.mem_cons_of_mem _ (List.mem_append_left _ (List.mem_append_right _ h))) (by decide +kernel))) (goodIn_sub (fun _ h => List.mem_cons_of_mem _ (List.mem_append_right _ h)) (by decide +kernel))
set_option maxRecDepth 20000 in
theorem gL_set_X0_ratio : GoodIn wsL_set (wsV RL 48 RX0 yX0_ratio wsX0_ratio) := goodIn_app (goodIn_of _ (by decide +kernel)) ggL_set_X0_ratio
set_option maxRecDepth 20000 in
theorem ggL_of_X0_pumped : GoodIn wsL_of wsX0_pumped := goodIn_ca (goodIn_r _ [6, 7, 8, 9, 5, 10, 11, 12, 13, 14, 15, 16, 17, 101, 102, 103, 104, 105, 106, 107, 108, 109, 110, 111, 112] (by decide +kernel) (by decide +kernel)) (goodIn_sub (fun _ h => List.mem_cons_of_mem _ (List.mem_append_right _ h)) (by decide +kernel))
set_option maxRecDepth 20000 in
theorem gL_of_X0_pumped : GoodIn wsL_of (wsV RL 53 RX0 yX0_pumped wsX0_pumped) := goodIn_app (goodIn_of _ (by decide +kernel)) ggL_of_X0_pumped
set_option maxRecDepth 20000 in
theorem ggL_of_X0_headroom : GoodIn wsL_of wsX0_headroom := goodIn_ca (goodIn_r _ [21, 7, 17, 22, 23, 24, 25, 26, 8, 9, 5, 10, 11, 12, 27, 28, 29, 30, 31, 32, 33, 34, 35, 36, 37, 38, 39, 40, 41, 42, 43, 44, 45, 46, 47, 48, 49, 50, 51, 52, 53, 54, 55, 56, 57, 101, 102, 103, 104, 105, 106, 107, 108, 109, 110, 111, 112] (by decide +kernel) (by decide +kernel)) (goodIn_sub (fun _ h => List.mem_cons_of_mem _ (List.mem_append_right _ h)) (by decide +kernel))
set_option maxRecDepth 20000 in
theorem gL_of_X0_headroom : GoodIn wsL_of (wsV RL 56 RX0 yX0_headroom wsX0_headroom) := goodIn_app (goodIn_of _ (by decide +kernel)) ggL_of_X0_headroom
set_option maxRecDepth 20000 in
theorem ggL_of_X0_heaviest : GoodIn wsL_of wsX0_heaviest := goodIn_ca (goodIn_r _ [61, 22, 7, 8, 9, 5, 10, 11, 12, 62, 63, 64, 65, 17, 27, 28, 29, 30, 31, 32, 33, 34, 25, 35, 44, 45, 46, 47, 48, 101, 102, 103, 104, 105, 106, 107, 108, 109, 110, 111, 112] (by decide +kernel) (by decide +kernel)) (goodIn_sub (fun _ h => List.mem_cons_of_mem _ (List.mem_append_right _ h)) (by decide +kernel))
set_option maxRecDepth 20000 in
theorem gL_of_X0_heaviest : GoodIn wsL_of (wsV RL 59 RX0 yX0_heaviest wsX0_heaviest) := goodIn_app (goodIn_of _ (by decide +kernel)) ggL_of_X0_heaviest
set_option maxRecDepth 20000 in
theorem ggL_of_X0_takenLate : GoodIn wsL_of wsX0_takenLate := goodIn_ca (goodIn_r _ [69, 7, 8, 9, 5, 10, 11, 12, 70, 71, 72, 73, 31, 17, 74, 75, 76, 101, 102, 103, 104, 105, 106, 107, 108, 109, 110, 111, 112] (by decide +kernel) (by decide +kernel)) (goodIn_sub (fun _ h => List.mem_cons_of_mem _ (List.mem_append_right _ h)) (by decide +kernel))
set_option maxRecDepth 20000 in
theorem gL_of_X0_takenLate : GoodIn wsL_of (wsV RL 62 RX0 yX0_takenLate wsX0_takenLate) := goodIn_app (goodIn_of _ (by decide +kernel)) ggL_of_X0_takenLate
set_option maxRecDepth 20000 in
theorem ggL_of_X0_beyond : GoodIn wsL_of wsX0_beyond := goodIn_ca (goodIn_r _ [80, 7, 81, 82, 83, 25, 84, 8, 9, 5, 10, 11, 12, 13, 14, 15, 16, 17, 101, 102, 103, 104, 105, 106, 107, 108, 109, 110, 111, 112] (by decide +kernel) (by decide +kernel)) (goodIn_sub (fun _ h => List.mem_cons_of_mem _ (List.mem_append_right _ h)) (by decide +kernel))
set_option maxRecDepth 20000 in
theorem gL_of_X0_beyond : GoodIn wsL_of (wsV RL 65 RX0 yX0_beyond wsX0_beyond) := goodIn_app (goodIn_of _ (by decide +kernel)) ggL_of_X0_beyond
set_option maxRecDepth 20000 in
theorem ggL_of_X0_taken : GoodIn wsL_of wsX0_taken := goodIn_ca (goodIn_r _ [88, 7, 8, 9, 5, 10, 11, 12, 70, 71, 72, 73, 31, 17, 74, 75, 76, 101, 102, 103, 104, 105, 106, 107, 108, 109, 110, 111, 112] (by decide +kernel) (by decide +kernel)) (goodIn_sub (fun _ h => List.mem_cons_of_mem _ (List.mem_append_right _ h)) (by decide +kernel))
set_option maxRecDepth 20000 in
theorem gL_of_X0_taken : GoodIn wsL_of (wsV RL 69 RX0 yX0_taken wsX0_taken) := goodIn_app (goodIn_of _ (by decide +kernel)) ggL_of_X0_taken
set_option maxRecDepth 20000 in
theorem ggL_of_X0_licence : GoodIn wsL_of wsX0_licence := goodIn_ca (goodIn_r _ [92, 7, 81, 8, 9, 5, 10, 11, 12, 101, 102, 103, 104, 105, 106, 107, 108, 109, 110, 111, 112] (by decide +kernel) (by decide +kernel)) (goodIn_sub (fun _ h => List.mem_cons_of_mem _ (List.mem_append_right _ h)) (by decide +kernel))
set_option maxRecDepth 20000 in
theorem gL_of_X0_licence : GoodIn wsL_of (wsV RL 72 RX0 yX0_licence wsX0_licence) := goodIn_app (goodIn_of _ (by decide +kernel)) ggL_of_X0_licence
set_option maxRecDepth 20000 in
theorem ggL_of_X0_worstMonth : GoodIn wsL_of wsX0_worstMonth := goodIn_ca (goodIn_r _ [96, 22, 8, 9, 5, 10, 11, 12, 54, 55, 56, 57, 7, 17, 27, 28, 29, 30, 31, 32, 33, 34, 25, 35, 44, 45, 46, 47, 48, 101, 102, 103, 104, 105, 106, 107, 108, 109, 110, 111, 112] (by decide +kernel) (by decide +kernel)) (goodIn_sub (fun _ h => List.mem_cons_of_mem _ (List.mem_append_right _ h)) (by decide +kernel))
set_option maxRecDepth 20000 in
theorem gL_of_X0_worstMonth : GoodIn wsL_of (wsV RL 75 RX0 yX0_worstMonth wsX0_worstMonth) := goodIn_app (goodIn_of _ (by decide +kernel)) ggL_of_X0_worstMonth
set_option maxRecDepth 20000 in
theorem ggL_of_X0_over : GoodIn wsL_of wsX0_over := goodIn_ca (goodIn_r _ [100, 22, 8, 9, 5, 10, 11, 12, 49, 50, 51, 52, 40, 53, 54, 55, 56, 57, 7, 17, 27, 28, 29, 30, 31, 32, 33, 34, 25, 35, 44, 45, 46, 47, 48, 101, 102, 103, 104, 105, 106, 107, 108, 109, 110, 111, 112] (by decide +kernel) (by decide +kernel)) (goodIn_sub (fun _ h => List.mem_cons_of_mem _ (List.mem_append_right _ h)) (by decide +kernel))
set_option maxRecDepth 20000 in
theorem gL_of_X0_over : GoodIn wsL_of (wsV RL 78 RX0 yX0_over wsX0_over) := goodIn_app (goodIn_of _ (by decide +kernel)) ggL_of_X0_over
set_option maxRecDepth 20000 in
theorem ggL_down_X0_drawdown : GoodIn wsL_down wsX0_drawdown := goodIn_ca (goodIn_r _ [7, 8, 9, 10, 6, 11, 12, 13, 14, 15, 16, 17, 18, 19, 20, 21, 22, 23, 24, 25, 26, 27, 28, 29, 30, 31, 32, 33, 34, 54, 55, 56, 57, 58, 59, 60, 61, 62, 63, 64, 65] (by decide +kernel) (by decide +kernel)) (goodIn_sub (fun _ h => List.mem_cons_of_mem _ (List.mem_append_right _ h)) (by decide +kernel))
set_option maxRecDepth 20000 in
theorem gL_down_X0_drawdown : GoodIn wsL_down (wsV RL 81 RX0 yX0_drawdown wsX0_drawdown) := goodIn_app (goodIn_of _ (by decide +kernel)) ggL_down_X0_drawdown
set_option maxRecDepth 20000 in
theorem ggL_down_X0_drawdownByPulses : GoodIn wsL_down wsX0_drawdownByPulses := goodIn_ca (goodIn_r _ [38, 8, 39, 18, 19, 9, 10, 6, 11, 12, 13, 20, 21, 22, 23, 24, 25, 26, 27, 28, 29, 40, 41, 42, 43, 30, 31, 32, 33, 34, 54, 55, 56, 57, 58, 59, 60, 61, 62, 63, 64, 65] (by decide +kernel) (by decide +kernel)) (goodIn_sub (fun _ h => List.mem_cons_of_mem _ (List.mem_append_right _ h)) (by decide +kernel))
set_option maxRecDepth 20000 in
theorem gL_down_X0_drawdownByPulses : GoodIn wsL_down (wsV RL 85 RX0 yX0_drawdownByPulses wsX0_drawdownByPulses) := goodIn_app (goodIn_of _ (by decide +kernel)) ggL_down_X0_drawdownByPulses
set_option maxRecDepth 20000 in
theorem ggL_down_X0_burden : GoodIn wsL_down wsX0_burden := goodIn_ca (goodIn_r _ [47, 8, 18, 48, 9, 10, 6, 11, 12, 13, 49, 50, 51, 52, 53, 20, 21, 22, 23, 24, 25, 26, 27, 28, 29, 54, 55, 56, 57, 58, 59, 60, 61, 62, 63, 64, 65] (by decide +kernel) (by decide +kernel)) (goodIn_sub (fun _ h => List.mem_cons_of_mem _ (List.mem_append_right _ h)) (by decide +kernel))
set_option maxRecDepth 20000 in
theorem gL_down_X0_burden : GoodIn wsL_down (wsV RL 88 RX0 yX0_burden wsX0_burden) := goodIn_app (goodIn_of _ (by decide +kernel)) ggL_down_X0_burden
set_option maxRecDepth 20000 in
theorem ggL_traded_X0_trade : GoodIn wsL_traded wsX0_trade := goodIn_ca (goodIn_ca (goodIn_ca (goodIn_r _ [8, 9, 10, 11, 12, 7, 13, 14, 15, 16, 17, 18, 19, 20, 21, 22, 23, 24, 25, 26, 27, 28, 29, 30, 31, 32, 33, 34, 35, 36, 37, 38, 39, 40, 41, 42, 43, 44, 45, 46, 47, 48, 49, 50, 51, 52, 53, 54, 55, 56, 57, 58, 59, 60, 61, 62, 63, 64, 65, 66, 67] (by decide +kernel) (by decide +kernel)) (goodIn_sub (fun _ h => List.mem_cons_of_mem _ (List.mem_append_left _ (List.mem_append_left _ (List.mem_append_right _ h)))) (by decide +kernel))) (goodIn_sub (fun _ h => List.mem_cons_of_mem _ (List.mem_append_left _ (List.mem_append_right _ h))) (by decide +kernel))) (goodIn_sub (fun _ h => List.mem_cons_of_mem _ (List.mem_append_right _ h)) (by decide +kernel))
set_option maxRecDepth 20000 in
theorem gL_traded_X0_trade : GoodIn wsL_traded (wsV RL 93 RX0 yX0_trade wsX0_trade) := goodIn_app (goodIn_of _ (by decide +kernel)) ggL_traded_X0_trade
set_option maxRecDepth 20000 in
theorem ggL_most_X0_mostTraded : GoodIn wsL_most wsX0_mostTraded := goodIn_ca (goodIn_ca (goodIn_r _ [7, 8, 9, 10, 11, 12, 13, 14, 15, 6, 16, 17, 18, 19, 20, 21, 22, 23, 24, 25, 26, 27, 28, 29, 30, 31, 32, 33, 34, 35, 36, 37, 38, 39, 40, 41, 42, 43, 44, 45, 46, 47, 48, 49, 50, 51, 52, 53, 54, 55, 56, 57, 58, 59, 60, 61] (by decide +kernel) (by decide +kernel)) (goodIn_sub (fun _ h => List.mem_cons_of_mem _ (List.mem_append_left _ (List.mem_append_right _ h))) (by decide +kernel))) (goodIn_sub (fun _ h => List.mem_cons_of_mem _ (List.mem_append_right _ h)) (by decide +kernel))
set_option maxRecDepth 20000 in
theorem gL_most_X0_mostTraded : GoodIn wsL_most (wsV RL 98 RX0 yX0_mostTraded wsX0_mostTraded) := goodIn_app (goodIn_of _ (by decide +kernel)) ggL_most_X0_mostTraded
set_option maxRecDepth 20000 in
theorem ggL_lays_L_some : GoodIn wsL_lays wsL_some := goodIn_r _ [4] (by decide +kernel) (by decide +kernel)
set_option maxRecDepth 20000 in
theorem gL_lays_L_some : GoodIn wsL_lays (va_wsS RL 101 yL_some wsL_some) := goodIn_app (goodIn_of _ (by decide +kernel)) ggL_lays_L_some
set_option maxRecDepth 20000 in
theorem ggL_lays_L_built : GoodIn wsL_lays wsL_built := goodIn_ca (goodIn_ca (goodIn_r _ [7, 8, 9, 10, 11, 12, 13, 14, 15, 16, 17, 18, 19, 20, 21, 22, 23, 24, 25, 26, 27, 71, 72, 73, 74, 75, 76, 77, 78, 79, 80, 81, 82] (by decide +kernel) (by decide +kernel)) (goodIn_sub (fun _ h => List.mem_cons_of_mem _ (List.mem_append_left _ (List.mem_append_left _ (List.mem_append_right _ h)))) (by decide +kernel))) (goodIn_sub (fun _ h => List.mem_cons_of_mem _ (List.mem_append_left _ (List.mem_append_right _ h))) (by decide +kernel))
set_option maxRecDepth 20000 in
theorem gL_lays_L_built : GoodIn wsL_lays (va_wsS RL 104 yL_built wsL_built) := goodIn_app (goodIn_of _ (by decide +kernel)) ggL_lays_L_built
set_option maxRecDepth 20000 in
theorem ggL_lays_L_watched : GoodIn wsL_lays wsL_watched := goodIn_ca (goodIn_ca (goodIn_r _ [30, 8, 31, 32, 33, 12, 34, 35, 36, 37, 18, 19, 20, 21, 22, 23, 24, 25, 26, 27, 71, 72, 73, 74, 75, 76, 77, 78, 79, 80, 81, 82] (by decide +kernel) (by decide +kernel)) (goodIn_sub (fun _ h => List.mem_cons_of_mem _ (List.mem_append_left _ (List.mem_append_left _ (List.mem_append_right _ h)))) (by decide +kernel))) (goodIn_sub (fun _ h => List.mem_cons_of_mem _ (List.mem_append_left _ (List.mem_append_right _ h))) (by decide +kernel))
set_option maxRecDepth 20000 in
theorem gL_lays_L_watched : GoodIn wsL_lays (va_wsS RL 108 yL_watched wsL_watched) := goodIn_app (goodIn_of _ (by decide +kernel)) ggL_lays_L_watched
set_option maxRecDepth 20000 in
theorem ggL_lays_L_set : GoodIn wsL_lays wsL_set := goodIn_ca (goodIn_ca (goodIn_r _ [40, 41, 8, 42, 43, 44, 12, 45, 46, 47, 48, 49, 50, 51, 52, 18, 19, 20, 21, 22, 53, 54, 55, 56, 14, 57, 58, 59, 60, 61, 62, 63, 64, 65, 66, 67, 68, 69, 70, 71, 72, 73, 74, 75, 76, 77, 78, 79, 80, 81, 82] (by decide +kernel) (by decide +kernel)) (goodIn_sub (fun _ h => List.mem_cons_of_mem _ (List.mem_append_right _ h)) (by decide +kernel))) (goodIn_sub (fun _ h => List.mem_cons_of_mem _ (List.mem_append_left _ (List.mem_append_left _ (List.mem_append_right _ h)))) (by decide +kernel))
set_option maxRecDepth 20000 in
theorem gL_lays_L_set : GoodIn wsL_lays (va_wsS RL 112 yL_set wsL_set) := goodIn_app (goodIn_of _ (by decide +kernel)) ggL_lays_L_set
set_option maxRecDepth 20000 in
theorem ggL_pumps_L_some : GoodIn wsL_pumps wsL_some := goodIn_r _ [4] (by decide +kernel) (by decide +kernel)
set_option maxRecDepth 20000 in
theorem gL_pumps_L_some : GoodIn wsL_pumps (va_wsS RL 101 yL_some wsL_some) := goodIn_app (goodIn_of _ (by decide +kernel)) ggL_pumps_L_some
set_option maxRecDepth 20000 in
theorem ggL_pumps_L_set : GoodIn wsL_pumps wsL_set := goodIn_ca (goodIn_ca (goodIn_r _ [7, 8, 9, 10, 11, 12, 13, 14, 15, 16, 17, 18, 19, 20, 21, 22, 23, 24, 25, 26, 27, 28, 29, 30, 31, 32, 33, 34, 35, 36, 37, 38, 39, 40, 41, 42, 43, 44, 45, 46, 47, 48, 49, 50, 51, 52, 53, 54, 55, 56, 57] (by decide +kernel) (by decide +kernel)) (goodIn_sub (fun _ h => List.mem_cons_of_mem _ (List.mem_append_left _ (List.mem_append_right _ h))) (by decide +kernel))) (goodIn_sub (fun _ h => List.mem_cons_of_mem _ (List.mem_append_right _ h)) (by decide +kernel))
set_option maxRecDepth 20000 in
theorem gL_pumps_L_set : GoodIn wsL_pumps (va_wsS RL 112 yL_set wsL_set) := goodIn_app (goodIn_of _ (by decide +kernel)) ggL_pumps_L_set
set_option maxRecDepth 20000 in
theorem ggL_deals_L_some : GoodIn wsL_deals wsL_some := goodIn_r _ [4] (by decide +kernel) (by decide +kernel)
set_option maxRecDepth 20000 in
theorem gL_deals_L_some : GoodIn wsL_deals (va_wsS RL 101 yL_some wsL_some) := goodIn_app (goodIn_of _ (by decide +kernel)) ggL_deals_L_some
set_option maxRecDepth 20000 in
theorem ggL_deals_L_trades : GoodIn wsL_deals wsL_trades := goodIn_r _ [7, 8, 9, 3, 10, 11, 12, 13, 14, 15, 16] (by decide +kernel) (by decide +kernel)
set_option maxRecDepth 20000 in
theorem gL_deals_L_trades : GoodIn wsL_deals (va_wsS RL 116 yL_trades wsL_trades) := goodIn_app (goodIn_of _ (by decide +kernel)) ggL_deals_L_trades
set_option maxRecDepth 20000 in
theorem ggL_deals_L_most : GoodIn wsL_deals wsL_most := goodIn_ca (goodIn_ca (goodIn_r _ [19, 20, 21, 22, 23, 24, 25, 26, 27, 28, 29, 30, 31, 32, 33, 34, 35, 36, 37, 38, 39, 40, 41, 42, 43, 44, 45, 46, 47, 48, 49, 50, 51, 52, 53, 54, 55, 56, 57, 58, 59, 60, 61, 62, 63, 64, 65, 66, 67, 68, 85, 86, 87, 88, 89, 90, 91, 92, 93, 94, 95, 96] (by decide +kernel) (by decide +kernel)) (goodIn_sub (fun _ h => List.mem_cons_of_mem _ (List.mem_append_left _ (List.mem_append_left _ (List.mem_append_right _ h)))) (by decide +kernel))) (goodIn_sub (fun _ h => List.mem_cons_of_mem _ (List.mem_append_left _ (List.mem_append_right _ h))) (by decide +kernel))
set_option maxRecDepth 20000 in
theorem gL_deals_L_most : GoodIn wsL_deals (va_wsS RL 120 yL_most wsL_most) := goodIn_app (goodIn_of _ (by decide +kernel)) ggL_deals_L_most
set_option maxRecDepth 20000 in
theorem ggL_deals_L_traded : GoodIn wsL_deals wsL_traded := goodIn_ca (goodIn_ca (goodIn_ca (goodIn_r _ [71, 20, 21, 72, 73, 74, 75, 25, 76, 27, 32, 33, 34, 35, 36, 37, 38, 39, 40, 41, 42, 43, 77, 78, 79, 44, 45, 46, 47, 48, 49, 50, 51, 52, 53, 54, 55, 56, 57, 58, 59, 60, 61, 62, 63, 64, 65, 66, 67, 30, 68, 80, 81, 82, 83, 84, 85, 86, 87, 88, 89, 90, 91, 92, 93, 94, 95, 96] (by decide +kernel) (by decide +kernel)) (goodIn_sub (fun _ h => List.mem_cons_of_mem _ (List.mem_append_left _ (List.mem_append_left _ (List.mem_append_right _ h)))) (by decide +kernel))) (goodIn_sub (fun _ h => List.mem_cons_of_mem _ (List.mem_append_left _ (List.mem_append_right _ h))) (by decide +kernel))) (goodIn_sub (fun _ h => List.mem_cons_of_mem _ (List.mem_append_right _ h)) (by decide +kernel))
set_option maxRecDepth 20000 in
theorem gL_deals_L_traded : GoodIn wsL_deals (va_wsS RL 123 yL_traded wsL_traded) := goodIn_app (goodIn_of _ (by decide +kernel)) ggL_deals_L_traded
set_option maxRecDepth 20000 in
theorem ggL_watches_L_some : GoodIn wsL_watches wsL_some := goodIn_r _ [7] (by decide +kernel) (by decide +kernel)
set_option maxRecDepth 20000 in
theorem gL_watches_L_some : GoodIn wsL_watches (va_wsS RL 101 yL_some wsL_some) := goodIn_app (goodIn_of _ (by decide +kernel)) ggL_watches_L_some
set_option maxRecDepth 20000 in
theorem ggL_watches_L_lowers : GoodIn wsL_watches wsL_lowers := goodIn_r _ [10, 11, 12, 6, 13, 14, 15, 16] (by decide +kernel) (by decide +kernel)
set_option maxRecDepth 20000 in
theorem gL_watches_L_lowers : GoodIn wsL_watches (va_wsS RL 126 yL_lowers wsL_lowers) := goodIn_app (goodIn_of _ (by decide +kernel)) ggL_watches_L_lowers
set_option maxRecDepth 20000 in
theorem ggL_watches_L_reach : GoodIn wsL_watches wsL_reach := goodIn_r _ [16] (by decide +kernel) (by decide +kernel)
set_option maxRecDepth 20000 in
theorem gL_watches_L_reach : GoodIn wsL_watches (va_wsS RL 9 yL_reach wsL_reach) := goodIn_app (goodIn_of _ (by decide +kernel)) ggL_watches_L_reach
set_option maxRecDepth 20000 in
theorem ggL_watches_L_down : GoodIn wsL_watches wsL_down := goodIn_ca (goodIn_r _ [19, 20, 3, 21, 22, 23, 24, 25, 26, 27, 28, 29, 30, 31, 32, 33, 34, 35, 36, 37, 38, 39, 40, 41, 42, 43, 44, 45, 46, 47, 48, 49, 50, 51, 52, 53, 54, 55, 56, 57, 58, 59, 60, 61, 62, 63, 64, 65, 66, 67, 68, 69, 70, 71, 151, 152, 153, 154, 155, 156, 157, 158, 159, 160, 161, 162] (by decide +kernel) (by decide +kernel)) (goodIn_sub (fun _ h => List.mem_cons_of_mem _ (List.mem_append_right _ h)) (by decide +kernel))
set_option maxRecDepth 20000 in
theorem gL_watches_L_down : GoodIn wsL_watches (va_wsS RL 132 yL_down wsL_down) := goodIn_app (goodIn_of _ (by decide +kernel)) ggL_watches_L_down
set_option maxRecDepth 20000 in
theorem ggL_watches_L_of : GoodIn wsL_watches wsL_of := goodIn_ca (goodIn_r _ [74, 20, 75, 76, 77, 24, 78, 36, 27, 28, 29, 30, 31, 79, 80, 81, 82, 37, 83, 84, 85, 86, 26, 87, 88, 46, 89, 38, 39, 40, 41, 42, 43, 44, 45, 47, 90, 91, 92, 93, 94, 95, 96, 97, 48, 49, 50, 51, 52, 98, 99, 100, 101, 102, 32, 33, 34, 35, 103, 104, 105, 106, 107, 108, 109, 110, 111, 112, 113, 114, 115, 116, 117, 118, 119, 120, 121, 122, 123, 124, 125, 66, 126, 127, 128, 129, 130, 131, 132, 133, 134, 135, 136, 137, 138, 139, 140, 141, 142, 143, 144, 151, 152, 153, 154, 155, 156, 157, 158, 159, 160, 161, 162] (by decide +kernel) (by decide +kernel)) (goodIn_sub (fun _ h => List.mem_cons_of_mem _ (List.mem_append_right _ h)) (by decide +kernel))
set_option maxRecDepth 20000 in
theorem gL_watches_L_of : GoodIn wsL_watches (va_wsS RL 136 yL_of wsL_of) := goodIn_app (goodIn_of _ (by decide +kernel)) ggL_watches_L_of
set_option maxRecDepth 20000 in
theorem ggL_watches_L_burden : GoodIn wsL_watches wsL_burden := goodIn_r _ [147, 148, 149, 6, 150, 14, 15, 16] (by decide +kernel) (by decide +kernel)
set_option maxRecDepth 20000 in
theorem gL_watches_L_burden : GoodIn wsL_watches (va_wsS RL 23 yL_burden wsL_burden) := goodIn_app (goodIn_of _ (by decide +kernel)) ggL_watches_L_burden
set_option maxRecDepth 20000 in
theorem ggL_years_L_takes : GoodIn wsL_years wsL_takes := goodIn_r _ [5] (by decide +kernel) (by decide +kernel)
set_option maxRecDepth 20000 in
theorem gL_years_L_takes : GoodIn wsL_years (va_wsS RL 139 yL_takes wsL_takes) := goodIn_app (goodIn_of _ (by decide +kernel)) ggL_years_L_takes
set_option maxRecDepth 20000 in
theorem ggL_years_L_year : GoodIn wsL_years wsL_year := goodIn_r _ [8] (by decide +kernel) (by decide +kernel)
set_option maxRecDepth 20000 in
theorem gL_years_L_year : GoodIn wsL_years (va_wsS RL 143 yL_year wsL_year) := goodIn_app (goodIn_of _ (by decide +kernel)) ggL_years_L_year
set_option maxRecDepth 20000 in
theorem ggL_years_L_of : GoodIn wsL_years wsL_of := goodIn_ca (goodIn_r _ [11, 12, 13, 14, 15, 16, 17, 18, 19, 20, 21, 22, 23, 24, 25, 26, 27, 28, 29, 30, 31, 32, 33, 34, 35, 36, 37, 38, 39, 40, 41, 42, 43, 44, 45, 46, 47, 48, 49, 50, 51, 52, 53, 54, 55, 56, 57, 58, 59, 60, 61, 62, 63, 64, 65, 66, 67, 68, 69, 70, 71, 72, 73, 74, 75, 76, 77, 78, 79, 80, 81, 82, 83, 84, 85, 86, 87, 88, 89, 90, 91, 92, 93, 94, 95, 96, 97, 98, 99, 100, 101, 102, 103, 104, 105, 106, 107, 108, 109, 110, 111, 120, 121, 122, 123, 124, 125, 126, 127, 128, 129, 130, 131] (by decide +kernel) (by decide +kernel)) (goodIn_sub (fun _ h => List.mem_cons_of_mem _ (List.mem_append_right _ h)) (by decide +kernel))
set_option maxRecDepth 20000 in
theorem gL_years_L_of : GoodIn wsL_years (va_wsS RL 136 yL_of wsL_of) := goodIn_app (goodIn_of _ (by decide +kernel)) ggL_years_L_of
set_option maxRecDepth 20000 in
theorem ggL_years_X0_wells : GoodIn wsL_years wsX0_wells := goodIn_r _ [115, 18, 120, 121, 122, 123, 124, 125, 126, 127, 128, 129, 130, 131] (by decide +kernel) (by decide +kernel)
set_option maxRecDepth 20000 in
theorem gL_years_X0_wells : GoodIn wsL_years (wsV RL 147 RX0 yX0_wells wsX0_wells) := goodIn_app (goodIn_of _ (by decide +kernel)) ggL_years_X0_wells
set_option maxRecDepth 20000 in
theorem ggL_years_X0_watches : GoodIn wsL_years wsX0_watches := goodIn_r _ [119, 33, 120, 121, 122, 123, 124, 125, 126, 127, 128, 129, 130, 131] (by decide +kernel) (by decide +kernel)
set_option maxRecDepth 20000 in
theorem gL_years_X0_watches : GoodIn wsL_years (wsV RL 151 RX0 yX0_watches wsX0_watches) := goodIn_app (goodIn_of _ (by decide +kernel)) ggL_years_X0_watches
set_option maxRecDepth 20000 in
theorem ggL_law_X0_init : GoodIn wsL_law wsX0_init := goodIn_r _ [6, 7, 8, 9, 3, 10, 11, 12, 13, 14, 15, 16, 17, 18, 19, 20, 21, 272, 273, 274, 275, 276, 277, 278, 279, 280, 281, 282, 283] (by decide +kernel) (by decide +kernel)
set_option maxRecDepth 20000 in
theorem gL_law_X0_init : GoodIn wsL_law (wsX0_init) := ggL_law_X0_init
set_option maxRecDepth 20000 in
theorem ggL_law_L_cell : GoodIn wsL_law wsL_cell := goodIn_r _ [25, 26] (by decide +kernel) (by decide +kernel)
set_option maxRecDepth 20000 in
theorem gL_law_L_cell : GoodIn wsL_law (va_wsS RL 155 yL_cell wsL_cell) := goodIn_app (goodIn_of _ (by decide +kernel)) ggL_law_L_cell
set_option maxRecDepth 20000 in
theorem ggL_law_L_some : GoodIn wsL_law wsL_some := goodIn_r _ [29] (by decide +kernel) (by decide +kernel)
set_option maxRecDepth 20000 in
theorem gL_law_L_some : GoodIn wsL_law (va_wsS RL 101 yL_some wsL_some) := goodIn_app (goodIn_of _ (by decide +kernel)) ggL_law_L_some
theorem goodIn_c1 {big : List Cond} {c : Cond} (hm : c ∈ big) (h : goodWord c = true) : GoodIn big [c] := fun w hw => by
  rw [List.mem_singleton.mp hw]
  exact ⟨hm, good_of_word h⟩
theorem goodIn_cR {big R : List Cond} {c : Cond} (hc : GoodIn big [c]) (h : GoodIn big R) : GoodIn big (c :: R) := fun w hw => (List.mem_cons.mp hw).elim (fun e => hc w (by rw [e]; exact List.mem_singleton.mpr rfl)) (h w)
set_option maxRecDepth 20000 in
theorem gq_law_lays_1 : GoodIn wsL_law wsL_lays_r1 := goodIn_r _ [27, 28, 24, 29, 33, 34, 35, 36, 37, 38, 39, 2, 40, 41, 10, 11, 12, 42, 43, 44, 45, 46, 47, 48] (by decide +kernel) (by decide +kernel)
set_option maxRecDepth 20000 in
theorem gq_law_lays_2 : GoodIn wsL_law wsL_lays_r2 := goodIn_r _ [49, 50, 51, 52, 53, 54, 55, 56, 57, 58, 59, 15, 16, 60, 61, 62, 63, 64, 65, 66, 67, 17, 18, 68] (by decide +kernel) (by decide +kernel)
set_option maxRecDepth 20000 in
theorem gq_law_lays_3 : GoodIn wsL_law wsL_lays_r3 := goodIn_r _ [69, 70, 71, 72, 73, 74, 75, 76, 14, 77, 78, 79, 80, 81, 82, 83, 84, 85, 86, 87, 88, 19] (by decide +kernel) (by decide +kernel)
set_option maxRecDepth 20000 in
theorem ggL_law_L_lays : GoodIn wsL_law wsL_lays := goodIn_ca (goodIn_ca (goodIn_ca (goodIn_ca (goodIn_cR (goodIn_c1 (List.mem_of_getElem? (i := 32) rfl) (by decide +kernel)) (goodIn_app gq_law_lays_1 (goodIn_app gq_law_lays_2 gq_law_lays_3))) (goodIn_r _ [272, 273, 274, 275, 276, 277, 278, 279, 280, 281, 282, 283] (by decide +kernel) (by decide +kernel))) (goodIn_sub (fun _ h => List.mem_append_left _ (List.mem_append_left _ (List.mem_append_right _ h))) (by decide +kernel))) (goodIn_sub (fun _ h => List.mem_append_left _ (List.mem_append_right _ h)) (by decide +kernel))) (goodIn_sub (fun _ h => List.mem_append_right _ h) (by decide +kernel))
set_option maxRecDepth 20000 in
theorem gL_law_L_lays : GoodIn wsL_law (va_wsS RL 158 yL_lays wsL_lays) := goodIn_app (goodIn_of _ (by decide +kernel)) ggL_law_L_lays
set_option maxRecDepth 20000 in
theorem gq_law_pumps_1 : GoodIn wsL_law wsL_pumps_r1 := goodIn_r _ [27, 28, 24, 29, 60, 61, 62, 63, 36, 64, 65, 66, 2, 67, 17, 18, 68, 69, 70, 71, 72, 42, 43, 44] (by decide +kernel) (by decide +kernel)
set_option maxRecDepth 20000 in
theorem gq_law_pumps_2 : GoodIn wsL_law wsL_pumps_r2 := goodIn_r _ [45, 46, 73, 74, 75, 76, 41, 14, 77, 78, 79, 80, 81, 82, 83, 84, 85, 86, 87, 88, 19] (by decide +kernel) (by decide +kernel)
set_option maxRecDepth 20000 in
theorem ggL_law_L_pumps : GoodIn wsL_law wsL_pumps := goodIn_ca (goodIn_ca (goodIn_ca (goodIn_cR (goodIn_c1 (List.mem_of_getElem? (i := 91) rfl) (by decide +kernel)) (goodIn_app gq_law_pumps_1 gq_law_pumps_2)) (goodIn_r _ [272, 273, 274, 275, 276, 277, 278, 279, 280, 281, 282, 283] (by decide +kernel) (by decide +kernel))) (goodIn_sub (fun _ h => List.mem_append_right _ h) (by decide +kernel))) (goodIn_sub (fun _ h => List.mem_append_left _ (List.mem_append_left _ (List.mem_append_right _ h))) (by decide +kernel))
set_option maxRecDepth 20000 in
theorem gL_law_L_pumps : GoodIn wsL_law (va_wsS RL 162 yL_pumps wsL_pumps) := goodIn_app (goodIn_of _ (by decide +kernel)) ggL_law_L_pumps
set_option maxRecDepth 20000 in
theorem gq_law_deals_1 : GoodIn wsL_law wsL_deals_r1 := goodIn_r _ [27, 28, 24, 29, 95, 96, 97, 98, 99, 100, 101, 102, 103, 104, 105, 106, 107, 108, 109, 63, 36, 110, 111, 112] (by decide +kernel) (by decide +kernel)
set_option maxRecDepth 20000 in
theorem gq_law_deals_2 : GoodIn wsL_law wsL_deals_r2 := goodIn_r _ [2, 113, 12, 81, 82, 83, 84, 114, 115, 116, 117, 45, 46, 41, 68, 69, 70, 71, 72, 118, 119, 120, 121, 59] (by decide +kernel) (by decide +kernel)
set_option maxRecDepth 20000 in
theorem gq_law_deals_3 : GoodIn wsL_law wsL_deals_r3 := goodIn_r _ [122, 123, 124, 125, 19, 11, 126, 127, 128, 129, 18, 130, 131, 132, 133, 10, 15, 134, 135, 136, 137, 138, 139, 140] (by decide +kernel) (by decide +kernel)
set_option maxRecDepth 20000 in
theorem gq_law_deals_4 : GoodIn wsL_law wsL_deals_r4 := goodIn_r _ [141, 142, 143, 144, 42, 43, 44, 47, 48, 49, 50, 51] (by decide +kernel) (by decide +kernel)
set_option maxRecDepth 20000 in
theorem ggL_law_L_deals : GoodIn wsL_law wsL_deals := goodIn_ca (goodIn_ca (goodIn_ca (goodIn_ca (goodIn_cR (goodIn_c1 (List.mem_of_getElem? (i := 94) rfl) (by decide +kernel)) (goodIn_app gq_law_deals_1 (goodIn_app gq_law_deals_2 (goodIn_app gq_law_deals_3 gq_law_deals_4)))) (goodIn_r _ [272, 273, 274, 275, 276, 277, 278, 279, 280, 281, 282, 283] (by decide +kernel) (by decide +kernel))) (goodIn_sub (fun _ h => List.mem_append_left _ (List.mem_append_left _ (List.mem_append_right _ h))) (by decide +kernel))) (goodIn_sub (fun _ h => List.mem_append_right _ h) (by decide +kernel))) (goodIn_sub (fun _ h => List.mem_append_left _ (List.mem_append_right _ h)) (by decide +kernel))
set_option maxRecDepth 20000 in
theorem gL_law_L_deals : GoodIn wsL_law (va_wsS RL 166 yL_deals wsL_deals) := goodIn_app (goodIn_of _ (by decide +kernel)) ggL_law_L_deals
set_option maxRecDepth 20000 in
theorem gq_law_watches_1 : GoodIn wsL_law wsL_watches_r1 := goodIn_r _ [20, 148, 149, 27, 28, 24, 29, 150, 151, 152, 153, 154, 155, 104, 105, 106, 156, 157, 158, 63, 159, 160, 161, 2] (by decide +kernel) (by decide +kernel)
set_option maxRecDepth 20000 in
theorem gq_law_watches_2 : GoodIn wsL_law wsL_watches_r2 := goodIn_r _ [162, 59, 68, 69, 70, 71, 72, 163, 164, 165, 166, 41, 14, 130, 131, 132, 133, 10, 15, 134, 135, 83, 136, 167] (by decide +kernel) (by decide +kernel)
set_option maxRecDepth 20000 in
theorem gq_law_watches_3 : GoodIn wsL_law wsL_watches_r3 := goodIn_r _ [168, 169, 170, 17, 171, 172, 173, 174, 21, 175, 176, 177, 178, 179, 180, 181, 182, 12, 126, 127, 128, 129, 18, 183] (by decide +kernel) (by decide +kernel)
set_option maxRecDepth 20000 in
theorem gq_law_watches_4 : GoodIn wsL_law wsL_watches_r4 := goodIn_r _ [184, 185, 186, 187, 188, 189, 190, 191, 192, 193, 194, 195, 196, 197, 198, 199, 200, 201, 202, 203, 204, 205, 206, 207] (by decide +kernel) (by decide +kernel)
set_option maxRecDepth 20000 in
theorem gq_law_watches_5 : GoodIn wsL_law wsL_watches_r5 := goodIn_r _ [208, 209, 210, 211, 212, 16, 213, 214, 215, 216, 217, 218, 219, 220, 221, 222, 223, 224, 225, 226, 227, 228, 229, 230] (by decide +kernel) (by decide +kernel)
set_option maxRecDepth 20000 in
theorem gq_law_watches_6 : GoodIn wsL_law wsL_watches_r6 := goodIn_r _ [231, 232, 233, 234, 235, 236, 237, 238, 239, 240, 241, 242, 243, 244, 245, 246, 247, 248, 249, 250, 251, 252, 253, 254] (by decide +kernel) (by decide +kernel)
set_option maxRecDepth 20000 in
theorem gq_law_watches_7 : GoodIn wsL_law wsL_watches_r7 := goodIn_r _ [98, 99, 100, 101, 102, 103] (by decide +kernel) (by decide +kernel)
set_option maxRecDepth 20000 in
theorem ggL_law_L_watches : GoodIn wsL_law wsL_watches := goodIn_ca (goodIn_ca (goodIn_cR (goodIn_c1 (List.mem_of_getElem? (i := 147) rfl) (by decide +kernel)) (goodIn_app gq_law_watches_1 (goodIn_app gq_law_watches_2 (goodIn_app gq_law_watches_3 (goodIn_app gq_law_watches_4 (goodIn_app gq_law_watches_5 (goodIn_app gq_law_watches_6 gq_law_watches_7))))))) (goodIn_r _ [272, 273, 274, 275, 276, 277, 278, 279, 280, 281, 282, 283] (by decide +kernel) (by decide +kernel))) (goodIn_sub (fun _ h => List.mem_append_right _ h) (by decide +kernel))
set_option maxRecDepth 20000 in
theorem gL_law_L_watches : GoodIn wsL_law (va_wsS RL 170 yL_watches wsL_watches) := goodIn_app (goodIn_of _ (by decide +kernel)) ggL_law_L_watches
set_option maxRecDepth 20000 in
theorem gq_law_years_1 : GoodIn wsL_law wsL_years_r1 := goodIn_r _ [3, 258, 259, 24, 260, 261, 262, 263, 183, 184, 185, 63, 186, 187, 188, 2, 189, 41, 68, 69, 70, 71, 72, 190] (by decide +kernel) (by decide +kernel)
set_option maxRecDepth 20000 in
theorem gq_law_years_2 : GoodIn wsL_law wsL_years_r2 := goodIn_r _ [191, 192, 193, 14, 194, 195, 196, 197, 59, 198, 199, 83, 200, 130, 131, 132, 133, 10, 15, 134, 135, 136, 201, 202] (by decide +kernel) (by decide +kernel)
set_option maxRecDepth 20000 in
theorem gq_law_years_3 : GoodIn wsL_law wsL_years_r3 := goodIn_r _ [203, 204, 205, 206, 207, 208, 167, 168, 169, 170, 17, 209, 210, 211, 212, 16, 163, 164, 165, 166, 213, 214, 215, 216] (by decide +kernel) (by decide +kernel)
set_option maxRecDepth 20000 in
theorem gq_law_years_4 : GoodIn wsL_law wsL_years_r4 := goodIn_r _ [217, 218, 219, 220, 221, 222, 223, 224, 225, 226, 227, 228, 229, 230, 231, 232, 233, 234, 235, 12, 236, 237, 238, 239] (by decide +kernel) (by decide +kernel)
set_option maxRecDepth 20000 in
theorem gq_law_years_5 : GoodIn wsL_law wsL_years_r5 := goodIn_r _ [240, 241, 242, 243, 244, 245, 246, 247, 248, 249, 250, 251, 252, 253, 254, 264, 265, 266, 267, 268, 269, 270, 271] (by decide +kernel) (by decide +kernel)
set_option maxRecDepth 20000 in
theorem ggL_law_L_years : GoodIn wsL_law wsL_years := goodIn_ca (goodIn_ca (goodIn_cR (goodIn_c1 (List.mem_of_getElem? (i := 257) rfl) (by decide +kernel)) (goodIn_app gq_law_years_1 (goodIn_app gq_law_years_2 (goodIn_app gq_law_years_3 (goodIn_app gq_law_years_4 gq_law_years_5))))) (goodIn_r _ [272, 273, 274, 275, 276, 277, 278, 279, 280, 281, 282, 283] (by decide +kernel) (by decide +kernel))) (goodIn_sub (fun _ h => List.mem_append_right _ h) (by decide +kernel))
set_option maxRecDepth 20000 in
theorem gL_law_L_years : GoodIn wsL_law (va_wsS RL 173 yL_years wsL_years) := goodIn_app (goodIn_of _ (by decide +kernel)) ggL_law_L_years
