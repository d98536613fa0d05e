theorem dX0_init_0 : decode cX0_init 0 = .ok (.aload_n 0, 1) := by decide +kernel
theorem dX0_init_1 : decode cX0_init 1 = .ok (.invokespecial 1, 3) := by decide +kernel
theorem dX0_init_4 : decode cX0_init 4 = .ok (.aload_n 0, 1) := by decide +kernel
theorem dX0_init_5 : decode cX0_init 5 = .ok (.bipush 8, 2) := by decide +kernel
theorem dX0_init_7 : decode cX0_init 7 = .ok (.newarray .int, 2) := by decide +kernel
theorem dX0_init_9 : decode cX0_init 9 = .ok (.putfield 9, 3) := by decide +kernel
theorem dX0_init_12 : decode cX0_init 12 = .ok (.aload_n 0, 1) := by decide +kernel
theorem dX0_init_13 : decode cX0_init 13 = .ok (.bipush 8, 2) := by decide +kernel
theorem dX0_init_15 : decode cX0_init 15 = .ok (.newarray .int, 2) := by decide +kernel
theorem dX0_init_17 : decode cX0_init 17 = .ok (.putfield 13, 3) := by decide +kernel
theorem dX0_init_20 : decode cX0_init 20 = .ok (.aload_n 0, 1) := by decide +kernel
theorem dX0_init_21 : decode cX0_init 21 = .ok (.bipush 8, 2) := by decide +kernel
theorem dX0_init_23 : decode cX0_init 23 = .ok (.newarray .int, 2) := by decide +kernel
theorem dX0_init_25 : decode cX0_init 25 = .ok (.putfield 16, 3) := by decide +kernel
theorem dX0_init_28 : decode cX0_init 28 = .ok (.aload_n 0, 1) := by decide +kernel
theorem dX0_init_29 : decode cX0_init 29 = .ok (.bipush 8, 2) := by decide +kernel
theorem dX0_init_31 : decode cX0_init 31 = .ok (.bipush 36, 2) := by decide +kernel
theorem dX0_init_33 : decode cX0_init 33 = .ok (.multianewarray 19 2, 4) := by decide +kernel
theorem dX0_init_37 : decode cX0_init 37 = .ok (.putfield 21, 3) := by decide +kernel
theorem dX0_init_40 : decode cX0_init 40 = .ok (.aload_n 0, 1) := by decide +kernel
theorem dX0_init_41 : decode cX0_init 41 = .ok (.iconst 4, 1) := by decide +kernel
theorem dX0_init_42 : decode cX0_init 42 = .ok (.newarray .int, 2) := by decide +kernel
theorem dX0_init_44 : decode cX0_init 44 = .ok (.putfield 24, 3) := by decide +kernel
theorem dX0_init_47 : decode cX0_init 47 = .ok (.aload_n 0, 1) := by decide +kernel
theorem dX0_init_48 : decode cX0_init 48 = .ok (.iconst 4, 1) := by decide +kernel
theorem dX0_init_49 : decode cX0_init 49 = .ok (.newarray .int, 2) := by decide +kernel
theorem dX0_init_51 : decode cX0_init 51 = .ok (.putfield 27, 3) := by decide +kernel
theorem dX0_init_54 : decode cX0_init 54 = .ok (.aload_n 0, 1) := by decide +kernel
theorem dX0_init_55 : decode cX0_init 55 = .ok (.iconst 5, 1) := by decide +kernel
theorem dX0_init_56 : decode cX0_init 56 = .ok (.bipush 12, 2) := by decide +kernel
theorem dX0_init_58 : decode cX0_init 58 = .ok (.multianewarray 19 2, 4) := by decide +kernel
theorem dX0_init_62 : decode cX0_init 62 = .ok (.putfield 30, 3) := by decide +kernel
theorem dX0_init_65 : decode cX0_init 65 = .ok (.aload_n 0, 1) := by decide +kernel
theorem dX0_init_66 : decode cX0_init 66 = .ok (.iconst 5, 1) := by decide +kernel
theorem dX0_init_67 : decode cX0_init 67 = .ok (.newarray .int, 2) := by decide +kernel
theorem dX0_init_69 : decode cX0_init 69 = .ok (.putfield 33, 3) := by decide +kernel
theorem dX0_init_72 : decode cX0_init 72 = .ok (.aload_n 0, 1) := by decide +kernel
theorem dX0_init_73 : decode cX0_init 73 = .ok (.iconst 3, 1) := by decide +kernel
theorem dX0_init_74 : decode cX0_init 74 = .ok (.iconst 3, 1) := by decide +kernel
theorem dX0_init_75 : decode cX0_init 75 = .ok (.multianewarray 19 2, 4) := by decide +kernel
theorem dX0_init_79 : decode cX0_init 79 = .ok (.putfield 36, 3) := by decide +kernel
theorem dX0_init_82 : decode cX0_init 82 = .ok (.aload_n 0, 1) := by decide +kernel
theorem dX0_init_83 : decode cX0_init 83 = .ok (.bipush 36, 2) := by decide +kernel
theorem dX0_init_85 : decode cX0_init 85 = .ok (.newarray .long, 2) := by decide +kernel
theorem dX0_init_87 : decode cX0_init 87 = .ok (.putfield 39, 3) := by decide +kernel
theorem dX0_init_90 : decode cX0_init 90 = .ok (.iconst 0, 1) := by decide +kernel
theorem dX0_init_91 : decode cX0_init 91 = .ok (.istore_n 1, 1) := by decide +kernel
theorem dX0_init_92 : decode cX0_init 92 = .ok (.iload_n 1, 1) := by decide +kernel
theorem dX0_init_93 : decode cX0_init 93 = .ok (.iconst 3, 1) := by decide +kernel
theorem dX0_init_94 : decode cX0_init 94 = .ok (.if_icmp .ge 32, 3) := by decide +kernel
theorem dX0_init_97 : decode cX0_init 97 = .ok (.iconst 0, 1) := by decide +kernel
theorem dX0_init_98 : decode cX0_init 98 = .ok (.istore_n 2, 1) := by decide +kernel
theorem dX0_init_99 : decode cX0_init 99 = .ok (.iload_n 2, 1) := by decide +kernel
theorem dX0_init_100 : decode cX0_init 100 = .ok (.iconst 3, 1) := by decide +kernel
theorem dX0_init_101 : decode cX0_init 101 = .ok (.if_icmp .ge 19, 3) := by decide +kernel
theorem dX0_init_104 : decode cX0_init 104 = .ok (.aload_n 0, 1) := by decide +kernel
theorem dX0_init_105 : decode cX0_init 105 = .ok (.getfield 36, 3) := by decide +kernel
theorem dX0_init_108 : decode cX0_init 108 = .ok (.iload_n 1, 1) := by decide +kernel
theorem dX0_init_109 : decode cX0_init 109 = .ok (.aaload, 1) := by decide +kernel
theorem dX0_init_110 : decode cX0_init 110 = .ok (.iload_n 2, 1) := by decide +kernel
theorem dX0_init_111 : decode cX0_init 111 = .ok (.bipush 100, 2) := by decide +kernel
theorem dX0_init_113 : decode cX0_init 113 = .ok (.iastore, 1) := by decide +kernel
theorem dX0_init_114 : decode cX0_init 114 = .ok (.iinc 2 1, 3) := by decide +kernel
theorem dX0_init_117 : decode cX0_init 117 = .ok (.goto (-18), 3) := by decide +kernel
theorem dX0_init_120 : decode cX0_init 120 = .ok (.iinc 1 1, 3) := by decide +kernel
theorem dX0_init_123 : decode cX0_init 123 = .ok (.goto (-31), 3) := by decide +kernel
theorem dX0_init_126 : decode cX0_init 126 = .ok (.return_, 1) := by decide +kernel
set_option maxRecDepth 20000 in
theorem ggX0_well_X0_needRange : GoodIn wsX0_well wsX0_needRange := goodIn_ca (goodIn_r _ [8, 9, 10] (by decide +kernel) (by decide +kernel)) (goodIn_sub (fun _ h => List.mem_cons_of_mem _ (List.mem_append_left _ (List.mem_append_right _ h))) (by decide +kernel))
set_option maxRecDepth 20000 in
theorem gX0_well_X0_needRange : GoodIn wsX0_well (va_wsS RX0 43 yX0_needRange wsX0_needRange) := goodIn_app (goodIn_of _ (by decide +kernel)) ggX0_well_X0_needRange
set_option maxRecDepth 20000 in
theorem ggX0_well_X0_needAllowed : GoodIn wsX0_well wsX0_needAllowed := goodIn_ca (goodIn_r _ [13, 14, 15] (by decide +kernel) (by decide +kernel)) (goodIn_sub (fun _ h => List.mem_cons_of_mem _ (List.mem_append_right _ h)) (by decide +kernel))
set_option maxRecDepth 20000 in
theorem gX0_well_X0_needAllowed : GoodIn wsX0_well (va_wsS RX0 51 yX0_needAllowed wsX0_needAllowed) := goodIn_app (goodIn_of _ (by decide +kernel)) ggX0_well_X0_needAllowed
theorem dX0_well_0 : decode cX0_well 0 = .ok (.iload_n 1, 1) := by decide +kernel
theorem dX0_well_1 : decode cX0_well 1 = .ok (.iconst 0, 1) := by decide +kernel
theorem dX0_well_2 : decode cX0_well 2 = .ok (.bipush 99, 2) := by decide +kernel
theorem dX0_well_4 : decode cX0_well 4 = .ok (.invokestatic 43, 3) := by decide +kernel
theorem dX0_well_7 : decode cX0_well 7 = .ok (.iload_n 2, 1) := by decide +kernel
theorem dX0_well_8 : decode cX0_well 8 = .ok (.iconst 0, 1) := by decide +kernel
theorem dX0_well_9 : decode cX0_well 9 = .ok (.iconst 2, 1) := by decide +kernel
theorem dX0_well_10 : decode cX0_well 10 = .ok (.invokestatic 43, 3) := by decide +kernel
theorem dX0_well_13 : decode cX0_well 13 = .ok (.iload_n 3, 1) := by decide +kernel
theorem dX0_well_14 : decode cX0_well 14 = .ok (.iconst 0, 1) := by decide +kernel
theorem dX0_well_15 : decode cX0_well 15 = .ok (.sipush 5000, 3) := by decide +kernel
theorem dX0_well_18 : decode cX0_well 18 = .ok (.invokestatic 43, 3) := by decide +kernel
theorem dX0_well_21 : decode cX0_well 21 = .ok (.aload_n 0, 1) := by decide +kernel
theorem dX0_well_22 : decode cX0_well 22 = .ok (.getfield 47, 3) := by decide +kernel
theorem dX0_well_25 : decode cX0_well 25 = .ok (.bipush 8, 2) := by decide +kernel
theorem dX0_well_27 : decode cX0_well 27 = .ok (.if_icmp .ge 7, 3) := by decide +kernel
theorem dX0_well_30 : decode cX0_well 30 = .ok (.iconst 1, 1) := by decide +kernel
theorem dX0_well_31 : decode cX0_well 31 = .ok (.goto 4, 3) := by decide +kernel
theorem dX0_well_34 : decode cX0_well 34 = .ok (.iconst 0, 1) := by decide +kernel
theorem dX0_well_35 : decode cX0_well 35 = .ok (.invokestatic 51, 3) := by decide +kernel
theorem dX0_well_38 : decode cX0_well 38 = .ok (.aload_n 0, 1) := by decide +kernel
theorem dX0_well_39 : decode cX0_well 39 = .ok (.getfield 47, 3) := by decide +kernel
theorem dX0_well_42 : decode cX0_well 42 = .ok (.istore 4, 2) := by decide +kernel
theorem dX0_well_44 : decode cX0_well 44 = .ok (.aload_n 0, 1) := by decide +kernel
theorem dX0_well_45 : decode cX0_well 45 = .ok (.getfield 9, 3) := by decide +kernel
theorem dX0_well_48 : decode cX0_well 48 = .ok (.iload 4, 2) := by decide +kernel
theorem dX0_well_50 : decode cX0_well 50 = .ok (.iload_n 1, 1) := by decide +kernel
theorem dX0_well_51 : decode cX0_well 51 = .ok (.iastore, 1) := by decide +kernel
theorem dX0_well_52 : decode cX0_well 52 = .ok (.aload_n 0, 1) := by decide +kernel
theorem dX0_well_53 : decode cX0_well 53 = .ok (.getfield 13, 3) := by decide +kernel
theorem dX0_well_56 : decode cX0_well 56 = .ok (.iload 4, 2) := by decide +kernel
theorem dX0_well_58 : decode cX0_well 58 = .ok (.iload_n 2, 1) := by decide +kernel
theorem dX0_well_59 : decode cX0_well 59 = .ok (.iastore, 1) := by decide +kernel
theorem dX0_well_60 : decode cX0_well 60 = .ok (.aload_n 0, 1) := by decide +kernel
theorem dX0_well_61 : decode cX0_well 61 = .ok (.getfield 16, 3) := by decide +kernel
theorem dX0_well_64 : decode cX0_well 64 = .ok (.iload 4, 2) := by decide +kernel
theorem dX0_well_66 : decode cX0_well 66 = .ok (.iload_n 3, 1) := by decide +kernel
theorem dX0_well_67 : decode cX0_well 67 = .ok (.iastore, 1) := by decide +kernel
theorem dX0_well_68 : decode cX0_well 68 = .ok (.aload_n 0, 1) := by decide +kernel
theorem dX0_well_69 : decode cX0_well 69 = .ok (.iload 4, 2) := by decide +kernel
theorem dX0_well_71 : decode cX0_well 71 = .ok (.iconst 1, 1) := by decide +kernel
theorem dX0_well_72 : decode cX0_well 72 = .ok (.iadd, 1) := by decide +kernel
theorem dX0_well_73 : decode cX0_well 73 = .ok (.putfield 47, 3) := by decide +kernel
theorem dX0_well_76 : decode cX0_well 76 = .ok (.iload 4, 2) := by decide +kernel
theorem dX0_well_78 : decode cX0_well 78 = .ok (.ireturn, 1) := by decide +kernel
set_option maxRecDepth 20000 in
theorem ggX0_watch_X0_needRange : GoodIn wsX0_watch wsX0_needRange := goodIn_ca (goodIn_r _ [7, 8, 9] (by decide +kernel) (by decide +kernel)) (goodIn_sub (fun _ h => List.mem_cons_of_mem _ (List.mem_append_left _ (List.mem_append_right _ h))) (by decide +kernel))
set_option maxRecDepth 20000 in
theorem gX0_watch_X0_needRange : GoodIn wsX0_watch (va_wsS RX0 43 yX0_needRange wsX0_needRange) := goodIn_app (goodIn_of _ (by decide +kernel)) ggX0_watch_X0_needRange
set_option maxRecDepth 20000 in
theorem ggX0_watch_X0_needAllowed : GoodIn wsX0_watch wsX0_needAllowed := goodIn_ca (goodIn_r _ [12, 13, 14] (by decide +kernel) (by decide +kernel)) (goodIn_sub (fun _ h => List.mem_cons_of_mem _ (List.mem_append_right _ h)) (by decide +kernel))
set_option maxRecDepth 20000 in
theorem gX0_watch_X0_needAllowed : GoodIn wsX0_watch (va_wsS RX0 51 yX0_needAllowed wsX0_needAllowed) := goodIn_app (goodIn_of _ (by decide +kernel)) ggX0_watch_X0_needAllowed
theorem dX0_watch_0 : decode cX0_watch 0 = .ok (.iload_n 1, 1) := by decide +kernel
theorem dX0_watch_1 : decode cX0_watch 1 = .ok (.iconst 0, 1) := by decide +kernel
theorem dX0_watch_2 : decode cX0_watch 2 = .ok (.bipush 99, 2) := by decide +kernel
theorem dX0_watch_4 : decode cX0_watch 4 = .ok (.invokestatic 43, 3) := by decide +kernel
theorem dX0_watch_7 : decode cX0_watch 7 = .ok (.iload_n 2, 1) := by decide +kernel
theorem dX0_watch_8 : decode cX0_watch 8 = .ok (.iconst 0, 1) := by decide +kernel
theorem dX0_watch_9 : decode cX0_watch 9 = .ok (.sipush 10000, 3) := by decide +kernel
theorem dX0_watch_12 : decode cX0_watch 12 = .ok (.invokestatic 43, 3) := by decide +kernel
theorem dX0_watch_15 : decode cX0_watch 15 = .ok (.aload_n 0, 1) := by decide +kernel
theorem dX0_watch_16 : decode cX0_watch 16 = .ok (.getfield 55, 3) := by decide +kernel
theorem dX0_watch_19 : decode cX0_watch 19 = .ok (.iconst 4, 1) := by decide +kernel
theorem dX0_watch_20 : decode cX0_watch 20 = .ok (.if_icmp .ge 7, 3) := by decide +kernel
theorem dX0_watch_23 : decode cX0_watch 23 = .ok (.iconst 1, 1) := by decide +kernel
theorem dX0_watch_24 : decode cX0_watch 24 = .ok (.goto 4, 3) := by decide +kernel
theorem dX0_watch_27 : decode cX0_watch 27 = .ok (.iconst 0, 1) := by decide +kernel
theorem dX0_watch_28 : decode cX0_watch 28 = .ok (.invokestatic 51, 3) := by decide +kernel
theorem dX0_watch_31 : decode cX0_watch 31 = .ok (.aload_n 0, 1) := by decide +kernel
theorem dX0_watch_32 : decode cX0_watch 32 = .ok (.getfield 55, 3) := by decide +kernel
theorem dX0_watch_35 : decode cX0_watch 35 = .ok (.istore_n 3, 1) := by decide +kernel
theorem dX0_watch_36 : decode cX0_watch 36 = .ok (.aload_n 0, 1) := by decide +kernel
theorem dX0_watch_37 : decode cX0_watch 37 = .ok (.getfield 24, 3) := by decide +kernel
theorem dX0_watch_40 : decode cX0_watch 40 = .ok (.iload_n 3, 1) := by decide +kernel
theorem dX0_watch_41 : decode cX0_watch 41 = .ok (.iload_n 1, 1) := by decide +kernel
theorem dX0_watch_42 : decode cX0_watch 42 = .ok (.iastore, 1) := by decide +kernel
theorem dX0_watch_43 : decode cX0_watch 43 = .ok (.aload_n 0, 1) := by decide +kernel
theorem dX0_watch_44 : decode cX0_watch 44 = .ok (.getfield 27, 3) := by decide +kernel
theorem dX0_watch_47 : decode cX0_watch 47 = .ok (.iload_n 3, 1) := by decide +kernel
theorem dX0_watch_48 : decode cX0_watch 48 = .ok (.iload_n 2, 1) := by decide +kernel
theorem dX0_watch_49 : decode cX0_watch 49 = .ok (.iastore, 1) := by decide +kernel
theorem dX0_watch_50 : decode cX0_watch 50 = .ok (.aload_n 0, 1) := by decide +kernel
theorem dX0_watch_51 : decode cX0_watch 51 = .ok (.iload_n 3, 1) := by decide +kernel
theorem dX0_watch_52 : decode cX0_watch 52 = .ok (.iconst 1, 1) := by decide +kernel
theorem dX0_watch_53 : decode cX0_watch 53 = .ok (.iadd, 1) := by decide +kernel
theorem dX0_watch_54 : decode cX0_watch 54 = .ok (.putfield 55, 3) := by decide +kernel
theorem dX0_watch_57 : decode cX0_watch 57 = .ok (.iload_n 3, 1) := by decide +kernel
theorem dX0_watch_58 : decode cX0_watch 58 = .ok (.ireturn, 1) := by decide +kernel
set_option maxRecDepth 20000 in
theorem ggX0_response_X0_needIndex : GoodIn wsX0_response wsX0_needIndex := goodIn_ca (goodIn_r _ [6, 7, 8] (by decide +kernel) (by decide +kernel)) (goodIn_sub (fun _ h => List.mem_cons_of_mem _ (List.mem_append_left _ (List.mem_append_right _ h))) (by decide +kernel))
set_option maxRecDepth 20000 in
theorem gX0_response_X0_needIndex : GoodIn wsX0_response (va_wsS RX0 58 yX0_needIndex wsX0_needIndex) := goodIn_app (goodIn_of _ (by decide +kernel)) ggX0_response_X0_needIndex
set_option maxRecDepth 20000 in
theorem ggX0_response_X0_needRange : GoodIn wsX0_response wsX0_needRange := goodIn_ca (goodIn_r _ [11, 12, 13] (by decide +kernel) (by decide +kernel)) (goodIn_sub (fun _ h => List.mem_cons_of_mem _ (List.mem_append_right _ h)) (by decide +kernel))
set_option maxRecDepth 20000 in
theorem gX0_response_X0_needRange : GoodIn wsX0_response (va_wsS RX0 43 yX0_needRange wsX0_needRange) := goodIn_app (goodIn_of _ (by decide +kernel)) ggX0_response_X0_needRange
theorem dX0_response_0 : decode cX0_response 0 = .ok (.iload_n 1, 1) := by decide +kernel
theorem dX0_response_1 : decode cX0_response 1 = .ok (.iconst 5, 1) := by decide +kernel
theorem dX0_response_2 : decode cX0_response 2 = .ok (.invokestatic 58, 3) := by decide +kernel
theorem dX0_response_5 : decode cX0_response 5 = .ok (.iload_n 2, 1) := by decide +kernel
theorem dX0_response_6 : decode cX0_response 6 = .ok (.bipush 12, 2) := by decide +kernel
theorem dX0_response_8 : decode cX0_response 8 = .ok (.invokestatic 58, 3) := by decide +kernel
theorem dX0_response_11 : decode cX0_response 11 = .ok (.iload_n 3, 1) := by decide +kernel
theorem dX0_response_12 : decode cX0_response 12 = .ok (.iconst 0, 1) := by decide +kernel
theorem dX0_response_13 : decode cX0_response 13 = .ok (.sipush 1000, 3) := by decide +kernel
theorem dX0_response_16 : decode cX0_response 16 = .ok (.invokestatic 43, 3) := by decide +kernel
theorem dX0_response_19 : decode cX0_response 19 = .ok (.aload_n 0, 1) := by decide +kernel
theorem dX0_response_20 : decode cX0_response 20 = .ok (.getfield 30, 3) := by decide +kernel
theorem dX0_response_23 : decode cX0_response 23 = .ok (.iload_n 1, 1) := by decide +kernel
theorem dX0_response_24 : decode cX0_response 24 = .ok (.aaload, 1) := by decide +kernel
theorem dX0_response_25 : decode cX0_response 25 = .ok (.iload_n 2, 1) := by decide +kernel
theorem dX0_response_26 : decode cX0_response 26 = .ok (.iaload, 1) := by decide +kernel
theorem dX0_response_27 : decode cX0_response 27 = .ok (.istore 4, 2) := by decide +kernel
theorem dX0_response_29 : decode cX0_response 29 = .ok (.aload_n 0, 1) := by decide +kernel
theorem dX0_response_30 : decode cX0_response 30 = .ok (.getfield 30, 3) := by decide +kernel
theorem dX0_response_33 : decode cX0_response 33 = .ok (.iload_n 1, 1) := by decide +kernel
theorem dX0_response_34 : decode cX0_response 34 = .ok (.aaload, 1) := by decide +kernel
theorem dX0_response_35 : decode cX0_response 35 = .ok (.iload_n 2, 1) := by decide +kernel
theorem dX0_response_36 : decode cX0_response 36 = .ok (.iload_n 3, 1) := by decide +kernel
theorem dX0_response_37 : decode cX0_response 37 = .ok (.iastore, 1) := by decide +kernel
theorem dX0_response_38 : decode cX0_response 38 = .ok (.aload_n 0, 1) := by decide +kernel
theorem dX0_response_39 : decode cX0_response 39 = .ok (.getfield 33, 3) := by decide +kernel
theorem dX0_response_42 : decode cX0_response 42 = .ok (.iload_n 1, 1) := by decide +kernel
theorem dX0_response_43 : decode cX0_response 43 = .ok (.dup2, 1) := by decide +kernel
theorem dX0_response_44 : decode cX0_response 44 = .ok (.iaload, 1) := by decide +kernel
theorem dX0_response_45 : decode cX0_response 45 = .ok (.iload_n 3, 1) := by decide +kernel
theorem dX0_response_46 : decode cX0_response 46 = .ok (.iload 4, 2) := by decide +kernel
theorem dX0_response_48 : decode cX0_response 48 = .ok (.isub, 1) := by decide +kernel
theorem dX0_response_49 : decode cX0_response 49 = .ok (.iadd, 1) := by decide +kernel
theorem dX0_response_50 : decode cX0_response 50 = .ok (.iastore, 1) := by decide +kernel
theorem dX0_response_51 : decode cX0_response 51 = .ok (.iload 4, 2) := by decide +kernel
theorem dX0_response_53 : decode cX0_response 53 = .ok (.ireturn, 1) := by decide +kernel
theorem dX0_wells_0 : decode cX0_wells 0 = .ok (.aload_n 0, 1) := by decide +kernel
theorem dX0_wells_1 : decode cX0_wells 1 = .ok (.getfield 47, 3) := by decide +kernel
theorem dX0_wells_4 : decode cX0_wells 4 = .ok (.ireturn, 1) := by decide +kernel
theorem dX0_watches_0 : decode cX0_watches 0 = .ok (.aload_n 0, 1) := by decide +kernel
theorem dX0_watches_1 : decode cX0_watches 1 = .ok (.getfield 55, 3) := by decide +kernel
theorem dX0_watches_4 : decode cX0_watches 4 = .ok (.ireturn, 1) := by decide +kernel
set_option maxRecDepth 20000 in
theorem ggX0_pump_X0_needIndex : GoodIn wsX0_pump wsX0_needIndex := goodIn_ca (goodIn_r _ [6, 7, 8] (by decide +kernel) (by decide +kernel)) (goodIn_sub (fun _ h => List.mem_cons_of_mem _ (List.mem_append_left _ (List.mem_append_right _ h))) (by decide +kernel))
set_option maxRecDepth 20000 in
theorem gX0_pump_X0_needIndex : GoodIn wsX0_pump (va_wsS RX0 58 yX0_needIndex wsX0_needIndex) := goodIn_app (goodIn_of _ (by decide +kernel)) ggX0_pump_X0_needIndex
set_option maxRecDepth 20000 in
theorem ggX0_pump_X0_needRange : GoodIn wsX0_pump wsX0_needRange := goodIn_ca (goodIn_r _ [11, 12, 13] (by decide +kernel) (by decide +kernel)) (goodIn_sub (fun _ h => List.mem_cons_of_mem _ (List.mem_append_right _ h)) (by decide +kernel))
set_option maxRecDepth 20000 in
theorem gX0_pump_X0_needRange : GoodIn wsX0_pump (va_wsS RX0 43 yX0_needRange wsX0_needRange) := goodIn_app (goodIn_of _ (by decide +kernel)) ggX0_pump_X0_needRange
theorem dX0_pump_0 : decode cX0_pump 0 = .ok (.iload_n 1, 1) := by decide +kernel
theorem dX0_pump_1 : decode cX0_pump 1 = .ok (.aload_n 0, 1) := by decide +kernel
theorem dX0_pump_2 : decode cX0_pump 2 = .ok (.getfield 47, 3) := by decide +kernel
theorem dX0_pump_5 : decode cX0_pump 5 = .ok (.invokestatic 58, 3) := by decide +kernel
theorem dX0_pump_8 : decode cX0_pump 8 = .ok (.iload_n 2, 1) := by decide +kernel
theorem dX0_pump_9 : decode cX0_pump 9 = .ok (.bipush 36, 2) := by decide +kernel
theorem dX0_pump_11 : decode cX0_pump 11 = .ok (.invokestatic 58, 3) := by decide +kernel
theorem dX0_pump_14 : decode cX0_pump 14 = .ok (.iload_n 3, 1) := by decide +kernel
theorem dX0_pump_15 : decode cX0_pump 15 = .ok (.iconst 0, 1) := by decide +kernel
theorem dX0_pump_16 : decode cX0_pump 16 = .ok (.sipush 1000, 3) := by decide +kernel
theorem dX0_pump_19 : decode cX0_pump 19 = .ok (.invokestatic 43, 3) := by decide +kernel
theorem dX0_pump_22 : decode cX0_pump 22 = .ok (.aload_n 0, 1) := by decide +kernel
theorem dX0_pump_23 : decode cX0_pump 23 = .ok (.getfield 21, 3) := by decide +kernel
theorem dX0_pump_26 : decode cX0_pump 26 = .ok (.iload_n 1, 1) := by decide +kernel
theorem dX0_pump_27 : decode cX0_pump 27 = .ok (.aaload, 1) := by decide +kernel
theorem dX0_pump_28 : decode cX0_pump 28 = .ok (.iload_n 2, 1) := by decide +kernel
theorem dX0_pump_29 : decode cX0_pump 29 = .ok (.iaload, 1) := by decide +kernel
theorem dX0_pump_30 : decode cX0_pump 30 = .ok (.istore 4, 2) := by decide +kernel
theorem dX0_pump_32 : decode cX0_pump 32 = .ok (.aload_n 0, 1) := by decide +kernel
theorem dX0_pump_33 : decode cX0_pump 33 = .ok (.getfield 21, 3) := by decide +kernel
theorem dX0_pump_36 : decode cX0_pump 36 = .ok (.iload_n 1, 1) := by decide +kernel
theorem dX0_pump_37 : decode cX0_pump 37 = .ok (.aaload, 1) := by decide +kernel
theorem dX0_pump_38 : decode cX0_pump 38 = .ok (.iload_n 2, 1) := by decide +kernel
theorem dX0_pump_39 : decode cX0_pump 39 = .ok (.iload_n 3, 1) := by decide +kernel
theorem dX0_pump_40 : decode cX0_pump 40 = .ok (.iastore, 1) := by decide +kernel
theorem dX0_pump_41 : decode cX0_pump 41 = .ok (.iload 4, 2) := by decide +kernel
theorem dX0_pump_43 : decode cX0_pump 43 = .ok (.ireturn, 1) := by decide +kernel
set_option maxRecDepth 20000 in
theorem ggX0_rest_X0_needIndex : GoodIn wsX0_rest wsX0_needIndex := goodIn_ca (goodIn_r _ [10, 11, 12] (by decide +kernel) (by decide +kernel)) (goodIn_sub (fun _ h => List.mem_cons_of_mem _ (List.mem_append_left _ (List.mem_append_right _ h))) (by decide +kernel))
set_option maxRecDepth 20000 in
theorem gX0_rest_X0_needIndex : GoodIn wsX0_rest (va_wsS RX0 58 yX0_needIndex wsX0_needIndex) := goodIn_app (goodIn_of _ (by decide +kernel)) ggX0_rest_X0_needIndex
set_option maxRecDepth 20000 in
theorem ggX0_rest_X0_needRange : GoodIn wsX0_rest wsX0_needRange := goodIn_ca (goodIn_r _ [15, 16, 17] (by decide +kernel) (by decide +kernel)) (goodIn_sub (fun _ h => List.mem_cons_of_mem _ (List.mem_append_right _ h)) (by decide +kernel))
set_option maxRecDepth 20000 in
theorem gX0_rest_X0_needRange : GoodIn wsX0_rest (va_wsS RX0 43 yX0_needRange wsX0_needRange) := goodIn_app (goodIn_of _ (by decide +kernel)) ggX0_rest_X0_needRange
theorem dX0_rest_0 : decode cX0_rest 0 = .ok (.iload_n 1, 1) := by decide +kernel
theorem dX0_rest_1 : decode cX0_rest 1 = .ok (.aload_n 0, 1) := by decide +kernel
theorem dX0_rest_2 : decode cX0_rest 2 = .ok (.getfield 47, 3) := by decide +kernel
theorem dX0_rest_5 : decode cX0_rest 5 = .ok (.invokestatic 58, 3) := by decide +kernel
theorem dX0_rest_8 : decode cX0_rest 8 = .ok (.iload_n 2, 1) := by decide +kernel
theorem dX0_rest_9 : decode cX0_rest 9 = .ok (.bipush 36, 2) := by decide +kernel
theorem dX0_rest_11 : decode cX0_rest 11 = .ok (.invokestatic 58, 3) := by decide +kernel
theorem dX0_rest_14 : decode cX0_rest 14 = .ok (.iload_n 3, 1) := by decide +kernel
theorem dX0_rest_15 : decode cX0_rest 15 = .ok (.iconst 1, 1) := by decide +kernel
theorem dX0_rest_16 : decode cX0_rest 16 = .ok (.bipush 36, 2) := by decide +kernel
theorem dX0_rest_18 : decode cX0_rest 18 = .ok (.invokestatic 43, 3) := by decide +kernel
theorem dX0_rest_21 : decode cX0_rest 21 = .ok (.iload_n 2, 1) := by decide +kernel
theorem dX0_rest_22 : decode cX0_rest 22 = .ok (.iload_n 3, 1) := by decide +kernel
theorem dX0_rest_23 : decode cX0_rest 23 = .ok (.iadd, 1) := by decide +kernel
theorem dX0_rest_24 : decode cX0_rest 24 = .ok (.bipush 36, 2) := by decide +kernel
theorem dX0_rest_26 : decode cX0_rest 26 = .ok (.invokestatic 62, 3) := by decide +kernel
theorem dX0_rest_29 : decode cX0_rest 29 = .ok (.istore 4, 2) := by decide +kernel
theorem dX0_rest_31 : decode cX0_rest 31 = .ok (.iconst 0, 1) := by decide +kernel
theorem dX0_rest_32 : decode cX0_rest 32 = .ok (.istore 5, 2) := by decide +kernel
theorem dX0_rest_34 : decode cX0_rest 34 = .ok (.iload_n 2, 1) := by decide +kernel
theorem dX0_rest_35 : decode cX0_rest 35 = .ok (.istore 6, 2) := by decide +kernel
theorem dX0_rest_37 : decode cX0_rest 37 = .ok (.iload 6, 2) := by decide +kernel
theorem dX0_rest_39 : decode cX0_rest 39 = .ok (.iload 4, 2) := by decide +kernel
theorem dX0_rest_41 : decode cX0_rest 41 = .ok (.if_icmp .ge 33, 3) := by decide +kernel
theorem dX0_rest_44 : decode cX0_rest 44 = .ok (.iload 5, 2) := by decide +kernel
theorem dX0_rest_46 : decode cX0_rest 46 = .ok (.aload_n 0, 1) := by decide +kernel
theorem dX0_rest_47 : decode cX0_rest 47 = .ok (.getfield 21, 3) := by decide +kernel
theorem dX0_rest_50 : decode cX0_rest 50 = .ok (.iload_n 1, 1) := by decide +kernel
theorem dX0_rest_51 : decode cX0_rest 51 = .ok (.aaload, 1) := by decide +kernel
theorem dX0_rest_52 : decode cX0_rest 52 = .ok (.iload 6, 2) := by decide +kernel
theorem dX0_rest_54 : decode cX0_rest 54 = .ok (.iaload, 1) := by decide +kernel
theorem dX0_rest_55 : decode cX0_rest 55 = .ok (.iadd, 1) := by decide +kernel
theorem dX0_rest_56 : decode cX0_rest 56 = .ok (.istore 5, 2) := by decide +kernel
theorem dX0_rest_58 : decode cX0_rest 58 = .ok (.aload_n 0, 1) := by decide +kernel
theorem dX0_rest_59 : decode cX0_rest 59 = .ok (.getfield 21, 3) := by decide +kernel
theorem dX0_rest_62 : decode cX0_rest 62 = .ok (.iload_n 1, 1) := by decide +kernel
theorem dX0_rest_63 : decode cX0_rest 63 = .ok (.aaload, 1) := by decide +kernel
theorem dX0_rest_64 : decode cX0_rest 64 = .ok (.iload 6, 2) := by decide +kernel
theorem dX0_rest_66 : decode cX0_rest 66 = .ok (.iconst 0, 1) := by decide +kernel
theorem dX0_rest_67 : decode cX0_rest 67 = .ok (.iastore, 1) := by decide +kernel
theorem dX0_rest_68 : decode cX0_rest 68 = .ok (.iinc 6 1, 3) := by decide +kernel
theorem dX0_rest_71 : decode cX0_rest 71 = .ok (.goto (-34), 3) := by decide +kernel
theorem dX0_rest_74 : decode cX0_rest 74 = .ok (.iload 5, 2) := by decide +kernel
theorem dX0_rest_76 : decode cX0_rest 76 = .ok (.ireturn, 1) := by decide +kernel
set_option maxRecDepth 20000 in
theorem ggX0_pumped_X0_needIndex : GoodIn wsX0_pumped wsX0_needIndex := goodIn_ca (goodIn_r _ [5, 6, 7] (by decide +kernel) (by decide +kernel)) (goodIn_sub (fun _ h => List.mem_cons_of_mem _ (List.mem_append_right _ h)) (by decide +kernel))
set_option maxRecDepth 20000 in
theorem gX0_pumped_X0_needIndex : GoodIn wsX0_pumped (va_wsS RX0 58 yX0_needIndex wsX0_needIndex) := goodIn_app (goodIn_of _ (by decide +kernel)) ggX0_pumped_X0_needIndex
set_option maxRecDepth 20000 in
theorem ggX0_pumped_X0_unitsOfYear : GoodIn wsX0_pumped wsX0_unitsOfYear := goodIn_r _ [11, 12, 13, 14, 15, 16, 17, 18, 19, 20, 21, 22, 23, 24] (by decide +kernel) (by decide +kernel)
set_option maxRecDepth 20000 in
theorem gX0_pumped_X0_unitsOfYear : GoodIn wsX0_pumped (wsV RX0 68 RX0 yX0_unitsOfYear wsX0_unitsOfYear) := goodIn_app (goodIn_of _ (by decide +kernel)) ggX0_pumped_X0_unitsOfYear
theorem dX0_pumped_0 : decode cX0_pumped 0 = .ok (.iload_n 1, 1) := by decide +kernel
theorem dX0_pumped_1 : decode cX0_pumped 1 = .ok (.aload_n 0, 1) := by decide +kernel
theorem dX0_pumped_2 : decode cX0_pumped 2 = .ok (.getfield 47, 3) := by decide +kernel
theorem dX0_pumped_5 : decode cX0_pumped 5 = .ok (.invokestatic 58, 3) := by decide +kernel
theorem dX0_pumped_8 : decode cX0_pumped 8 = .ok (.iload_n 2, 1) := by decide +kernel
theorem dX0_pumped_9 : decode cX0_pumped 9 = .ok (.iconst 3, 1) := by decide +kernel
theorem dX0_pumped_10 : decode cX0_pumped 10 = .ok (.invokestatic 58, 3) := by decide +kernel
theorem dX0_pumped_13 : decode cX0_pumped 13 = .ok (.aload_n 0, 1) := by decide +kernel
theorem dX0_pumped_14 : decode cX0_pumped 14 = .ok (.iload_n 1, 1) := by decide +kernel
theorem dX0_pumped_15 : decode cX0_pumped 15 = .ok (.iload_n 2, 1) := by decide +kernel
theorem dX0_pumped_16 : decode cX0_pumped 16 = .ok (.invokevirtual 68, 3) := by decide +kernel
theorem dX0_pumped_19 : decode cX0_pumped 19 = .ok (.ireturn, 1) := by decide +kernel
set_option maxRecDepth 20000 in
theorem ggX0_beyond_X0_needIndex : GoodIn wsX0_beyond wsX0_needIndex := goodIn_ca (goodIn_r _ [10, 11, 12] (by decide +kernel) (by decide +kernel)) (goodIn_sub (fun _ h => List.mem_cons_of_mem _ (List.mem_append_right _ h)) (by decide +kernel))
set_option maxRecDepth 20000 in
theorem gX0_beyond_X0_needIndex : GoodIn wsX0_beyond (va_wsS RX0 58 yX0_needIndex wsX0_needIndex) := goodIn_app (goodIn_of _ (by decide +kernel)) ggX0_beyond_X0_needIndex
set_option maxRecDepth 20000 in
theorem ggX0_beyond_X0_unitsOfYear : GoodIn wsX0_beyond wsX0_unitsOfYear := goodIn_r _ [16, 17, 18, 19, 20, 21, 22, 23, 24, 25, 26, 27, 28, 29] (by decide +kernel) (by decide +kernel)
set_option maxRecDepth 20000 in
theorem gX0_beyond_X0_unitsOfYear : GoodIn wsX0_beyond (wsV RX0 68 RX0 yX0_unitsOfYear wsX0_unitsOfYear) := goodIn_app (goodIn_of _ (by decide +kernel)) ggX0_beyond_X0_unitsOfYear
theorem dX0_beyond_0 : decode cX0_beyond 0 = .ok (.iload_n 1, 1) := by decide +kernel
theorem dX0_beyond_1 : decode cX0_beyond 1 = .ok (.iconst 3, 1) := by decide +kernel
theorem dX0_beyond_2 : decode cX0_beyond 2 = .ok (.invokestatic 58, 3) := by decide +kernel
theorem dX0_beyond_5 : decode cX0_beyond 5 = .ok (.iconst 0, 1) := by decide +kernel
theorem dX0_beyond_6 : decode cX0_beyond 6 = .ok (.istore_n 2, 1) := by decide +kernel
theorem dX0_beyond_7 : decode cX0_beyond 7 = .ok (.iconst 0, 1) := by decide +kernel
theorem dX0_beyond_8 : decode cX0_beyond 8 = .ok (.istore_n 3, 1) := by decide +kernel
theorem dX0_beyond_9 : decode cX0_beyond 9 = .ok (.iload_n 3, 1) := by decide +kernel
theorem dX0_beyond_10 : decode cX0_beyond 10 = .ok (.aload_n 0, 1) := by decide +kernel
theorem dX0_beyond_11 : decode cX0_beyond 11 = .ok (.getfield 47, 3) := by decide +kernel
theorem dX0_beyond_14 : decode cX0_beyond 14 = .ok (.if_icmp .ge 29, 3) := by decide +kernel
theorem dX0_beyond_17 : decode cX0_beyond 17 = .ok (.iload_n 2, 1) := by decide +kernel
theorem dX0_beyond_18 : decode cX0_beyond 18 = .ok (.iconst 0, 1) := by decide +kernel
theorem dX0_beyond_19 : decode cX0_beyond 19 = .ok (.aload_n 0, 1) := by decide +kernel
theorem dX0_beyond_20 : decode cX0_beyond 20 = .ok (.iload_n 3, 1) := by decide +kernel
theorem dX0_beyond_21 : decode cX0_beyond 21 = .ok (.iload_n 1, 1) := by decide +kernel
theorem dX0_beyond_22 : decode cX0_beyond 22 = .ok (.invokevirtual 68, 3) := by decide +kernel
theorem dX0_beyond_25 : decode cX0_beyond 25 = .ok (.aload_n 0, 1) := by decide +kernel
theorem dX0_beyond_26 : decode cX0_beyond 26 = .ok (.getfield 16, 3) := by decide +kernel
theorem dX0_beyond_29 : decode cX0_beyond 29 = .ok (.iload_n 3, 1) := by decide +kernel
theorem dX0_beyond_30 : decode cX0_beyond 30 = .ok (.iaload, 1) := by decide +kernel
theorem dX0_beyond_31 : decode cX0_beyond 31 = .ok (.isub, 1) := by decide +kernel
theorem dX0_beyond_32 : decode cX0_beyond 32 = .ok (.invokestatic 71, 3) := by decide +kernel
theorem dX0_beyond_35 : decode cX0_beyond 35 = .ok (.iadd, 1) := by decide +kernel
theorem dX0_beyond_36 : decode cX0_beyond 36 = .ok (.istore_n 2, 1) := by decide +kernel
theorem dX0_beyond_37 : decode cX0_beyond 37 = .ok (.iinc 3 1, 3) := by decide +kernel
theorem dX0_beyond_40 : decode cX0_beyond 40 = .ok (.goto (-31), 3) := by decide +kernel
theorem dX0_beyond_43 : decode cX0_beyond 43 = .ok (.iload_n 2, 1) := by decide +kernel
theorem dX0_beyond_44 : decode cX0_beyond 44 = .ok (.ireturn, 1) := by decide +kernel
set_option maxRecDepth 20000 in
theorem ggX0_drawdown_X0_needIndex : GoodIn wsX0_drawdown wsX0_needIndex := goodIn_ca (goodIn_r _ [5, 6, 7] (by decide +kernel) (by decide +kernel)) (goodIn_sub (fun _ h => List.mem_cons_of_mem _ (List.mem_append_right _ h)) (by decide +kernel))
set_option maxRecDepth 20000 in
theorem gX0_drawdown_X0_needIndex : GoodIn wsX0_drawdown (va_wsS RX0 58 yX0_needIndex wsX0_needIndex) := goodIn_app (goodIn_of _ (by decide +kernel)) ggX0_drawdown_X0_needIndex
set_option maxRecDepth 20000 in
theorem ggX0_drawdown_X0_loweredIn : GoodIn wsX0_drawdown wsX0_loweredIn := goodIn_r _ [11, 12, 13, 14, 15, 16, 4, 17, 18, 19, 20, 21, 22, 23, 24, 25, 26, 27, 28, 29, 30, 31, 32, 33, 34, 35, 36, 37, 38, 39, 40] (by decide +kernel) (by decide +kernel)
set_option maxRecDepth 20000 in
theorem gX0_drawdown_X0_loweredIn : GoodIn wsX0_drawdown (wsV RX0 74 RX0 yX0_loweredIn wsX0_loweredIn) := goodIn_app (goodIn_of _ (by decide +kernel)) ggX0_drawdown_X0_loweredIn
theorem dX0_drawdown_0 : decode cX0_drawdown 0 = .ok (.iload_n 1, 1) := by decide +kernel
theorem dX0_drawdown_1 : decode cX0_drawdown 1 = .ok (.aload_n 0, 1) := by decide +kernel
theorem dX0_drawdown_2 : decode cX0_drawdown 2 = .ok (.getfield 55, 3) := by decide +kernel
theorem dX0_drawdown_5 : decode cX0_drawdown 5 = .ok (.invokestatic 58, 3) := by decide +kernel
theorem dX0_drawdown_8 : decode cX0_drawdown 8 = .ok (.iload_n 2, 1) := by decide +kernel
theorem dX0_drawdown_9 : decode cX0_drawdown 9 = .ok (.bipush 36, 2) := by decide +kernel
theorem dX0_drawdown_11 : decode cX0_drawdown 11 = .ok (.invokestatic 58, 3) := by decide +kernel
theorem dX0_drawdown_14 : decode cX0_drawdown 14 = .ok (.aload_n 0, 1) := by decide +kernel
theorem dX0_drawdown_15 : decode cX0_drawdown 15 = .ok (.iload_n 1, 1) := by decide +kernel
theorem dX0_drawdown_16 : decode cX0_drawdown 16 = .ok (.iload_n 2, 1) := by decide +kernel
theorem dX0_drawdown_17 : decode cX0_drawdown 17 = .ok (.invokevirtual 74, 3) := by decide +kernel
theorem dX0_drawdown_20 : decode cX0_drawdown 20 = .ok (.lreturn, 1) := by decide +kernel
set_option maxRecDepth 20000 in
theorem ggX0_drawdownByPulses_X0_needIndex : GoodIn wsX0_drawdownByPulses wsX0_needIndex := goodIn_ca (goodIn_r _ [8, 9, 10] (by decide +kernel) (by decide +kernel)) (goodIn_sub (fun _ h => List.mem_cons_of_mem _ (List.mem_append_right _ h)) (by decide +kernel))
set_option maxRecDepth 20000 in
theorem gX0_drawdownByPulses_X0_needIndex : GoodIn wsX0_drawdownByPulses (va_wsS RX0 58 yX0_needIndex wsX0_needIndex) := goodIn_app (goodIn_of _ (by decide +kernel)) ggX0_drawdownByPulses_X0_needIndex
set_option maxRecDepth 20000 in
theorem ggX0_drawdownByPulses_X0_reachOf : GoodIn wsX0_drawdownByPulses wsX0_reachOf := goodIn_r _ [14, 15, 16, 17, 18, 19, 20, 30, 31, 32, 33, 34, 35, 36, 37, 38, 39, 40, 41] (by decide +kernel) (by decide +kernel)
set_option maxRecDepth 20000 in
theorem gX0_drawdownByPulses_X0_reachOf : GoodIn wsX0_drawdownByPulses (wsV RX0 78 RX0 yX0_reachOf wsX0_reachOf) := goodIn_app (goodIn_of _ (by decide +kernel)) ggX0_drawdownByPulses_X0_reachOf
set_option maxRecDepth 20000 in
theorem ggX0_drawdownByPulses_X0_layPulse : GoodIn wsX0_drawdownByPulses wsX0_layPulse := goodIn_r _ [24, 2, 25, 26, 27, 7, 28, 29, 30, 31, 32, 33, 34, 35, 36, 37, 38, 39, 40, 41] (by decide +kernel) (by decide +kernel)
set_option maxRecDepth 20000 in
theorem gX0_drawdownByPulses_X0_layPulse : GoodIn wsX0_drawdownByPulses (wsV RX0 81 RX0 yX0_layPulse wsX0_layPulse) := goodIn_app (goodIn_of _ (by decide +kernel)) ggX0_drawdownByPulses_X0_layPulse
theorem dX0_drawdownByPulses_0 : decode cX0_drawdownByPulses 0 = .ok (.iload_n 1, 1) := by decide +kernel
theorem dX0_drawdownByPulses_1 : decode cX0_drawdownByPulses 1 = .ok (.aload_n 0, 1) := by decide +kernel
theorem dX0_drawdownByPulses_2 : decode cX0_drawdownByPulses 2 = .ok (.getfield 55, 3) := by decide +kernel
theorem dX0_drawdownByPulses_5 : decode cX0_drawdownByPulses 5 = .ok (.invokestatic 58, 3) := by decide +kernel
theorem dX0_drawdownByPulses_8 : decode cX0_drawdownByPulses 8 = .ok (.iload_n 2, 1) := by decide +kernel
theorem dX0_drawdownByPulses_9 : decode cX0_drawdownByPulses 9 = .ok (.bipush 36, 2) := by decide +kernel
theorem dX0_drawdownByPulses_11 : decode cX0_drawdownByPulses 11 = .ok (.invokestatic 58, 3) := by decide +kernel
theorem dX0_drawdownByPulses_14 : decode cX0_drawdownByPulses 14 = .ok (.iconst 0, 1) := by decide +kernel
theorem dX0_drawdownByPulses_15 : decode cX0_drawdownByPulses 15 = .ok (.istore_n 3, 1) := by decide +kernel
theorem dX0_drawdownByPulses_16 : decode cX0_drawdownByPulses 16 = .ok (.iload_n 3, 1) := by decide +kernel
theorem dX0_drawdownByPulses_17 : decode cX0_drawdownByPulses 17 = .ok (.bipush 36, 2) := by decide +kernel
theorem dX0_drawdownByPulses_19 : decode cX0_drawdownByPulses 19 = .ok (.if_icmp .ge 16, 3) := by decide +kernel
theorem dX0_drawdownByPulses_22 : decode cX0_drawdownByPulses 22 = .ok (.aload_n 0, 1) := by decide +kernel
theorem dX0_drawdownByPulses_23 : decode cX0_drawdownByPulses 23 = .ok (.getfield 39, 3) := by decide +kernel
theorem dX0_drawdownByPulses_26 : decode cX0_drawdownByPulses 26 = .ok (.iload_n 3, 1) := by decide +kernel
theorem dX0_drawdownByPulses_27 : decode cX0_drawdownByPulses 27 = .ok (.lconst 0, 1) := by decide +kernel
theorem dX0_drawdownByPulses_28 : decode cX0_drawdownByPulses 28 = .ok (.lastore, 1) := by decide +kernel
theorem dX0_drawdownByPulses_29 : decode cX0_drawdownByPulses 29 = .ok (.iinc 3 1, 3) := by decide +kernel
theorem dX0_drawdownByPulses_32 : decode cX0_drawdownByPulses 32 = .ok (.goto (-16), 3) := by decide +kernel
theorem dX0_drawdownByPulses_35 : decode cX0_drawdownByPulses 35 = .ok (.iconst 0, 1) := by decide +kernel
theorem dX0_drawdownByPulses_36 : decode cX0_drawdownByPulses 36 = .ok (.istore_n 3, 1) := by decide +kernel
theorem dX0_drawdownByPulses_37 : decode cX0_drawdownByPulses 37 = .ok (.iload_n 3, 1) := by decide +kernel
theorem dX0_drawdownByPulses_38 : decode cX0_drawdownByPulses 38 = .ok (.aload_n 0, 1) := by decide +kernel
theorem dX0_drawdownByPulses_39 : decode cX0_drawdownByPulses 39 = .ok (.getfield 47, 3) := by decide +kernel
theorem dX0_drawdownByPulses_42 : decode cX0_drawdownByPulses 42 = .ok (.if_icmp .ge 46, 3) := by decide +kernel
theorem dX0_drawdownByPulses_45 : decode cX0_drawdownByPulses 45 = .ok (.iconst 0, 1) := by decide +kernel
theorem dX0_drawdownByPulses_46 : decode cX0_drawdownByPulses 46 = .ok (.istore 4, 2) := by decide +kernel
theorem dX0_drawdownByPulses_48 : decode cX0_drawdownByPulses 48 = .ok (.iload 4, 2) := by decide +kernel
theorem dX0_drawdownByPulses_50 : decode cX0_drawdownByPulses 50 = .ok (.bipush 36, 2) := by decide +kernel
theorem dX0_drawdownByPulses_52 : decode cX0_drawdownByPulses 52 = .ok (.if_icmp .ge 30, 3) := by decide +kernel
theorem dX0_drawdownByPulses_55 : decode cX0_drawdownByPulses 55 = .ok (.aload_n 0, 1) := by decide +kernel
theorem dX0_drawdownByPulses_56 : decode cX0_drawdownByPulses 56 = .ok (.aload_n 0, 1) := by decide +kernel
theorem dX0_drawdownByPulses_57 : decode cX0_drawdownByPulses 57 = .ok (.iload_n 3, 1) := by decide +kernel
theorem dX0_drawdownByPulses_58 : decode cX0_drawdownByPulses 58 = .ok (.iload_n 1, 1) := by decide +kernel
theorem dX0_drawdownByPulses_59 : decode cX0_drawdownByPulses 59 = .ok (.invokevirtual 78, 3) := by decide +kernel
theorem dX0_drawdownByPulses_62 : decode cX0_drawdownByPulses 62 = .ok (.iload 4, 2) := by decide +kernel
theorem dX0_drawdownByPulses_64 : decode cX0_drawdownByPulses 64 = .ok (.aload_n 0, 1) := by decide +kernel
theorem dX0_drawdownByPulses_65 : decode cX0_drawdownByPulses 65 = .ok (.getfield 21, 3) := by decide +kernel
theorem dX0_drawdownByPulses_68 : decode cX0_drawdownByPulses 68 = .ok (.iload_n 3, 1) := by decide +kernel
theorem dX0_drawdownByPulses_69 : decode cX0_drawdownByPulses 69 = .ok (.aaload, 1) := by decide +kernel
theorem dX0_drawdownByPulses_70 : decode cX0_drawdownByPulses 70 = .ok (.iload 4, 2) := by decide +kernel
theorem dX0_drawdownByPulses_72 : decode cX0_drawdownByPulses 72 = .ok (.iaload, 1) := by decide +kernel
theorem dX0_drawdownByPulses_73 : decode cX0_drawdownByPulses 73 = .ok (.invokevirtual 81, 3) := by decide +kernel
theorem dX0_drawdownByPulses_76 : decode cX0_drawdownByPulses 76 = .ok (.iinc 4 1, 3) := by decide +kernel
theorem dX0_drawdownByPulses_79 : decode cX0_drawdownByPulses 79 = .ok (.goto (-31), 3) := by decide +kernel
theorem dX0_drawdownByPulses_82 : decode cX0_drawdownByPulses 82 = .ok (.iinc 3 1, 3) := by decide +kernel
theorem dX0_drawdownByPulses_85 : decode cX0_drawdownByPulses 85 = .ok (.goto (-48), 3) := by decide +kernel
theorem dX0_drawdownByPulses_88 : decode cX0_drawdownByPulses 88 = .ok (.aload_n 0, 1) := by decide +kernel
theorem dX0_drawdownByPulses_89 : decode cX0_drawdownByPulses 89 = .ok (.getfield 39, 3) := by decide +kernel
theorem dX0_drawdownByPulses_92 : decode cX0_drawdownByPulses 92 = .ok (.iload_n 2, 1) := by decide +kernel
theorem dX0_drawdownByPulses_93 : decode cX0_drawdownByPulses 93 = .ok (.laload, 1) := by decide +kernel
theorem dX0_drawdownByPulses_94 : decode cX0_drawdownByPulses 94 = .ok (.lreturn, 1) := by decide +kernel
set_option maxRecDepth 20000 in
theorem ggX0_worstMonth_X0_needIndex : GoodIn wsX0_worstMonth wsX0_needIndex := goodIn_ca (goodIn_r _ [5, 6, 7] (by decide +kernel) (by decide +kernel)) (goodIn_sub (fun _ h => List.mem_cons_of_mem _ (List.mem_append_right _ h)) (by decide +kernel))
set_option maxRecDepth 20000 in
theorem gX0_worstMonth_X0_needIndex : GoodIn wsX0_worstMonth (va_wsS RX0 58 yX0_needIndex wsX0_needIndex) := goodIn_app (goodIn_of _ (by decide +kernel)) ggX0_worstMonth_X0_needIndex
set_option maxRecDepth 20000 in
theorem ggX0_worstMonth_X0_loweredIn : GoodIn wsX0_worstMonth wsX0_loweredIn := goodIn_r _ [11, 12, 13, 14, 15, 16, 4, 17, 18, 19, 20, 21, 22, 23, 24, 25, 26, 27, 28, 29, 30, 31, 32, 33, 34, 35, 36, 37, 38, 39, 40] (by decide +kernel) (by decide +kernel)
set_option maxRecDepth 20000 in
theorem gX0_worstMonth_X0_loweredIn : GoodIn wsX0_worstMonth (wsV RX0 74 RX0 yX0_loweredIn wsX0_loweredIn) := goodIn_app (goodIn_of _ (by decide +kernel)) ggX0_worstMonth_X0_loweredIn
theorem dX0_worstMonth_0 : decode cX0_worstMonth 0 = .ok (.iload_n 1, 1) := by decide +kernel
theorem dX0_worstMonth_1 : decode cX0_worstMonth 1 = .ok (.aload_n 0, 1) := by decide +kernel
theorem dX0_worstMonth_2 : decode cX0_worstMonth 2 = .ok (.getfield 55, 3) := by decide +kernel
theorem dX0_worstMonth_5 : decode cX0_worstMonth 5 = .ok (.invokestatic 58, 3) := by decide +kernel
theorem dX0_worstMonth_8 : decode cX0_worstMonth 8 = .ok (.iconst 0, 1) := by decide +kernel
theorem dX0_worstMonth_9 : decode cX0_worstMonth 9 = .ok (.istore_n 2, 1) := by decide +kernel
theorem dX0_worstMonth_10 : decode cX0_worstMonth 10 = .ok (.aload_n 0, 1) := by decide +kernel
theorem dX0_worstMonth_11 : decode cX0_worstMonth 11 = .ok (.iload_n 1, 1) := by decide +kernel
theorem dX0_worstMonth_12 : decode cX0_worstMonth 12 = .ok (.iconst 0, 1) := by decide +kernel
theorem dX0_worstMonth_13 : decode cX0_worstMonth 13 = .ok (.invokevirtual 74, 3) := by decide +kernel
theorem dX0_worstMonth_16 : decode cX0_worstMonth 16 = .ok (.lstore_n 3, 1) := by decide +kernel
theorem dX0_worstMonth_17 : decode cX0_worstMonth 17 = .ok (.iconst 1, 1) := by decide +kernel
theorem dX0_worstMonth_18 : decode cX0_worstMonth 18 = .ok (.istore 5, 2) := by decide +kernel
theorem dX0_worstMonth_20 : decode cX0_worstMonth 20 = .ok (.iload 5, 2) := by decide +kernel
theorem dX0_worstMonth_22 : decode cX0_worstMonth 22 = .ok (.bipush 36, 2) := by decide +kernel
theorem dX0_worstMonth_24 : decode cX0_worstMonth 24 = .ok (.if_icmp .ge 31, 3) := by decide +kernel
theorem dX0_worstMonth_27 : decode cX0_worstMonth 27 = .ok (.aload_n 0, 1) := by decide +kernel
theorem dX0_worstMonth_28 : decode cX0_worstMonth 28 = .ok (.iload_n 1, 1) := by decide +kernel
theorem dX0_worstMonth_29 : decode cX0_worstMonth 29 = .ok (.iload 5, 2) := by decide +kernel
theorem dX0_worstMonth_31 : decode cX0_worstMonth 31 = .ok (.invokevirtual 74, 3) := by decide +kernel
theorem dX0_worstMonth_34 : decode cX0_worstMonth 34 = .ok (.lstore 6, 2) := by decide +kernel
theorem dX0_worstMonth_36 : decode cX0_worstMonth 36 = .ok (.lload 6, 2) := by decide +kernel
theorem dX0_worstMonth_38 : decode cX0_worstMonth 38 = .ok (.lload_n 3, 1) := by decide +kernel
theorem dX0_worstMonth_39 : decode cX0_worstMonth 39 = .ok (.lcmp, 1) := by decide +kernel
theorem dX0_worstMonth_40 : decode cX0_worstMonth 40 = .ok (.ifCond .le 9, 3) := by decide +kernel
theorem dX0_worstMonth_43 : decode cX0_worstMonth 43 = .ok (.lload 6, 2) := by decide +kernel
theorem dX0_worstMonth_45 : decode cX0_worstMonth 45 = .ok (.lstore_n 3, 1) := by decide +kernel
theorem dX0_worstMonth_46 : decode cX0_worstMonth 46 = .ok (.iload 5, 2) := by decide +kernel
theorem dX0_worstMonth_48 : decode cX0_worstMonth 48 = .ok (.istore_n 2, 1) := by decide +kernel
theorem dX0_worstMonth_49 : decode cX0_worstMonth 49 = .ok (.iinc 5 1, 3) := by decide +kernel
theorem dX0_worstMonth_52 : decode cX0_worstMonth 52 = .ok (.goto (-32), 3) := by decide +kernel
theorem dX0_worstMonth_55 : decode cX0_worstMonth 55 = .ok (.iload_n 2, 1) := by decide +kernel
theorem dX0_worstMonth_56 : decode cX0_worstMonth 56 = .ok (.ireturn, 1) := by decide +kernel
set_option maxRecDepth 20000 in
theorem ggX0_over_X0_needIndex : GoodIn wsX0_over wsX0_needIndex := goodIn_ca (goodIn_r _ [5, 6, 7] (by decide +kernel) (by decide +kernel)) (goodIn_sub (fun _ h => List.mem_cons_of_mem _ (List.mem_append_right _ h)) (by decide +kernel))
set_option maxRecDepth 20000 in
theorem gX0_over_X0_needIndex : GoodIn wsX0_over (va_wsS RX0 58 yX0_needIndex wsX0_needIndex) := goodIn_app (goodIn_of _ (by decide +kernel)) ggX0_over_X0_needIndex
set_option maxRecDepth 20000 in
theorem ggX0_over_X0_thousandthsLeft : GoodIn wsX0_over wsX0_thousandthsLeft := goodIn_r _ [11, 12, 13, 14, 15, 16, 4, 17, 18, 19, 20, 21, 22, 23, 24, 25, 26, 27, 28, 29, 30, 31, 32, 33, 34, 35, 36, 37, 38, 39, 40, 41, 42, 43, 44, 45, 46] (by decide +kernel) (by decide +kernel)
set_option maxRecDepth 20000 in
theorem gX0_over_X0_thousandthsLeft : GoodIn wsX0_over (wsV RX0 84 RX0 yX0_thousandthsLeft wsX0_thousandthsLeft) := goodIn_app (goodIn_of _ (by decide +kernel)) ggX0_over_X0_thousandthsLeft
theorem dX0_over_0 : decode cX0_over 0 = .ok (.iload_n 1, 1) := by decide +kernel
theorem dX0_over_1 : decode cX0_over 1 = .ok (.aload_n 0, 1) := by decide +kernel
theorem dX0_over_2 : decode cX0_over 2 = .ok (.getfield 55, 3) := by decide +kernel
theorem dX0_over_5 : decode cX0_over 5 = .ok (.invokestatic 58, 3) := by decide +kernel
theorem dX0_over_8 : decode cX0_over 8 = .ok (.iconst 0, 1) := by decide +kernel
theorem dX0_over_9 : decode cX0_over 9 = .ok (.istore_n 2, 1) := by decide +kernel
theorem dX0_over_10 : decode cX0_over 10 = .ok (.iconst 0, 1) := by decide +kernel
theorem dX0_over_11 : decode cX0_over 11 = .ok (.istore_n 3, 1) := by decide +kernel
theorem dX0_over_12 : decode cX0_over 12 = .ok (.iload_n 3, 1) := by decide +kernel
theorem dX0_over_13 : decode cX0_over 13 = .ok (.bipush 36, 2) := by decide +kernel
theorem dX0_over_15 : decode cX0_over 15 = .ok (.if_icmp .ge 23, 3) := by decide +kernel
theorem dX0_over_18 : decode cX0_over 18 = .ok (.aload_n 0, 1) := by decide +kernel
theorem dX0_over_19 : decode cX0_over 19 = .ok (.iload_n 1, 1) := by decide +kernel
theorem dX0_over_20 : decode cX0_over 20 = .ok (.iload_n 3, 1) := by decide +kernel
theorem dX0_over_21 : decode cX0_over 21 = .ok (.invokevirtual 84, 3) := by decide +kernel
theorem dX0_over_24 : decode cX0_over 24 = .ok (.lconst 0, 1) := by decide +kernel
theorem dX0_over_25 : decode cX0_over 25 = .ok (.lcmp, 1) := by decide +kernel
theorem dX0_over_26 : decode cX0_over 26 = .ok (.ifCond .ge 6, 3) := by decide +kernel
theorem dX0_over_29 : decode cX0_over 29 = .ok (.iinc 2 1, 3) := by decide +kernel
theorem dX0_over_32 : decode cX0_over 32 = .ok (.iinc 3 1, 3) := by decide +kernel
theorem dX0_over_35 : decode cX0_over 35 = .ok (.goto (-23), 3) := by decide +kernel
theorem dX0_over_38 : decode cX0_over 38 = .ok (.iload_n 2, 1) := by decide +kernel
theorem dX0_over_39 : decode cX0_over 39 = .ok (.ireturn, 1) := by decide +kernel
set_option maxRecDepth 20000 in
theorem ggX0_headroom_X0_needIndex : GoodIn wsX0_headroom wsX0_needIndex := goodIn_ca (goodIn_r _ [11, 12, 13] (by decide +kernel) (by decide +kernel)) (goodIn_sub (fun _ h => List.mem_cons_of_mem _ (List.mem_append_right _ h)) (by decide +kernel))
set_option maxRecDepth 20000 in
theorem gX0_headroom_X0_needIndex : GoodIn wsX0_headroom (va_wsS RX0 58 yX0_needIndex wsX0_needIndex) := goodIn_app (goodIn_of _ (by decide +kernel)) ggX0_headroom_X0_needIndex
set_option maxRecDepth 20000 in
theorem ggX0_headroom_X0_reachOf : GoodIn wsX0_headroom wsX0_reachOf := goodIn_r _ [17, 18, 19, 20, 21, 6, 22, 45, 46, 47, 48, 49, 50, 51, 52, 53, 54, 55, 56] (by decide +kernel) (by decide +kernel)
set_option maxRecDepth 20000 in
theorem gX0_headroom_X0_reachOf : GoodIn wsX0_headroom (wsV RX0 78 RX0 yX0_reachOf wsX0_reachOf) := goodIn_app (goodIn_of _ (by decide +kernel)) ggX0_headroom_X0_reachOf
set_option maxRecDepth 20000 in
theorem ggX0_headroom_X0_unitsLeft : GoodIn wsX0_headroom wsX0_unitsLeft := goodIn_r _ [26, 27, 28, 29, 6, 30, 4, 5, 7, 31, 32, 33, 10, 34, 35, 36, 37, 38, 39, 40, 41, 42, 43, 44, 1, 2, 14, 15, 16, 17, 18, 19, 20, 21, 22, 45, 46, 47, 48, 49, 50, 51, 52, 53, 54, 55, 56] (by decide +kernel) (by decide +kernel)
set_option maxRecDepth 20000 in
theorem gX0_headroom_X0_unitsLeft : GoodIn wsX0_headroom (wsV RX0 87 RX0 yX0_unitsLeft wsX0_unitsLeft) := goodIn_app (goodIn_of _ (by decide +kernel)) ggX0_headroom_X0_unitsLeft
theorem dX0_headroom_0 : decode cX0_headroom 0 = .ok (.iload_n 1, 1) := by decide +kernel
theorem dX0_headroom_1 : decode cX0_headroom 1 = .ok (.aload_n 0, 1) := by decide +kernel
theorem dX0_headroom_2 : decode cX0_headroom 2 = .ok (.getfield 47, 3) := by decide +kernel
theorem dX0_headroom_5 : decode cX0_headroom 5 = .ok (.invokestatic 58, 3) := by decide +kernel
theorem dX0_headroom_8 : decode cX0_headroom 8 = .ok (.iload_n 2, 1) := by decide +kernel
theorem dX0_headroom_9 : decode cX0_headroom 9 = .ok (.bipush 36, 2) := by decide +kernel
theorem dX0_headroom_11 : decode cX0_headroom 11 = .ok (.invokestatic 58, 3) := by decide +kernel
theorem dX0_headroom_14 : decode cX0_headroom 14 = .ok (.sipush 1000, 3) := by decide +kernel
theorem dX0_headroom_17 : decode cX0_headroom 17 = .ok (.aload_n 0, 1) := by decide +kernel
theorem dX0_headroom_18 : decode cX0_headroom 18 = .ok (.getfield 21, 3) := by decide +kernel
theorem dX0_headroom_21 : decode cX0_headroom 21 = .ok (.iload_n 1, 1) := by decide +kernel
theorem dX0_headroom_22 : decode cX0_headroom 22 = .ok (.aaload, 1) := by decide +kernel
theorem dX0_headroom_23 : decode cX0_headroom 23 = .ok (.iload_n 2, 1) := by decide +kernel
theorem dX0_headroom_24 : decode cX0_headroom 24 = .ok (.iaload, 1) := by decide +kernel
theorem dX0_headroom_25 : decode cX0_headroom 25 = .ok (.isub, 1) := by decide +kernel
theorem dX0_headroom_26 : decode cX0_headroom 26 = .ok (.i2l, 1) := by decide +kernel
theorem dX0_headroom_27 : decode cX0_headroom 27 = .ok (.lstore_n 3, 1) := by decide +kernel
theorem dX0_headroom_28 : decode cX0_headroom 28 = .ok (.iconst 0, 1) := by decide +kernel
theorem dX0_headroom_29 : decode cX0_headroom 29 = .ok (.istore 5, 2) := by decide +kernel
theorem dX0_headroom_31 : decode cX0_headroom 31 = .ok (.iload 5, 2) := by decide +kernel
theorem dX0_headroom_33 : decode cX0_headroom 33 = .ok (.aload_n 0, 1) := by decide +kernel
theorem dX0_headroom_34 : decode cX0_headroom 34 = .ok (.getfield 55, 3) := by decide +kernel
theorem dX0_headroom_37 : decode cX0_headroom 37 = .ok (.if_icmp .ge 28, 3) := by decide +kernel
theorem dX0_headroom_40 : decode cX0_headroom 40 = .ok (.lload_n 3, 1) := by decide +kernel
theorem dX0_headroom_41 : decode cX0_headroom 41 = .ok (.aload_n 0, 1) := by decide +kernel
theorem dX0_headroom_42 : decode cX0_headroom 42 = .ok (.iload 5, 2) := by decide +kernel
theorem dX0_headroom_44 : decode cX0_headroom 44 = .ok (.aload_n 0, 1) := by decide +kernel
theorem dX0_headroom_45 : decode cX0_headroom 45 = .ok (.iload_n 1, 1) := by decide +kernel
theorem dX0_headroom_46 : decode cX0_headroom 46 = .ok (.iload 5, 2) := by decide +kernel
theorem dX0_headroom_48 : decode cX0_headroom 48 = .ok (.invokevirtual 78, 3) := by decide +kernel
theorem dX0_headroom_51 : decode cX0_headroom 51 = .ok (.iload_n 2, 1) := by decide +kernel
theorem dX0_headroom_52 : decode cX0_headroom 52 = .ok (.invokevirtual 87, 3) := by decide +kernel
theorem dX0_headroom_55 : decode cX0_headroom 55 = .ok (.invokestatic 91, 3) := by decide +kernel
theorem dX0_headroom_58 : decode cX0_headroom 58 = .ok (.lstore_n 3, 1) := by decide +kernel
theorem dX0_headroom_59 : decode cX0_headroom 59 = .ok (.iinc 5 1, 3) := by decide +kernel
theorem dX0_headroom_62 : decode cX0_headroom 62 = .ok (.goto (-31), 3) := by decide +kernel
theorem dX0_headroom_65 : decode cX0_headroom 65 = .ok (.lload_n 3, 1) := by decide +kernel
theorem dX0_headroom_66 : decode cX0_headroom 66 = .ok (.l2i, 1) := by decide +kernel
theorem dX0_headroom_67 : decode cX0_headroom 67 = .ok (.ireturn, 1) := by decide +kernel
set_option maxRecDepth 20000 in
theorem ggX0_heaviest_X0_needIndex : GoodIn wsX0_heaviest wsX0_needIndex := goodIn_ca (goodIn_r _ [6, 7, 8] (by decide +kernel) (by decide +kernel)) (goodIn_sub (fun _ h => List.mem_cons_of_mem _ (List.mem_append_right _ h)) (by decide +kernel))
set_option maxRecDepth 20000 in
theorem gX0_heaviest_X0_needIndex : GoodIn wsX0_heaviest (va_wsS RX0 58 yX0_needIndex wsX0_needIndex) := goodIn_app (goodIn_of _ (by decide +kernel)) ggX0_heaviest_X0_needIndex
set_option maxRecDepth 20000 in
theorem ggX0_heaviest_X0_loweredInAll : GoodIn wsX0_heaviest wsX0_loweredInAll := goodIn_r _ [12, 13, 14, 15, 16, 5, 17, 18, 19, 20, 21, 22, 23, 24, 25, 26, 27, 28, 29, 30, 31, 32, 33, 34, 35, 36, 37, 38, 39, 40] (by decide +kernel) (by decide +kernel)
set_option maxRecDepth 20000 in
theorem gX0_heaviest_X0_loweredInAll : GoodIn wsX0_heaviest (wsV RX0 94 RX0 yX0_loweredInAll wsX0_loweredInAll) := goodIn_app (goodIn_of _ (by decide +kernel)) ggX0_heaviest_X0_loweredInAll
theorem dX0_heaviest_0 : decode cX0_heaviest 0 = .ok (.iload_n 1, 1) := by decide +kernel
theorem dX0_heaviest_1 : decode cX0_heaviest 1 = .ok (.aload_n 0, 1) := by decide +kernel
theorem dX0_heaviest_2 : decode cX0_heaviest 2 = .ok (.getfield 55, 3) := by decide +kernel
theorem dX0_heaviest_5 : decode cX0_heaviest 5 = .ok (.invokestatic 58, 3) := by decide +kernel
theorem dX0_heaviest_8 : decode cX0_heaviest 8 = .ok (.iload_n 2, 1) := by decide +kernel
theorem dX0_heaviest_9 : decode cX0_heaviest 9 = .ok (.bipush 36, 2) := by decide +kernel
theorem dX0_heaviest_11 : decode cX0_heaviest 11 = .ok (.invokestatic 58, 3) := by decide +kernel
theorem dX0_heaviest_14 : decode cX0_heaviest 14 = .ok (.iconst (-1), 1) := by decide +kernel
theorem dX0_heaviest_15 : decode cX0_heaviest 15 = .ok (.istore_n 3, 1) := by decide +kernel
theorem dX0_heaviest_16 : decode cX0_heaviest 16 = .ok (.lconst 0, 1) := by decide +kernel
theorem dX0_heaviest_17 : decode cX0_heaviest 17 = .ok (.lstore 4, 2) := by decide +kernel
theorem dX0_heaviest_19 : decode cX0_heaviest 19 = .ok (.iconst 0, 1) := by decide +kernel
theorem dX0_heaviest_20 : decode cX0_heaviest 20 = .ok (.istore 6, 2) := by decide +kernel
theorem dX0_heaviest_22 : decode cX0_heaviest 22 = .ok (.iload 6, 2) := by decide +kernel
theorem dX0_heaviest_24 : decode cX0_heaviest 24 = .ok (.aload_n 0, 1) := by decide +kernel
theorem dX0_heaviest_25 : decode cX0_heaviest 25 = .ok (.getfield 47, 3) := by decide +kernel
theorem dX0_heaviest_28 : decode cX0_heaviest 28 = .ok (.if_icmp .ge 34, 3) := by decide +kernel
theorem dX0_heaviest_31 : decode cX0_heaviest 31 = .ok (.aload_n 0, 1) := by decide +kernel
theorem dX0_heaviest_32 : decode cX0_heaviest 32 = .ok (.iload 6, 2) := by decide +kernel
theorem dX0_heaviest_34 : decode cX0_heaviest 34 = .ok (.iload_n 1, 1) := by decide +kernel
theorem dX0_heaviest_35 : decode cX0_heaviest 35 = .ok (.iload_n 2, 1) := by decide +kernel
theorem dX0_heaviest_36 : decode cX0_heaviest 36 = .ok (.invokevirtual 94, 3) := by decide +kernel
theorem dX0_heaviest_39 : decode cX0_heaviest 39 = .ok (.lstore 7, 2) := by decide +kernel
theorem dX0_heaviest_41 : decode cX0_heaviest 41 = .ok (.lload 7, 2) := by decide +kernel
theorem dX0_heaviest_43 : decode cX0_heaviest 43 = .ok (.lload 4, 2) := by decide +kernel
theorem dX0_heaviest_45 : decode cX0_heaviest 45 = .ok (.lcmp, 1) := by decide +kernel
theorem dX0_heaviest_46 : decode cX0_heaviest 46 = .ok (.ifCond .le 10, 3) := by decide +kernel
theorem dX0_heaviest_49 : decode cX0_heaviest 49 = .ok (.lload 7, 2) := by decide +kernel
theorem dX0_heaviest_51 : decode cX0_heaviest 51 = .ok (.lstore 4, 2) := by decide +kernel
theorem dX0_heaviest_53 : decode cX0_heaviest 53 = .ok (.iload 6, 2) := by decide +kernel
theorem dX0_heaviest_55 : decode cX0_heaviest 55 = .ok (.istore_n 3, 1) := by decide +kernel
theorem dX0_heaviest_56 : decode cX0_heaviest 56 = .ok (.iinc 6 1, 3) := by decide +kernel
theorem dX0_heaviest_59 : decode cX0_heaviest 59 = .ok (.goto (-37), 3) := by decide +kernel
theorem dX0_heaviest_62 : decode cX0_heaviest 62 = .ok (.iload_n 3, 1) := by decide +kernel
theorem dX0_heaviest_63 : decode cX0_heaviest 63 = .ok (.ireturn, 1) := by decide +kernel
set_option maxRecDepth 20000 in
theorem ggX0_taken_X0_needIndex : GoodIn wsX0_taken wsX0_needIndex := goodIn_ca (goodIn_r _ [5, 6, 7] (by decide +kernel) (by decide +kernel)) (goodIn_sub (fun _ h => List.mem_cons_of_mem _ (List.mem_append_right _ h)) (by decide +kernel))
set_option maxRecDepth 20000 in
theorem gX0_taken_X0_needIndex : GoodIn wsX0_taken (va_wsS RX0 58 yX0_needIndex wsX0_needIndex) := goodIn_app (goodIn_of _ (by decide +kernel)) ggX0_taken_X0_needIndex
set_option maxRecDepth 20000 in
theorem ggX0_taken_X0_takenOfMonthsBefore : GoodIn wsX0_taken wsX0_takenOfMonthsBefore := goodIn_r _ [11, 12, 13, 14, 15, 4, 16, 17, 18, 19, 20, 21, 22, 23, 24, 25, 26, 27, 28] (by decide +kernel) (by decide +kernel)
set_option maxRecDepth 20000 in
theorem gX0_taken_X0_takenOfMonthsBefore : GoodIn wsX0_taken (wsV RX0 97 RX0 yX0_takenOfMonthsBefore wsX0_takenOfMonthsBefore) := goodIn_app (goodIn_of _ (by decide +kernel)) ggX0_taken_X0_takenOfMonthsBefore
theorem dX0_taken_0 : decode cX0_taken 0 = .ok (.iload_n 1, 1) := by decide +kernel
theorem dX0_taken_1 : decode cX0_taken 1 = .ok (.iconst 3, 1) := by decide +kernel
theorem dX0_taken_2 : decode cX0_taken 2 = .ok (.invokestatic 58, 3) := by decide +kernel
theorem dX0_taken_5 : decode cX0_taken 5 = .ok (.iconst 0, 1) := by decide +kernel
theorem dX0_taken_6 : decode cX0_taken 6 = .ok (.istore_n 2, 1) := by decide +kernel
theorem dX0_taken_7 : decode cX0_taken 7 = .ok (.iconst 0, 1) := by decide +kernel
theorem dX0_taken_8 : decode cX0_taken 8 = .ok (.istore_n 3, 1) := by decide +kernel
theorem dX0_taken_9 : decode cX0_taken 9 = .ok (.iload_n 3, 1) := by decide +kernel
theorem dX0_taken_10 : decode cX0_taken 10 = .ok (.aload_n 0, 1) := by decide +kernel
theorem dX0_taken_11 : decode cX0_taken 11 = .ok (.getfield 47, 3) := by decide +kernel
theorem dX0_taken_14 : decode cX0_taken 14 = .ok (.if_icmp .ge 20, 3) := by decide +kernel
theorem dX0_taken_17 : decode cX0_taken 17 = .ok (.iload_n 2, 1) := by decide +kernel
theorem dX0_taken_18 : decode cX0_taken 18 = .ok (.aload_n 0, 1) := by decide +kernel
theorem dX0_taken_19 : decode cX0_taken 19 = .ok (.iload_n 3, 1) := by decide +kernel
theorem dX0_taken_20 : decode cX0_taken 20 = .ok (.bipush 36, 2) := by decide +kernel
theorem dX0_taken_22 : decode cX0_taken 22 = .ok (.iload_n 1, 1) := by decide +kernel
theorem dX0_taken_23 : decode cX0_taken 23 = .ok (.invokevirtual 97, 3) := by decide +kernel
theorem dX0_taken_26 : decode cX0_taken 26 = .ok (.iadd, 1) := by decide +kernel
theorem dX0_taken_27 : decode cX0_taken 27 = .ok (.istore_n 2, 1) := by decide +kernel
theorem dX0_taken_28 : decode cX0_taken 28 = .ok (.iinc 3 1, 3) := by decide +kernel
theorem dX0_taken_31 : decode cX0_taken 31 = .ok (.goto (-22), 3) := by decide +kernel
theorem dX0_taken_34 : decode cX0_taken 34 = .ok (.iload_n 2, 1) := by decide +kernel
theorem dX0_taken_35 : decode cX0_taken 35 = .ok (.ireturn, 1) := by decide +kernel
set_option maxRecDepth 20000 in
theorem ggX0_takenLate_X0_needIndex : GoodIn wsX0_takenLate wsX0_needIndex := goodIn_ca (goodIn_r _ [5, 6, 7] (by decide +kernel) (by decide +kernel)) (goodIn_sub (fun _ h => List.mem_cons_of_mem _ (List.mem_append_right _ h)) (by decide +kernel))
set_option maxRecDepth 20000 in
theorem gX0_takenLate_X0_needIndex : GoodIn wsX0_takenLate (va_wsS RX0 58 yX0_needIndex wsX0_needIndex) := goodIn_app (goodIn_of _ (by decide +kernel)) ggX0_takenLate_X0_needIndex
set_option maxRecDepth 20000 in
theorem ggX0_takenLate_X0_takenOfMonthsBefore : GoodIn wsX0_takenLate wsX0_takenOfMonthsBefore := goodIn_r _ [11, 12, 13, 14, 15, 4, 16, 17, 18, 19, 20, 21, 22, 23, 24, 25, 26, 27, 28] (by decide +kernel) (by decide +kernel)
set_option maxRecDepth 20000 in
theorem gX0_takenLate_X0_takenOfMonthsBefore : GoodIn wsX0_takenLate (wsV RX0 97 RX0 yX0_takenOfMonthsBefore wsX0_takenOfMonthsBefore) := goodIn_app (goodIn_of _ (by decide +kernel)) ggX0_takenLate_X0_takenOfMonthsBefore
theorem dX0_takenLate_0 : decode cX0_takenLate 0 = .ok (.iload_n 1, 1) := by decide +kernel
theorem dX0_takenLate_1 : decode cX0_takenLate 1 = .ok (.aload_n 0, 1) := by decide +kernel
theorem dX0_takenLate_2 : decode cX0_takenLate 2 = .ok (.getfield 47, 3) := by decide +kernel
theorem dX0_takenLate_5 : decode cX0_takenLate 5 = .ok (.invokestatic 58, 3) := by decide +kernel
theorem dX0_takenLate_8 : decode cX0_takenLate 8 = .ok (.iload_n 2, 1) := by decide +kernel
theorem dX0_takenLate_9 : decode cX0_takenLate 9 = .ok (.iconst 3, 1) := by decide +kernel
theorem dX0_takenLate_10 : decode cX0_takenLate 10 = .ok (.invokestatic 58, 3) := by decide +kernel
theorem dX0_takenLate_13 : decode cX0_takenLate 13 = .ok (.aload_n 0, 1) := by decide +kernel
theorem dX0_takenLate_14 : decode cX0_takenLate 14 = .ok (.iload_n 1, 1) := by decide +kernel
theorem dX0_takenLate_15 : decode cX0_takenLate 15 = .ok (.iload_n 2, 1) := by decide +kernel
theorem dX0_takenLate_16 : decode cX0_takenLate 16 = .ok (.bipush 12, 2) := by decide +kernel
theorem dX0_takenLate_18 : decode cX0_takenLate 18 = .ok (.imul, 1) := by decide +kernel
theorem dX0_takenLate_19 : decode cX0_takenLate 19 = .ok (.iload_n 2, 1) := by decide +kernel
theorem dX0_takenLate_20 : decode cX0_takenLate 20 = .ok (.invokevirtual 97, 3) := by decide +kernel
theorem dX0_takenLate_23 : decode cX0_takenLate 23 = .ok (.ireturn, 1) := by decide +kernel
set_option maxRecDepth 20000 in
theorem ggX0_licence_X0_needIndex : GoodIn wsX0_licence wsX0_needIndex := goodIn_ca (goodIn_r _ [6, 7, 8] (by decide +kernel) (by decide +kernel)) (goodIn_sub (fun _ h => List.mem_cons_of_mem _ (List.mem_append_right _ h)) (by decide +kernel))
set_option maxRecDepth 20000 in
theorem gX0_licence_X0_needIndex : GoodIn wsX0_licence (va_wsS RX0 58 yX0_needIndex wsX0_needIndex) := goodIn_app (goodIn_of _ (by decide +kernel)) ggX0_licence_X0_needIndex
theorem dX0_licence_0 : decode cX0_licence 0 = .ok (.iload_n 1, 1) := by decide +kernel
theorem dX0_licence_1 : decode cX0_licence 1 = .ok (.aload_n 0, 1) := by decide +kernel
theorem dX0_licence_2 : decode cX0_licence 2 = .ok (.getfield 47, 3) := by decide +kernel
theorem dX0_licence_5 : decode cX0_licence 5 = .ok (.invokestatic 58, 3) := by decide +kernel
theorem dX0_licence_8 : decode cX0_licence 8 = .ok (.aload_n 0, 1) := by decide +kernel
theorem dX0_licence_9 : decode cX0_licence 9 = .ok (.getfield 16, 3) := by decide +kernel
theorem dX0_licence_12 : decode cX0_licence 12 = .ok (.iload_n 1, 1) := by decide +kernel
theorem dX0_licence_13 : decode cX0_licence 13 = .ok (.iaload, 1) := by decide +kernel
theorem dX0_licence_14 : decode cX0_licence 14 = .ok (.ireturn, 1) := by decide +kernel
set_option maxRecDepth 20000 in
theorem ggX0_ratio_X0_needIndex : GoodIn wsX0_ratio wsX0_needIndex := goodIn_ca (goodIn_r _ [5, 6, 7] (by decide +kernel) (by decide +kernel)) (goodIn_sub (fun _ h => List.mem_cons_of_mem _ (List.mem_append_left _ (List.mem_append_right _ h))) (by decide +kernel))
set_option maxRecDepth 20000 in
theorem gX0_ratio_X0_needIndex : GoodIn wsX0_ratio (va_wsS RX0 58 yX0_needIndex wsX0_needIndex) := goodIn_app (goodIn_of _ (by decide +kernel)) ggX0_ratio_X0_needIndex
set_option maxRecDepth 20000 in
theorem ggX0_ratio_X0_needRange : GoodIn wsX0_ratio wsX0_needRange := goodIn_ca (goodIn_r _ [10, 11, 12] (by decide +kernel) (by decide +kernel)) (goodIn_sub (fun _ h => List.mem_cons_of_mem _ (List.mem_append_right _ h)) (by decide +kernel))
set_option maxRecDepth 20000 in
theorem gX0_ratio_X0_needRange : GoodIn wsX0_ratio (va_wsS RX0 43 yX0_needRange wsX0_needRange) := goodIn_app (goodIn_of _ (by decide +kernel)) ggX0_ratio_X0_needRange
theorem dX0_ratio_0 : decode cX0_ratio 0 = .ok (.iload_n 1, 1) := by decide +kernel
theorem dX0_ratio_1 : decode cX0_ratio 1 = .ok (.iconst 3, 1) := by decide +kernel
theorem dX0_ratio_2 : decode cX0_ratio 2 = .ok (.invokestatic 58, 3) := by decide +kernel
theorem dX0_ratio_5 : decode cX0_ratio 5 = .ok (.iload_n 2, 1) := by decide +kernel
theorem dX0_ratio_6 : decode cX0_ratio 6 = .ok (.iconst 3, 1) := by decide +kernel
theorem dX0_ratio_7 : decode cX0_ratio 7 = .ok (.invokestatic 58, 3) := by decide +kernel
theorem dX0_ratio_10 : decode cX0_ratio 10 = .ok (.iload_n 3, 1) := by decide +kernel
theorem dX0_ratio_11 : decode cX0_ratio 11 = .ok (.iconst 0, 1) := by decide +kernel
theorem dX0_ratio_12 : decode cX0_ratio 12 = .ok (.sipush 200, 3) := by decide +kernel
theorem dX0_ratio_15 : decode cX0_ratio 15 = .ok (.invokestatic 43, 3) := by decide +kernel
theorem dX0_ratio_18 : decode cX0_ratio 18 = .ok (.aload_n 0, 1) := by decide +kernel
theorem dX0_ratio_19 : decode cX0_ratio 19 = .ok (.getfield 36, 3) := by decide +kernel
theorem dX0_ratio_22 : decode cX0_ratio 22 = .ok (.iload_n 1, 1) := by decide +kernel
theorem dX0_ratio_23 : decode cX0_ratio 23 = .ok (.aaload, 1) := by decide +kernel
theorem dX0_ratio_24 : decode cX0_ratio 24 = .ok (.iload_n 2, 1) := by decide +kernel
theorem dX0_ratio_25 : decode cX0_ratio 25 = .ok (.iaload, 1) := by decide +kernel
theorem dX0_ratio_26 : decode cX0_ratio 26 = .ok (.istore 4, 2) := by decide +kernel
theorem dX0_ratio_28 : decode cX0_ratio 28 = .ok (.aload_n 0, 1) := by decide +kernel
theorem dX0_ratio_29 : decode cX0_ratio 29 = .ok (.getfield 36, 3) := by decide +kernel
theorem dX0_ratio_32 : decode cX0_ratio 32 = .ok (.iload_n 1, 1) := by decide +kernel
theorem dX0_ratio_33 : decode cX0_ratio 33 = .ok (.aaload, 1) := by decide +kernel
theorem dX0_ratio_34 : decode cX0_ratio 34 = .ok (.iload_n 2, 1) := by decide +kernel
theorem dX0_ratio_35 : decode cX0_ratio 35 = .ok (.iload_n 3, 1) := by decide +kernel
theorem dX0_ratio_36 : decode cX0_ratio 36 = .ok (.iastore, 1) := by decide +kernel
theorem dX0_ratio_37 : decode cX0_ratio 37 = .ok (.iload 4, 2) := by decide +kernel
theorem dX0_ratio_39 : decode cX0_ratio 39 = .ok (.ireturn, 1) := by decide +kernel
set_option maxRecDepth 20000 in
theorem ggX0_burden_X0_needIndex : GoodIn wsX0_burden wsX0_needIndex := goodIn_ca (goodIn_r _ [7, 8, 9] (by decide +kernel) (by decide +kernel)) (goodIn_sub (fun _ h => List.mem_cons_of_mem _ (List.mem_append_right _ h)) (by decide +kernel))
set_option maxRecDepth 20000 in
theorem gX0_burden_X0_needIndex : GoodIn wsX0_burden (va_wsS RX0 58 yX0_needIndex wsX0_needIndex) := goodIn_app (goodIn_of _ (by decide +kernel)) ggX0_burden_X0_needIndex
set_option maxRecDepth 20000 in
theorem ggX0_burden_X0_burdenOfUnits : GoodIn wsX0_burden wsX0_burdenOfUnits := goodIn_r _ [13, 14, 15, 16, 17, 6, 18, 19, 20, 21, 22, 23, 24, 25, 26, 27, 28, 29, 30, 31, 32, 33, 34, 35, 36] (by decide +kernel) (by decide +kernel)
set_option maxRecDepth 20000 in
theorem gX0_burden_X0_burdenOfUnits : GoodIn wsX0_burden (wsV RX0 101 RX0 yX0_burdenOfUnits wsX0_burdenOfUnits) := goodIn_app (goodIn_of _ (by decide +kernel)) ggX0_burden_X0_burdenOfUnits
theorem dX0_burden_0 : decode cX0_burden 0 = .ok (.iload_n 1, 1) := by decide +kernel
theorem dX0_burden_1 : decode cX0_burden 1 = .ok (.aload_n 0, 1) := by decide +kernel
theorem dX0_burden_2 : decode cX0_burden 2 = .ok (.getfield 55, 3) := by decide +kernel
theorem dX0_burden_5 : decode cX0_burden 5 = .ok (.invokestatic 58, 3) := by decide +kernel
theorem dX0_burden_8 : decode cX0_burden 8 = .ok (.lconst 0, 1) := by decide +kernel
theorem dX0_burden_9 : decode cX0_burden 9 = .ok (.lstore_n 2, 1) := by decide +kernel
theorem dX0_burden_10 : decode cX0_burden 10 = .ok (.iconst 0, 1) := by decide +kernel
theorem dX0_burden_11 : decode cX0_burden 11 = .ok (.istore 4, 2) := by decide +kernel
theorem dX0_burden_13 : decode cX0_burden 13 = .ok (.iload 4, 2) := by decide +kernel
theorem dX0_burden_15 : decode cX0_burden 15 = .ok (.aload_n 0, 1) := by decide +kernel
theorem dX0_burden_16 : decode cX0_burden 16 = .ok (.getfield 47, 3) := by decide +kernel
theorem dX0_burden_19 : decode cX0_burden 19 = .ok (.if_icmp .ge 26, 3) := by decide +kernel
theorem dX0_burden_22 : decode cX0_burden 22 = .ok (.lload_n 2, 1) := by decide +kernel
theorem dX0_burden_23 : decode cX0_burden 23 = .ok (.aload_n 0, 1) := by decide +kernel
theorem dX0_burden_24 : decode cX0_burden 24 = .ok (.iload 4, 2) := by decide +kernel
theorem dX0_burden_26 : decode cX0_burden 26 = .ok (.iload_n 1, 1) := by decide +kernel
theorem dX0_burden_27 : decode cX0_burden 27 = .ok (.aload_n 0, 1) := by decide +kernel
theorem dX0_burden_28 : decode cX0_burden 28 = .ok (.getfield 16, 3) := by decide +kernel
theorem dX0_burden_31 : decode cX0_burden 31 = .ok (.iload 4, 2) := by decide +kernel
theorem dX0_burden_33 : decode cX0_burden 33 = .ok (.iaload, 1) := by decide +kernel
theorem dX0_burden_34 : decode cX0_burden 34 = .ok (.invokevirtual 101, 3) := by decide +kernel
theorem dX0_burden_37 : decode cX0_burden 37 = .ok (.ladd, 1) := by decide +kernel
theorem dX0_burden_38 : decode cX0_burden 38 = .ok (.lstore_n 2, 1) := by decide +kernel
theorem dX0_burden_39 : decode cX0_burden 39 = .ok (.iinc 4 1, 3) := by decide +kernel
theorem dX0_burden_42 : decode cX0_burden 42 = .ok (.goto (-29), 3) := by decide +kernel
theorem dX0_burden_45 : decode cX0_burden 45 = .ok (.lload_n 2, 1) := by decide +kernel
theorem dX0_burden_46 : decode cX0_burden 46 = .ok (.lreturn, 1) := by decide +kernel
set_option maxRecDepth 20000 in
theorem ggX0_trade_X0_needTwoWells : GoodIn wsX0_trade wsX0_needTwoWells := goodIn_ca (goodIn_ca (goodIn_r _ [6, 7, 8, 9, 10, 11, 5, 12, 13, 14, 49, 50, 51, 52, 53, 54, 55, 56, 57, 58, 59, 60] (by decide +kernel) (by decide +kernel)) (goodIn_sub (fun _ h => List.mem_cons_of_mem _ (List.mem_append_left _ (List.mem_append_left _ (List.mem_append_right _ h)))) (by decide +kernel))) (goodIn_sub (fun _ h => List.mem_cons_of_mem _ (List.mem_append_left _ (List.mem_append_right _ h))) (by decide +kernel))
set_option maxRecDepth 20000 in
theorem gX0_trade_X0_needTwoWells : GoodIn wsX0_trade (wsV RX0 104 RX0 yX0_needTwoWells wsX0_needTwoWells) := goodIn_app (goodIn_of _ (by decide +kernel)) ggX0_trade_X0_needTwoWells
set_option maxRecDepth 20000 in
theorem ggX0_trade_X0_needRange : GoodIn wsX0_trade wsX0_needRange := goodIn_ca (goodIn_r _ [17, 7, 8] (by decide +kernel) (by decide +kernel)) (goodIn_sub (fun _ h => List.mem_cons_of_mem _ (List.mem_append_left _ (List.mem_append_left _ (List.mem_append_right _ h)))) (by decide +kernel))
set_option maxRecDepth 20000 in
theorem gX0_trade_X0_needRange : GoodIn wsX0_trade (va_wsS RX0 43 yX0_needRange wsX0_needRange) := goodIn_app (goodIn_of _ (by decide +kernel)) ggX0_trade_X0_needRange
set_option maxRecDepth 20000 in
theorem ggX0_trade_X0_canTrade : GoodIn wsX0_trade wsX0_canTrade := goodIn_r _ [21, 1, 22, 23, 24, 25, 5, 26, 27, 28, 29, 30, 31, 32, 33, 34, 35, 36, 37, 38, 39, 40, 41, 42, 43, 49, 50, 51, 52, 53, 54, 55, 56, 57, 58, 59, 60] (by decide +kernel) (by decide +kernel)
set_option maxRecDepth 20000 in
theorem gX0_trade_X0_canTrade : GoodIn wsX0_trade (wsV RX0 107 RX0 yX0_canTrade wsX0_canTrade) := goodIn_app (goodIn_of _ (by decide +kernel)) ggX0_trade_X0_canTrade
set_option maxRecDepth 20000 in
theorem ggX0_trade_X0_needAllowed : GoodIn wsX0_trade wsX0_needAllowed := goodIn_ca (goodIn_r _ [46, 47, 48] (by decide +kernel) (by decide +kernel)) (goodIn_sub (fun _ h => List.mem_cons_of_mem _ (List.mem_append_right _ h)) (by decide +kernel))
set_option maxRecDepth 20000 in
theorem gX0_trade_X0_needAllowed : GoodIn wsX0_trade (va_wsS RX0 51 yX0_needAllowed wsX0_needAllowed) := goodIn_app (goodIn_of _ (by decide +kernel)) ggX0_trade_X0_needAllowed
set_option maxRecDepth 20000 in
theorem ggX0_trade_X0_unitsGot : GoodIn wsX0_trade wsX0_unitsGot := goodIn_r _ [26, 27, 28, 49, 50, 51, 52, 53, 54, 55, 56, 57, 58, 59, 60] (by decide +kernel) (by decide +kernel)
set_option maxRecDepth 20000 in
theorem gX0_trade_X0_unitsGot : GoodIn wsX0_trade (wsV RX0 111 RX0 yX0_unitsGot wsX0_unitsGot) := goodIn_app (goodIn_of _ (by decide +kernel)) ggX0_trade_X0_unitsGot
theorem dX0_trade_0 : decode cX0_trade 0 = .ok (.aload_n 0, 1) := by decide +kernel
theorem dX0_trade_1 : decode cX0_trade 1 = .ok (.iload_n 1, 1) := by decide +kernel
theorem dX0_trade_2 : decode cX0_trade 2 = .ok (.iload_n 2, 1) := by decide +kernel
theorem dX0_trade_3 : decode cX0_trade 3 = .ok (.invokevirtual 104, 3) := by decide +kernel
theorem dX0_trade_6 : decode cX0_trade 6 = .ok (.iload_n 3, 1) := by decide +kernel
theorem dX0_trade_7 : decode cX0_trade 7 = .ok (.iconst 1, 1) := by decide +kernel
theorem dX0_trade_8 : decode cX0_trade 8 = .ok (.sipush 5000, 3) := by decide +kernel
theorem dX0_trade_11 : decode cX0_trade 11 = .ok (.invokestatic 43, 3) := by decide +kernel
theorem dX0_trade_14 : decode cX0_trade 14 = .ok (.aload_n 0, 1) := by decide +kernel
theorem dX0_trade_15 : decode cX0_trade 15 = .ok (.iload_n 1, 1) := by decide +kernel
theorem dX0_trade_16 : decode cX0_trade 16 = .ok (.iload_n 2, 1) := by decide +kernel
theorem dX0_trade_17 : decode cX0_trade 17 = .ok (.iload_n 3, 1) := by decide +kernel
theorem dX0_trade_18 : decode cX0_trade 18 = .ok (.invokevirtual 107, 3) := by decide +kernel
theorem dX0_trade_21 : decode cX0_trade 21 = .ok (.invokestatic 51, 3) := by decide +kernel
theorem dX0_trade_24 : decode cX0_trade 24 = .ok (.aload_n 0, 1) := by decide +kernel
theorem dX0_trade_25 : decode cX0_trade 25 = .ok (.iload_n 1, 1) := by decide +kernel
theorem dX0_trade_26 : decode cX0_trade 26 = .ok (.iload_n 2, 1) := by decide +kernel
theorem dX0_trade_27 : decode cX0_trade 27 = .ok (.iload_n 3, 1) := by decide +kernel
theorem dX0_trade_28 : decode cX0_trade 28 = .ok (.invokevirtual 111, 3) := by decide +kernel
theorem dX0_trade_31 : decode cX0_trade 31 = .ok (.istore 4, 2) := by decide +kernel
theorem dX0_trade_33 : decode cX0_trade 33 = .ok (.aload_n 0, 1) := by decide +kernel
theorem dX0_trade_34 : decode cX0_trade 34 = .ok (.getfield 16, 3) := by decide +kernel
theorem dX0_trade_37 : decode cX0_trade 37 = .ok (.iload_n 1, 1) := by decide +kernel
theorem dX0_trade_38 : decode cX0_trade 38 = .ok (.dup2, 1) := by decide +kernel
theorem dX0_trade_39 : decode cX0_trade 39 = .ok (.iaload, 1) := by decide +kernel
theorem dX0_trade_40 : decode cX0_trade 40 = .ok (.iload_n 3, 1) := by decide +kernel
theorem dX0_trade_41 : decode cX0_trade 41 = .ok (.isub, 1) := by decide +kernel
theorem dX0_trade_42 : decode cX0_trade 42 = .ok (.iastore, 1) := by decide +kernel
theorem dX0_trade_43 : decode cX0_trade 43 = .ok (.aload_n 0, 1) := by decide +kernel
theorem dX0_trade_44 : decode cX0_trade 44 = .ok (.getfield 16, 3) := by decide +kernel
theorem dX0_trade_47 : decode cX0_trade 47 = .ok (.iload_n 2, 1) := by decide +kernel
theorem dX0_trade_48 : decode cX0_trade 48 = .ok (.dup2, 1) := by decide +kernel
theorem dX0_trade_49 : decode cX0_trade 49 = .ok (.iaload, 1) := by decide +kernel
theorem dX0_trade_50 : decode cX0_trade 50 = .ok (.iload 4, 2) := by decide +kernel
theorem dX0_trade_52 : decode cX0_trade 52 = .ok (.iadd, 1) := by decide +kernel
theorem dX0_trade_53 : decode cX0_trade 53 = .ok (.iastore, 1) := by decide +kernel
theorem dX0_trade_54 : decode cX0_trade 54 = .ok (.iload 4, 2) := by decide +kernel
theorem dX0_trade_56 : decode cX0_trade 56 = .ok (.ireturn, 1) := by decide +kernel
set_option maxRecDepth 20000 in
theorem ggX0_mostTraded_X0_needTwoWells : GoodIn wsX0_mostTraded wsX0_needTwoWells := goodIn_ca (goodIn_ca (goodIn_r _ [10, 11, 12, 13, 14, 15, 9, 16, 17, 18, 44, 45, 46, 47, 48, 49, 50, 51, 52, 53, 54, 55] (by decide +kernel) (by decide +kernel)) (goodIn_sub (fun _ h => List.mem_cons_of_mem _ (List.mem_append_left _ (List.mem_append_right _ h))) (by decide +kernel))) (goodIn_sub (fun _ h => List.mem_cons_of_mem _ (List.mem_append_right _ h)) (by decide +kernel))
set_option maxRecDepth 20000 in
theorem gX0_mostTraded_X0_needTwoWells : GoodIn wsX0_mostTraded (wsV RX0 104 RX0 yX0_needTwoWells wsX0_needTwoWells) := goodIn_app (goodIn_of _ (by decide +kernel)) ggX0_mostTraded_X0_needTwoWells
set_option maxRecDepth 20000 in
theorem ggX0_mostTraded_X0_canTrade : GoodIn wsX0_mostTraded wsX0_canTrade := goodIn_r _ [22, 1, 23, 24, 25, 26, 9, 27, 28, 29, 30, 31, 32, 33, 34, 35, 36, 37, 38, 39, 40, 41, 42, 4, 43, 44, 45, 46, 47, 48, 49, 50, 51, 52, 53, 54, 55] (by decide +kernel) (by decide +kernel)
set_option maxRecDepth 20000 in
theorem gX0_mostTraded_X0_canTrade : GoodIn wsX0_mostTraded (wsV RX0 107 RX0 yX0_canTrade wsX0_canTrade) := goodIn_app (goodIn_of _ (by decide +kernel)) ggX0_mostTraded_X0_canTrade
theorem dX0_mostTraded_0 : decode cX0_mostTraded 0 = .ok (.aload_n 0, 1) := by decide +kernel
theorem dX0_mostTraded_1 : decode cX0_mostTraded 1 = .ok (.iload_n 1, 1) := by decide +kernel
theorem dX0_mostTraded_2 : decode cX0_mostTraded 2 = .ok (.iload_n 2, 1) := by decide +kernel
theorem dX0_mostTraded_3 : decode cX0_mostTraded 3 = .ok (.invokevirtual 104, 3) := by decide +kernel
theorem dX0_mostTraded_6 : decode cX0_mostTraded 6 = .ok (.aload_n 0, 1) := by decide +kernel
theorem dX0_mostTraded_7 : decode cX0_mostTraded 7 = .ok (.getfield 16, 3) := by decide +kernel
theorem dX0_mostTraded_10 : decode cX0_mostTraded 10 = .ok (.iload_n 1, 1) := by decide +kernel
theorem dX0_mostTraded_11 : decode cX0_mostTraded 11 = .ok (.iaload, 1) := by decide +kernel
theorem dX0_mostTraded_12 : decode cX0_mostTraded 12 = .ok (.sipush 5000, 3) := by decide +kernel
theorem dX0_mostTraded_15 : decode cX0_mostTraded 15 = .ok (.invokestatic 62, 3) := by decide +kernel
theorem dX0_mostTraded_18 : decode cX0_mostTraded 18 = .ok (.istore_n 3, 1) := by decide +kernel
theorem dX0_mostTraded_19 : decode cX0_mostTraded 19 = .ok (.iload_n 3, 1) := by decide +kernel
theorem dX0_mostTraded_20 : decode cX0_mostTraded 20 = .ok (.ifCond .le 21, 3) := by decide +kernel
theorem dX0_mostTraded_23 : decode cX0_mostTraded 23 = .ok (.aload_n 0, 1) := by decide +kernel
theorem dX0_mostTraded_24 : decode cX0_mostTraded 24 = .ok (.iload_n 1, 1) := by decide +kernel
theorem dX0_mostTraded_25 : decode cX0_mostTraded 25 = .ok (.iload_n 2, 1) := by decide +kernel
theorem dX0_mostTraded_26 : decode cX0_mostTraded 26 = .ok (.iload_n 3, 1) := by decide +kernel
theorem dX0_mostTraded_27 : decode cX0_mostTraded 27 = .ok (.invokevirtual 107, 3) := by decide +kernel
theorem dX0_mostTraded_30 : decode cX0_mostTraded 30 = .ok (.ifCond .eq 5, 3) := by decide +kernel
theorem dX0_mostTraded_33 : decode cX0_mostTraded 33 = .ok (.iload_n 3, 1) := by decide +kernel
theorem dX0_mostTraded_34 : decode cX0_mostTraded 34 = .ok (.ireturn, 1) := by decide +kernel
theorem dX0_mostTraded_35 : decode cX0_mostTraded 35 = .ok (.iinc 3 (-1), 3) := by decide +kernel
theorem dX0_mostTraded_38 : decode cX0_mostTraded 38 = .ok (.goto (-19), 3) := by decide +kernel
theorem dX0_mostTraded_41 : decode cX0_mostTraded 41 = .ok (.iconst 0, 1) := by decide +kernel
theorem dX0_mostTraded_42 : decode cX0_mostTraded 42 = .ok (.ireturn, 1) := by decide +kernel
theorem dX0_needIndex_0 : decode cX0_needIndex 0 = .ok (.iload_n 0, 1) := by decide +kernel
theorem dX0_needIndex_1 : decode cX0_needIndex 1 = .ok (.ifCond .lt 8, 3) := by decide +kernel
theorem dX0_needIndex_4 : decode cX0_needIndex 4 = .ok (.iload_n 0, 1) := by decide +kernel
theorem dX0_needIndex_5 : decode cX0_needIndex 5 = .ok (.iload_n 1, 1) := by decide +kernel
theorem dX0_needIndex_6 : decode cX0_needIndex 6 = .ok (.if_icmp .lt 13, 3) := by decide +kernel
theorem dX0_needIndex_9 : decode cX0_needIndex 9 = .ok (.new 114, 3) := by decide +kernel
theorem dX0_needIndex_12 : decode cX0_needIndex 12 = .ok (.dup, 1) := by decide +kernel
theorem dX0_needIndex_13 : decode cX0_needIndex 13 = .ok (.ldc 116, 2) := by decide +kernel
theorem dX0_needIndex_15 : decode cX0_needIndex 15 = .ok (.invokespecial 118, 3) := by decide +kernel
theorem dX0_needIndex_18 : decode cX0_needIndex 18 = .ok (.athrow, 1) := by decide +kernel
theorem dX0_needIndex_19 : decode cX0_needIndex 19 = .ok (.return_, 1) := by decide +kernel
theorem dX0_needRange_0 : decode cX0_needRange 0 = .ok (.iload_n 0, 1) := by decide +kernel
theorem dX0_needRange_1 : decode cX0_needRange 1 = .ok (.iload_n 1, 1) := by decide +kernel
theorem dX0_needRange_2 : decode cX0_needRange 2 = .ok (.if_icmp .lt 8, 3) := by decide +kernel
theorem dX0_needRange_5 : decode cX0_needRange 5 = .ok (.iload_n 0, 1) := by decide +kernel
theorem dX0_needRange_6 : decode cX0_needRange 6 = .ok (.iload_n 2, 1) := by decide +kernel
theorem dX0_needRange_7 : decode cX0_needRange 7 = .ok (.if_icmp .le 13, 3) := by decide +kernel
theorem dX0_needRange_10 : decode cX0_needRange 10 = .ok (.new 121, 3) := by decide +kernel
theorem dX0_needRange_13 : decode cX0_needRange 13 = .ok (.dup, 1) := by decide +kernel
theorem dX0_needRange_14 : decode cX0_needRange 14 = .ok (.ldc 123, 2) := by decide +kernel
theorem dX0_needRange_16 : decode cX0_needRange 16 = .ok (.invokespecial 125, 3) := by decide +kernel
theorem dX0_needRange_19 : decode cX0_needRange 19 = .ok (.athrow, 1) := by decide +kernel
theorem dX0_needRange_20 : decode cX0_needRange 20 = .ok (.return_, 1) := by decide +kernel
theorem dX0_needAllowed_0 : decode cX0_needAllowed 0 = .ok (.iload_n 0, 1) := by decide +kernel
theorem dX0_needAllowed_1 : decode cX0_needAllowed 1 = .ok (.ifCond .ne 13, 3) := by decide +kernel
theorem dX0_needAllowed_4 : decode cX0_needAllowed 4 = .ok (.new 126, 3) := by decide +kernel
theorem dX0_needAllowed_7 : decode cX0_needAllowed 7 = .ok (.dup, 1) := by decide +kernel
theorem dX0_needAllowed_8 : decode cX0_needAllowed 8 = .ok (.ldc 128, 2) := by decide +kernel
theorem dX0_needAllowed_10 : decode cX0_needAllowed 10 = .ok (.invokespecial 130, 3) := by decide +kernel
theorem dX0_needAllowed_13 : decode cX0_needAllowed 13 = .ok (.athrow, 1) := by decide +kernel
theorem dX0_needAllowed_14 : decode cX0_needAllowed 14 = .ok (.return_, 1) := by decide +kernel
set_option maxRecDepth 20000 in
theorem ggX0_needTwoWells_X0_needIndex : GoodIn wsX0_needTwoWells wsX0_needIndex := goodIn_ca (goodIn_r _ [7, 8, 9] (by decide +kernel) (by decide +kernel)) (goodIn_sub (fun _ h => List.mem_cons_of_mem _ (List.mem_append_right _ h)) (by decide +kernel))
set_option maxRecDepth 20000 in
theorem gX0_needTwoWells_X0_needIndex : GoodIn wsX0_needTwoWells (va_wsS RX0 58 yX0_needIndex wsX0_needIndex) := goodIn_app (goodIn_of _ (by decide +kernel)) ggX0_needTwoWells_X0_needIndex
theorem dX0_needTwoWells_0 : decode cX0_needTwoWells 0 = .ok (.iload_n 1, 1) := by decide +kernel
theorem dX0_needTwoWells_1 : decode cX0_needTwoWells 1 = .ok (.aload_n 0, 1) := by decide +kernel
theorem dX0_needTwoWells_2 : decode cX0_needTwoWells 2 = .ok (.getfield 47, 3) := by decide +kernel
theorem dX0_needTwoWells_5 : decode cX0_needTwoWells 5 = .ok (.invokestatic 58, 3) := by decide +kernel
theorem dX0_needTwoWells_8 : decode cX0_needTwoWells 8 = .ok (.iload_n 2, 1) := by decide +kernel
theorem dX0_needTwoWells_9 : decode cX0_needTwoWells 9 = .ok (.aload_n 0, 1) := by decide +kernel
theorem dX0_needTwoWells_10 : decode cX0_needTwoWells 10 = .ok (.getfield 47, 3) := by decide +kernel
theorem dX0_needTwoWells_13 : decode cX0_needTwoWells 13 = .ok (.invokestatic 58, 3) := by decide +kernel
theorem dX0_needTwoWells_16 : decode cX0_needTwoWells 16 = .ok (.iload_n 1, 1) := by decide +kernel
theorem dX0_needTwoWells_17 : decode cX0_needTwoWells 17 = .ok (.iload_n 2, 1) := by decide +kernel
theorem dX0_needTwoWells_18 : decode cX0_needTwoWells 18 = .ok (.if_icmp .ne 13, 3) := by decide +kernel
theorem dX0_needTwoWells_21 : decode cX0_needTwoWells 21 = .ok (.new 121, 3) := by decide +kernel
theorem dX0_needTwoWells_24 : decode cX0_needTwoWells 24 = .ok (.dup, 1) := by decide +kernel
theorem dX0_needTwoWells_25 : decode cX0_needTwoWells 25 = .ok (.ldc 131, 2) := by decide +kernel
theorem dX0_needTwoWells_27 : decode cX0_needTwoWells 27 = .ok (.invokespecial 125, 3) := by decide +kernel
theorem dX0_needTwoWells_30 : decode cX0_needTwoWells 30 = .ok (.athrow, 1) := by decide +kernel
theorem dX0_needTwoWells_31 : decode cX0_needTwoWells 31 = .ok (.return_, 1) := by decide +kernel
theorem dX0_unitsOfYear_0 : decode cX0_unitsOfYear 0 = .ok (.iload_n 2, 1) := by decide +kernel
theorem dX0_unitsOfYear_1 : decode cX0_unitsOfYear 1 = .ok (.bipush 12, 2) := by decide +kernel
theorem dX0_unitsOfYear_3 : decode cX0_unitsOfYear 3 = .ok (.imul, 1) := by decide +kernel
theorem dX0_unitsOfYear_4 : decode cX0_unitsOfYear 4 = .ok (.istore_n 3, 1) := by decide +kernel
theorem dX0_unitsOfYear_5 : decode cX0_unitsOfYear 5 = .ok (.iconst 0, 1) := by decide +kernel
theorem dX0_unitsOfYear_6 : decode cX0_unitsOfYear 6 = .ok (.istore 4, 2) := by decide +kernel
theorem dX0_unitsOfYear_8 : decode cX0_unitsOfYear 8 = .ok (.iload_n 3, 1) := by decide +kernel
theorem dX0_unitsOfYear_9 : decode cX0_unitsOfYear 9 = .ok (.istore 5, 2) := by decide +kernel
theorem dX0_unitsOfYear_11 : decode cX0_unitsOfYear 11 = .ok (.iload 5, 2) := by decide +kernel
theorem dX0_unitsOfYear_13 : decode cX0_unitsOfYear 13 = .ok (.iload_n 3, 1) := by decide +kernel
theorem dX0_unitsOfYear_14 : decode cX0_unitsOfYear 14 = .ok (.bipush 12, 2) := by decide +kernel
theorem dX0_unitsOfYear_16 : decode cX0_unitsOfYear 16 = .ok (.iadd, 1) := by decide +kernel
theorem dX0_unitsOfYear_17 : decode cX0_unitsOfYear 17 = .ok (.if_icmp .ge 23, 3) := by decide +kernel
theorem dX0_unitsOfYear_20 : decode cX0_unitsOfYear 20 = .ok (.iload 4, 2) := by decide +kernel
theorem dX0_unitsOfYear_22 : decode cX0_unitsOfYear 22 = .ok (.aload_n 0, 1) := by decide +kernel
theorem dX0_unitsOfYear_23 : decode cX0_unitsOfYear 23 = .ok (.getfield 21, 3) := by decide +kernel
theorem dX0_unitsOfYear_26 : decode cX0_unitsOfYear 26 = .ok (.iload_n 1, 1) := by decide +kernel
theorem dX0_unitsOfYear_27 : decode cX0_unitsOfYear 27 = .ok (.aaload, 1) := by decide +kernel
theorem dX0_unitsOfYear_28 : decode cX0_unitsOfYear 28 = .ok (.iload 5, 2) := by decide +kernel
theorem dX0_unitsOfYear_30 : decode cX0_unitsOfYear 30 = .ok (.iaload, 1) := by decide +kernel
theorem dX0_unitsOfYear_31 : decode cX0_unitsOfYear 31 = .ok (.iadd, 1) := by decide +kernel
theorem dX0_unitsOfYear_32 : decode cX0_unitsOfYear 32 = .ok (.istore 4, 2) := by decide +kernel
theorem dX0_unitsOfYear_34 : decode cX0_unitsOfYear 34 = .ok (.iinc 5 1, 3) := by decide +kernel
theorem dX0_unitsOfYear_37 : decode cX0_unitsOfYear 37 = .ok (.goto (-26), 3) := by decide +kernel
theorem dX0_unitsOfYear_40 : decode cX0_unitsOfYear 40 = .ok (.iload 4, 2) := by decide +kernel
theorem dX0_unitsOfYear_42 : decode cX0_unitsOfYear 42 = .ok (.ireturn, 1) := by decide +kernel
theorem dX0_reachOf_0 : decode cX0_reachOf 0 = .ok (.aload_n 0, 1) := by decide +kernel
theorem dX0_reachOf_1 : decode cX0_reachOf 1 = .ok (.getfield 9, 3) := by decide +kernel
theorem dX0_reachOf_4 : decode cX0_reachOf 4 = .ok (.iload_n 1, 1) := by decide +kernel
theorem dX0_reachOf_5 : decode cX0_reachOf 5 = .ok (.iaload, 1) := by decide +kernel
theorem dX0_reachOf_6 : decode cX0_reachOf 6 = .ok (.aload_n 0, 1) := by decide +kernel
theorem dX0_reachOf_7 : decode cX0_reachOf 7 = .ok (.getfield 24, 3) := by decide +kernel
theorem dX0_reachOf_10 : decode cX0_reachOf 10 = .ok (.iload_n 2, 1) := by decide +kernel
theorem dX0_reachOf_11 : decode cX0_reachOf 11 = .ok (.iaload, 1) := by decide +kernel
theorem dX0_reachOf_12 : decode cX0_reachOf 12 = .ok (.isub, 1) := by decide +kernel
theorem dX0_reachOf_13 : decode cX0_reachOf 13 = .ok (.invokestatic 133, 3) := by decide +kernel
theorem dX0_reachOf_16 : decode cX0_reachOf 16 = .ok (.bipush 10, 2) := by decide +kernel
theorem dX0_reachOf_18 : decode cX0_reachOf 18 = .ok (.idiv, 1) := by decide +kernel
theorem dX0_reachOf_19 : decode cX0_reachOf 19 = .ok (.ireturn, 1) := by decide +kernel
theorem dX0_tableNumber_0 : decode cX0_tableNumber 0 = .ok (.iload_n 1, 1) := by decide +kernel
theorem dX0_tableNumber_1 : decode cX0_tableNumber 1 = .ok (.iconst 5, 1) := by decide +kernel
theorem dX0_tableNumber_2 : decode cX0_tableNumber 2 = .ok (.if_icmp .ge 14, 3) := by decide +kernel
theorem dX0_tableNumber_5 : decode cX0_tableNumber 5 = .ok (.aload_n 0, 1) := by decide +kernel
theorem dX0_tableNumber_6 : decode cX0_tableNumber 6 = .ok (.getfield 30, 3) := by decide +kernel
theorem dX0_tableNumber_9 : decode cX0_tableNumber 9 = .ok (.iload_n 1, 1) := by decide +kernel
theorem dX0_tableNumber_10 : decode cX0_tableNumber 10 = .ok (.aaload, 1) := by decide +kernel
theorem dX0_tableNumber_11 : decode cX0_tableNumber 11 = .ok (.iload_n 2, 1) := by decide +kernel
theorem dX0_tableNumber_12 : decode cX0_tableNumber 12 = .ok (.iaload, 1) := by decide +kernel
theorem dX0_tableNumber_13 : decode cX0_tableNumber 13 = .ok (.goto 4, 3) := by decide +kernel
theorem dX0_tableNumber_16 : decode cX0_tableNumber 16 = .ok (.iconst 0, 1) := by decide +kernel
theorem dX0_tableNumber_17 : decode cX0_tableNumber 17 = .ok (.ireturn, 1) := by decide +kernel
set_option maxRecDepth 20000 in
theorem ggX0_loweredIn_X0_reachOf : GoodIn wsX0_loweredIn wsX0_reachOf := goodIn_r _ [7, 8, 9, 10, 11, 12, 13, 19, 20, 21, 22, 23, 24, 25, 26, 27, 28, 29, 30] (by decide +kernel) (by decide +kernel)
set_option maxRecDepth 20000 in
theorem gX0_loweredIn_X0_reachOf : GoodIn wsX0_loweredIn (wsV RX0 78 RX0 yX0_reachOf wsX0_reachOf) := goodIn_app (goodIn_of _ (by decide +kernel)) ggX0_loweredIn_X0_reachOf
set_option maxRecDepth 20000 in
theorem ggX0_loweredIn_X0_tableNumber : GoodIn wsX0_loweredIn wsX0_tableNumber := goodIn_r _ [17, 18, 19, 20, 21, 22, 23, 24, 25, 26, 27, 28, 29, 30] (by decide +kernel) (by decide +kernel)
set_option maxRecDepth 20000 in
theorem gX0_loweredIn_X0_tableNumber : GoodIn wsX0_loweredIn (wsV RX0 137 RX0 yX0_tableNumber wsX0_tableNumber) := goodIn_app (goodIn_of _ (by decide +kernel)) ggX0_loweredIn_X0_tableNumber
theorem dX0_loweredIn_0 : decode cX0_loweredIn 0 = .ok (.lconst 0, 1) := by decide +kernel
theorem dX0_loweredIn_1 : decode cX0_loweredIn 1 = .ok (.lstore_n 3, 1) := by decide +kernel
theorem dX0_loweredIn_2 : decode cX0_loweredIn 2 = .ok (.iconst 0, 1) := by decide +kernel
theorem dX0_loweredIn_3 : decode cX0_loweredIn 3 = .ok (.istore 5, 2) := by decide +kernel
theorem dX0_loweredIn_5 : decode cX0_loweredIn 5 = .ok (.iload 5, 2) := by decide +kernel
theorem dX0_loweredIn_7 : decode cX0_loweredIn 7 = .ok (.aload_n 0, 1) := by decide +kernel
theorem dX0_loweredIn_8 : decode cX0_loweredIn 8 = .ok (.getfield 47, 3) := by decide +kernel
theorem dX0_loweredIn_11 : decode cX0_loweredIn 11 = .ok (.if_icmp .ge 66, 3) := by decide +kernel
theorem dX0_loweredIn_14 : decode cX0_loweredIn 14 = .ok (.aload_n 0, 1) := by decide +kernel
theorem dX0_loweredIn_15 : decode cX0_loweredIn 15 = .ok (.iload 5, 2) := by decide +kernel
theorem dX0_loweredIn_17 : decode cX0_loweredIn 17 = .ok (.iload_n 1, 1) := by decide +kernel
theorem dX0_loweredIn_18 : decode cX0_loweredIn 18 = .ok (.invokevirtual 78, 3) := by decide +kernel
theorem dX0_loweredIn_21 : decode cX0_loweredIn 21 = .ok (.istore 6, 2) := by decide +kernel
theorem dX0_loweredIn_23 : decode cX0_loweredIn 23 = .ok (.iconst 0, 1) := by decide +kernel
theorem dX0_loweredIn_24 : decode cX0_loweredIn 24 = .ok (.istore 7, 2) := by decide +kernel
theorem dX0_loweredIn_26 : decode cX0_loweredIn 26 = .ok (.iload 7, 2) := by decide +kernel
theorem dX0_loweredIn_28 : decode cX0_loweredIn 28 = .ok (.bipush 12, 2) := by decide +kernel
theorem dX0_loweredIn_30 : decode cX0_loweredIn 30 = .ok (.if_icmp .ge 41, 3) := by decide +kernel
theorem dX0_loweredIn_33 : decode cX0_loweredIn 33 = .ok (.iload 7, 2) := by decide +kernel
theorem dX0_loweredIn_35 : decode cX0_loweredIn 35 = .ok (.iload_n 2, 1) := by decide +kernel
theorem dX0_loweredIn_36 : decode cX0_loweredIn 36 = .ok (.if_icmp .gt 35, 3) := by decide +kernel
theorem dX0_loweredIn_39 : decode cX0_loweredIn 39 = .ok (.lload_n 3, 1) := by decide +kernel
theorem dX0_loweredIn_40 : decode cX0_loweredIn 40 = .ok (.aload_n 0, 1) := by decide +kernel
theorem dX0_loweredIn_41 : decode cX0_loweredIn 41 = .ok (.getfield 21, 3) := by decide +kernel
theorem dX0_loweredIn_44 : decode cX0_loweredIn 44 = .ok (.iload 5, 2) := by decide +kernel
theorem dX0_loweredIn_46 : decode cX0_loweredIn 46 = .ok (.aaload, 1) := by decide +kernel
theorem dX0_loweredIn_47 : decode cX0_loweredIn 47 = .ok (.iload_n 2, 1) := by decide +kernel
theorem dX0_loweredIn_48 : decode cX0_loweredIn 48 = .ok (.iload 7, 2) := by decide +kernel
theorem dX0_loweredIn_50 : decode cX0_loweredIn 50 = .ok (.isub, 1) := by decide +kernel
theorem dX0_loweredIn_51 : decode cX0_loweredIn 51 = .ok (.iaload, 1) := by decide +kernel
theorem dX0_loweredIn_52 : decode cX0_loweredIn 52 = .ok (.i2l, 1) := by decide +kernel
theorem dX0_loweredIn_53 : decode cX0_loweredIn 53 = .ok (.aload_n 0, 1) := by decide +kernel
theorem dX0_loweredIn_54 : decode cX0_loweredIn 54 = .ok (.iload 6, 2) := by decide +kernel
theorem dX0_loweredIn_56 : decode cX0_loweredIn 56 = .ok (.iload 7, 2) := by decide +kernel
theorem dX0_loweredIn_58 : decode cX0_loweredIn 58 = .ok (.invokevirtual 137, 3) := by decide +kernel
theorem dX0_loweredIn_61 : decode cX0_loweredIn 61 = .ok (.i2l, 1) := by decide +kernel
theorem dX0_loweredIn_62 : decode cX0_loweredIn 62 = .ok (.lmul, 1) := by decide +kernel
theorem dX0_loweredIn_63 : decode cX0_loweredIn 63 = .ok (.ladd, 1) := by decide +kernel
theorem dX0_loweredIn_64 : decode cX0_loweredIn 64 = .ok (.lstore_n 3, 1) := by decide +kernel
theorem dX0_loweredIn_65 : decode cX0_loweredIn 65 = .ok (.iinc 7 1, 3) := by decide +kernel
theorem dX0_loweredIn_68 : decode cX0_loweredIn 68 = .ok (.goto (-42), 3) := by decide +kernel
theorem dX0_loweredIn_71 : decode cX0_loweredIn 71 = .ok (.iinc 5 1, 3) := by decide +kernel
theorem dX0_loweredIn_74 : decode cX0_loweredIn 74 = .ok (.goto (-69), 3) := by decide +kernel
theorem dX0_loweredIn_77 : decode cX0_loweredIn 77 = .ok (.lload_n 3, 1) := by decide +kernel
theorem dX0_loweredIn_78 : decode cX0_loweredIn 78 = .ok (.lreturn, 1) := by decide +kernel
set_option maxRecDepth 20000 in
theorem ggX0_layPulse_X0_tableNumber : GoodIn wsX0_layPulse wsX0_tableNumber := goodIn_r _ [6, 7, 8, 9, 10, 11, 12, 13, 14, 15, 16, 17, 18, 19] (by decide +kernel) (by decide +kernel)
set_option maxRecDepth 20000 in
theorem gX0_layPulse_X0_tableNumber : GoodIn wsX0_layPulse (wsV RX0 137 RX0 yX0_tableNumber wsX0_tableNumber) := goodIn_app (goodIn_of _ (by decide +kernel)) ggX0_layPulse_X0_tableNumber
theorem dX0_layPulse_0 : decode cX0_layPulse 0 = .ok (.iconst 0, 1) := by decide +kernel
theorem dX0_layPulse_1 : decode cX0_layPulse 1 = .ok (.istore 4, 2) := by decide +kernel
theorem dX0_layPulse_3 : decode cX0_layPulse 3 = .ok (.iload 4, 2) := by decide +kernel
theorem dX0_layPulse_5 : decode cX0_layPulse 5 = .ok (.bipush 12, 2) := by decide +kernel
theorem dX0_layPulse_7 : decode cX0_layPulse 7 = .ok (.if_icmp .ge 41, 3) := by decide +kernel
theorem dX0_layPulse_10 : decode cX0_layPulse 10 = .ok (.iload_n 2, 1) := by decide +kernel
theorem dX0_layPulse_11 : decode cX0_layPulse 11 = .ok (.iload 4, 2) := by decide +kernel
theorem dX0_layPulse_13 : decode cX0_layPulse 13 = .ok (.iadd, 1) := by decide +kernel
theorem dX0_layPulse_14 : decode cX0_layPulse 14 = .ok (.bipush 36, 2) := by decide +kernel
theorem dX0_layPulse_16 : decode cX0_layPulse 16 = .ok (.if_icmp .ge 32, 3) := by decide +kernel
theorem dX0_layPulse_19 : decode cX0_layPulse 19 = .ok (.aload_n 0, 1) := by decide +kernel
theorem dX0_layPulse_20 : decode cX0_layPulse 20 = .ok (.getfield 39, 3) := by decide +kernel
theorem dX0_layPulse_23 : decode cX0_layPulse 23 = .ok (.iload_n 2, 1) := by decide +kernel
theorem dX0_layPulse_24 : decode cX0_layPulse 24 = .ok (.iload 4, 2) := by decide +kernel
theorem dX0_layPulse_26 : decode cX0_layPulse 26 = .ok (.iadd, 1) := by decide +kernel
theorem dX0_layPulse_27 : decode cX0_layPulse 27 = .ok (.dup2, 1) := by decide +kernel
theorem dX0_layPulse_28 : decode cX0_layPulse 28 = .ok (.laload, 1) := by decide +kernel
theorem dX0_layPulse_29 : decode cX0_layPulse 29 = .ok (.iload_n 3, 1) := by decide +kernel
theorem dX0_layPulse_30 : decode cX0_layPulse 30 = .ok (.i2l, 1) := by decide +kernel
theorem dX0_layPulse_31 : decode cX0_layPulse 31 = .ok (.aload_n 0, 1) := by decide +kernel
theorem dX0_layPulse_32 : decode cX0_layPulse 32 = .ok (.iload_n 1, 1) := by decide +kernel
theorem dX0_layPulse_33 : decode cX0_layPulse 33 = .ok (.iload 4, 2) := by decide +kernel
theorem dX0_layPulse_35 : decode cX0_layPulse 35 = .ok (.invokevirtual 137, 3) := by decide +kernel
theorem dX0_layPulse_38 : decode cX0_layPulse 38 = .ok (.i2l, 1) := by decide +kernel
theorem dX0_layPulse_39 : decode cX0_layPulse 39 = .ok (.lmul, 1) := by decide +kernel
theorem dX0_layPulse_40 : decode cX0_layPulse 40 = .ok (.ladd, 1) := by decide +kernel
theorem dX0_layPulse_41 : decode cX0_layPulse 41 = .ok (.lastore, 1) := by decide +kernel
theorem dX0_layPulse_42 : decode cX0_layPulse 42 = .ok (.iinc 4 1, 3) := by decide +kernel
theorem dX0_layPulse_45 : decode cX0_layPulse 45 = .ok (.goto (-42), 3) := by decide +kernel
theorem dX0_layPulse_48 : decode cX0_layPulse 48 = .ok (.return_, 1) := by decide +kernel
set_option maxRecDepth 20000 in
theorem ggX0_thousandthsLeft_X0_loweredIn : GoodIn wsX0_thousandthsLeft wsX0_loweredIn := goodIn_r _ [7, 8, 9, 10, 11, 12, 6, 13, 14, 15, 16, 17, 18, 19, 20, 21, 22, 23, 24, 25, 26, 27, 28, 29, 30, 31, 32, 33, 34, 35, 36] (by decide +kernel) (by decide +kernel)
set_option maxRecDepth 20000 in
theorem gX0_thousandthsLeft_X0_loweredIn : GoodIn wsX0_thousandthsLeft (wsV RX0 74 RX0 yX0_loweredIn wsX0_loweredIn) := goodIn_app (goodIn_of _ (by decide +kernel)) ggX0_thousandthsLeft_X0_loweredIn
theorem dX0_thousandthsLeft_0 : decode cX0_thousandthsLeft 0 = .ok (.ldc2_w 140, 3) := by decide +kernel
theorem dX0_thousandthsLeft_3 : decode cX0_thousandthsLeft 3 = .ok (.aload_n 0, 1) := by decide +kernel
theorem dX0_thousandthsLeft_4 : decode cX0_thousandthsLeft 4 = .ok (.getfield 27, 3) := by decide +kernel
theorem dX0_thousandthsLeft_7 : decode cX0_thousandthsLeft 7 = .ok (.iload_n 1, 1) := by decide +kernel
theorem dX0_thousandthsLeft_8 : decode cX0_thousandthsLeft 8 = .ok (.iaload, 1) := by decide +kernel
theorem dX0_thousandthsLeft_9 : decode cX0_thousandthsLeft 9 = .ok (.i2l, 1) := by decide +kernel
theorem dX0_thousandthsLeft_10 : decode cX0_thousandthsLeft 10 = .ok (.lmul, 1) := by decide +kernel
theorem dX0_thousandthsLeft_11 : decode cX0_thousandthsLeft 11 = .ok (.aload_n 0, 1) := by decide +kernel
theorem dX0_thousandthsLeft_12 : decode cX0_thousandthsLeft 12 = .ok (.iload_n 1, 1) := by decide +kernel
theorem dX0_thousandthsLeft_13 : decode cX0_thousandthsLeft 13 = .ok (.iload_n 2, 1) := by decide +kernel
theorem dX0_thousandthsLeft_14 : decode cX0_thousandthsLeft 14 = .ok (.invokevirtual 74, 3) := by decide +kernel
theorem dX0_thousandthsLeft_17 : decode cX0_thousandthsLeft 17 = .ok (.lsub, 1) := by decide +kernel
theorem dX0_thousandthsLeft_18 : decode cX0_thousandthsLeft 18 = .ok (.lreturn, 1) := by decide +kernel
set_option maxRecDepth 20000 in
theorem ggX0_unitsLeft_X0_tableNumber : GoodIn wsX0_unitsLeft wsX0_tableNumber := goodIn_r _ [13, 14, 35, 36, 37, 38, 39, 40, 41, 42, 43, 44, 45, 46] (by decide +kernel) (by decide +kernel)
set_option maxRecDepth 20000 in
theorem gX0_unitsLeft_X0_tableNumber : GoodIn wsX0_unitsLeft (wsV RX0 137 RX0 yX0_tableNumber wsX0_tableNumber) := goodIn_app (goodIn_of _ (by decide +kernel)) ggX0_unitsLeft_X0_tableNumber
set_option maxRecDepth 20000 in
theorem ggX0_unitsLeft_X0_thousandthsLeft : GoodIn wsX0_unitsLeft wsX0_thousandthsLeft := goodIn_r _ [18, 1, 19, 20, 21, 22, 12, 23, 24, 25, 26, 27, 28, 29, 30, 31, 32, 33, 4, 34, 9, 10, 11, 13, 14, 35, 36, 37, 38, 39, 40, 41, 42, 43, 44, 45, 46] (by decide +kernel) (by decide +kernel)
set_option maxRecDepth 20000 in
theorem gX0_unitsLeft_X0_thousandthsLeft : GoodIn wsX0_unitsLeft (wsV RX0 84 RX0 yX0_thousandthsLeft wsX0_thousandthsLeft) := goodIn_app (goodIn_of _ (by decide +kernel)) ggX0_unitsLeft_X0_thousandthsLeft
theorem dX0_unitsLeft_0 : decode cX0_unitsLeft 0 = .ok (.ldc2_w 140, 3) := by decide +kernel
theorem dX0_unitsLeft_3 : decode cX0_unitsLeft 3 = .ok (.lstore 4, 2) := by decide +kernel
theorem dX0_unitsLeft_5 : decode cX0_unitsLeft 5 = .ok (.iconst 0, 1) := by decide +kernel
theorem dX0_unitsLeft_6 : decode cX0_unitsLeft 6 = .ok (.istore 6, 2) := by decide +kernel
theorem dX0_unitsLeft_8 : decode cX0_unitsLeft 8 = .ok (.iload 6, 2) := by decide +kernel
theorem dX0_unitsLeft_10 : decode cX0_unitsLeft 10 = .ok (.bipush 12, 2) := by decide +kernel
theorem dX0_unitsLeft_12 : decode cX0_unitsLeft 12 = .ok (.if_icmp .ge 56, 3) := by decide +kernel
theorem dX0_unitsLeft_15 : decode cX0_unitsLeft 15 = .ok (.iload_n 3, 1) := by decide +kernel
theorem dX0_unitsLeft_16 : decode cX0_unitsLeft 16 = .ok (.iload 6, 2) := by decide +kernel
theorem dX0_unitsLeft_18 : decode cX0_unitsLeft 18 = .ok (.iadd, 1) := by decide +kernel
theorem dX0_unitsLeft_19 : decode cX0_unitsLeft 19 = .ok (.bipush 36, 2) := by decide +kernel
theorem dX0_unitsLeft_21 : decode cX0_unitsLeft 21 = .ok (.if_icmp .ge 47, 3) := by decide +kernel
theorem dX0_unitsLeft_24 : decode cX0_unitsLeft 24 = .ok (.aload_n 0, 1) := by decide +kernel
theorem dX0_unitsLeft_25 : decode cX0_unitsLeft 25 = .ok (.iload_n 2, 1) := by decide +kernel
theorem dX0_unitsLeft_26 : decode cX0_unitsLeft 26 = .ok (.iload 6, 2) := by decide +kernel
theorem dX0_unitsLeft_28 : decode cX0_unitsLeft 28 = .ok (.invokevirtual 137, 3) := by decide +kernel
theorem dX0_unitsLeft_31 : decode cX0_unitsLeft 31 = .ok (.istore 7, 2) := by decide +kernel
theorem dX0_unitsLeft_33 : decode cX0_unitsLeft 33 = .ok (.iload 7, 2) := by decide +kernel
theorem dX0_unitsLeft_35 : decode cX0_unitsLeft 35 = .ok (.ifCond .le 27, 3) := by decide +kernel
theorem dX0_unitsLeft_38 : decode cX0_unitsLeft 38 = .ok (.lload 4, 2) := by decide +kernel
theorem dX0_unitsLeft_40 : decode cX0_unitsLeft 40 = .ok (.lconst 0, 1) := by decide +kernel
theorem dX0_unitsLeft_41 : decode cX0_unitsLeft 41 = .ok (.aload_n 0, 1) := by decide +kernel
theorem dX0_unitsLeft_42 : decode cX0_unitsLeft 42 = .ok (.iload_n 1, 1) := by decide +kernel
theorem dX0_unitsLeft_43 : decode cX0_unitsLeft 43 = .ok (.iload_n 3, 1) := by decide +kernel
theorem dX0_unitsLeft_44 : decode cX0_unitsLeft 44 = .ok (.iload 6, 2) := by decide +kernel
theorem dX0_unitsLeft_46 : decode cX0_unitsLeft 46 = .ok (.iadd, 1) := by decide +kernel
theorem dX0_unitsLeft_47 : decode cX0_unitsLeft 47 = .ok (.invokevirtual 84, 3) := by decide +kernel
theorem dX0_unitsLeft_50 : decode cX0_unitsLeft 50 = .ok (.invokestatic 142, 3) := by decide +kernel
theorem dX0_unitsLeft_53 : decode cX0_unitsLeft 53 = .ok (.iload 7, 2) := by decide +kernel
theorem dX0_unitsLeft_55 : decode cX0_unitsLeft 55 = .ok (.i2l, 1) := by decide +kernel
theorem dX0_unitsLeft_56 : decode cX0_unitsLeft 56 = .ok (.ldiv, 1) := by decide +kernel
theorem dX0_unitsLeft_57 : decode cX0_unitsLeft 57 = .ok (.invokestatic 91, 3) := by decide +kernel
theorem dX0_unitsLeft_60 : decode cX0_unitsLeft 60 = .ok (.lstore 4, 2) := by decide +kernel
theorem dX0_unitsLeft_62 : decode cX0_unitsLeft 62 = .ok (.iinc 6 1, 3) := by decide +kernel
theorem dX0_unitsLeft_65 : decode cX0_unitsLeft 65 = .ok (.goto (-57), 3) := by decide +kernel
theorem dX0_unitsLeft_68 : decode cX0_unitsLeft 68 = .ok (.lload 4, 2) := by decide +kernel
theorem dX0_unitsLeft_70 : decode cX0_unitsLeft 70 = .ok (.lreturn, 1) := by decide +kernel
set_option maxRecDepth 20000 in
theorem ggX0_loweredInAll_X0_reachOf : GoodIn wsX0_loweredInAll wsX0_reachOf := goodIn_r _ [6, 7, 8, 9, 10, 11, 12, 18, 19, 20, 21, 22, 23, 24, 25, 26, 27, 28, 29] (by decide +kernel) (by decide +kernel)
set_option maxRecDepth 20000 in
theorem gX0_loweredInAll_X0_reachOf : GoodIn wsX0_loweredInAll (wsV RX0 78 RX0 yX0_reachOf wsX0_reachOf) := goodIn_app (goodIn_of _ (by decide +kernel)) ggX0_loweredInAll_X0_reachOf
set_option maxRecDepth 20000 in
theorem ggX0_loweredInAll_X0_tableNumber : GoodIn wsX0_loweredInAll wsX0_tableNumber := goodIn_r _ [16, 17, 18, 19, 20, 21, 22, 23, 24, 25, 26, 27, 28, 29] (by decide +kernel) (by decide +kernel)
set_option maxRecDepth 20000 in
theorem gX0_loweredInAll_X0_tableNumber : GoodIn wsX0_loweredInAll (wsV RX0 137 RX0 yX0_tableNumber wsX0_tableNumber) := goodIn_app (goodIn_of _ (by decide +kernel)) ggX0_loweredInAll_X0_tableNumber
theorem dX0_loweredInAll_0 : decode cX0_loweredInAll 0 = .ok (.aload_n 0, 1) := by decide +kernel
theorem dX0_loweredInAll_1 : decode cX0_loweredInAll 1 = .ok (.iload_n 1, 1) := by decide +kernel
theorem dX0_loweredInAll_2 : decode cX0_loweredInAll 2 = .ok (.iload_n 2, 1) := by decide +kernel
theorem dX0_loweredInAll_3 : decode cX0_loweredInAll 3 = .ok (.invokevirtual 78, 3) := by decide +kernel
theorem dX0_loweredInAll_6 : decode cX0_loweredInAll 6 = .ok (.istore 4, 2) := by decide +kernel
theorem dX0_loweredInAll_8 : decode cX0_loweredInAll 8 = .ok (.lconst 0, 1) := by decide +kernel
theorem dX0_loweredInAll_9 : decode cX0_loweredInAll 9 = .ok (.lstore 5, 2) := by decide +kernel
theorem dX0_loweredInAll_11 : decode cX0_loweredInAll 11 = .ok (.iconst 0, 1) := by decide +kernel
theorem dX0_loweredInAll_12 : decode cX0_loweredInAll 12 = .ok (.istore 7, 2) := by decide +kernel
theorem dX0_loweredInAll_14 : decode cX0_loweredInAll 14 = .ok (.iload 7, 2) := by decide +kernel
theorem dX0_loweredInAll_16 : decode cX0_loweredInAll 16 = .ok (.bipush 12, 2) := by decide +kernel
theorem dX0_loweredInAll_18 : decode cX0_loweredInAll 18 = .ok (.if_icmp .ge 42, 3) := by decide +kernel
theorem dX0_loweredInAll_21 : decode cX0_loweredInAll 21 = .ok (.iload_n 3, 1) := by decide +kernel
theorem dX0_loweredInAll_22 : decode cX0_loweredInAll 22 = .ok (.iload 7, 2) := by decide +kernel
theorem dX0_loweredInAll_24 : decode cX0_loweredInAll 24 = .ok (.iadd, 1) := by decide +kernel
theorem dX0_loweredInAll_25 : decode cX0_loweredInAll 25 = .ok (.bipush 36, 2) := by decide +kernel
theorem dX0_loweredInAll_27 : decode cX0_loweredInAll 27 = .ok (.if_icmp .ge 33, 3) := by decide +kernel
theorem dX0_loweredInAll_30 : decode cX0_loweredInAll 30 = .ok (.lload 5, 2) := by decide +kernel
theorem dX0_loweredInAll_32 : decode cX0_loweredInAll 32 = .ok (.aload_n 0, 1) := by decide +kernel
theorem dX0_loweredInAll_33 : decode cX0_loweredInAll 33 = .ok (.getfield 21, 3) := by decide +kernel
theorem dX0_loweredInAll_36 : decode cX0_loweredInAll 36 = .ok (.iload_n 1, 1) := by decide +kernel
theorem dX0_loweredInAll_37 : decode cX0_loweredInAll 37 = .ok (.aaload, 1) := by decide +kernel
theorem dX0_loweredInAll_38 : decode cX0_loweredInAll 38 = .ok (.iload_n 3, 1) := by decide +kernel
theorem dX0_loweredInAll_39 : decode cX0_loweredInAll 39 = .ok (.iaload, 1) := by decide +kernel
theorem dX0_loweredInAll_40 : decode cX0_loweredInAll 40 = .ok (.i2l, 1) := by decide +kernel
theorem dX0_loweredInAll_41 : decode cX0_loweredInAll 41 = .ok (.aload_n 0, 1) := by decide +kernel
theorem dX0_loweredInAll_42 : decode cX0_loweredInAll 42 = .ok (.iload 4, 2) := by decide +kernel
theorem dX0_loweredInAll_44 : decode cX0_loweredInAll 44 = .ok (.iload 7, 2) := by decide +kernel
theorem dX0_loweredInAll_46 : decode cX0_loweredInAll 46 = .ok (.invokevirtual 137, 3) := by decide +kernel
theorem dX0_loweredInAll_49 : decode cX0_loweredInAll 49 = .ok (.i2l, 1) := by decide +kernel
theorem dX0_loweredInAll_50 : decode cX0_loweredInAll 50 = .ok (.lmul, 1) := by decide +kernel
theorem dX0_loweredInAll_51 : decode cX0_loweredInAll 51 = .ok (.ladd, 1) := by decide +kernel
theorem dX0_loweredInAll_52 : decode cX0_loweredInAll 52 = .ok (.lstore 5, 2) := by decide +kernel
theorem dX0_loweredInAll_54 : decode cX0_loweredInAll 54 = .ok (.iinc 7 1, 3) := by decide +kernel
theorem dX0_loweredInAll_57 : decode cX0_loweredInAll 57 = .ok (.goto (-43), 3) := by decide +kernel
theorem dX0_loweredInAll_60 : decode cX0_loweredInAll 60 = .ok (.lload 5, 2) := by decide +kernel
theorem dX0_loweredInAll_62 : decode cX0_loweredInAll 62 = .ok (.lreturn, 1) := by decide +kernel
set_option maxRecDepth 20000 in
theorem ggX0_takenOfMonthsBefore_X0_isInYear : GoodIn wsX0_takenOfMonthsBefore wsX0_isInYear := goodIn_r _ [6] (by decide +kernel) (by decide +kernel)
set_option maxRecDepth 20000 in
theorem gX0_takenOfMonthsBefore_X0_isInYear : GoodIn wsX0_takenOfMonthsBefore (va_wsS RX0 144 yX0_isInYear wsX0_isInYear) := goodIn_app (goodIn_of _ (by decide +kernel)) ggX0_takenOfMonthsBefore_X0_isInYear
theorem dX0_takenOfMonthsBefore_0 : decode cX0_takenOfMonthsBefore 0 = .ok (.aload_n 0, 1) := by decide +kernel
theorem dX0_takenOfMonthsBefore_1 : decode cX0_takenOfMonthsBefore 1 = .ok (.getfield 9, 3) := by decide +kernel
theorem dX0_takenOfMonthsBefore_4 : decode cX0_takenOfMonthsBefore 4 = .ok (.iload_n 1, 1) := by decide +kernel
theorem dX0_takenOfMonthsBefore_5 : decode cX0_takenOfMonthsBefore 5 = .ok (.iaload, 1) := by decide +kernel
theorem dX0_takenOfMonthsBefore_6 : decode cX0_takenOfMonthsBefore 6 = .ok (.iconst 5, 1) := by decide +kernel
theorem dX0_takenOfMonthsBefore_7 : decode cX0_takenOfMonthsBefore 7 = .ok (.idiv, 1) := by decide +kernel
theorem dX0_takenOfMonthsBefore_8 : decode cX0_takenOfMonthsBefore 8 = .ok (.istore 4, 2) := by decide +kernel
theorem dX0_takenOfMonthsBefore_10 : decode cX0_takenOfMonthsBefore 10 = .ok (.iconst 0, 1) := by decide +kernel
theorem dX0_takenOfMonthsBefore_11 : decode cX0_takenOfMonthsBefore 11 = .ok (.istore 5, 2) := by decide +kernel
theorem dX0_takenOfMonthsBefore_13 : decode cX0_takenOfMonthsBefore 13 = .ok (.iconst 0, 1) := by decide +kernel
theorem dX0_takenOfMonthsBefore_14 : decode cX0_takenOfMonthsBefore 14 = .ok (.istore 6, 2) := by decide +kernel
theorem dX0_takenOfMonthsBefore_16 : decode cX0_takenOfMonthsBefore 16 = .ok (.iload 6, 2) := by decide +kernel
theorem dX0_takenOfMonthsBefore_18 : decode cX0_takenOfMonthsBefore 18 = .ok (.iload_n 2, 1) := by decide +kernel
theorem dX0_takenOfMonthsBefore_19 : decode cX0_takenOfMonthsBefore 19 = .ok (.if_icmp .ge 84, 3) := by decide +kernel
theorem dX0_takenOfMonthsBefore_22 : decode cX0_takenOfMonthsBefore 22 = .ok (.aload_n 0, 1) := by decide +kernel
theorem dX0_takenOfMonthsBefore_23 : decode cX0_takenOfMonthsBefore 23 = .ok (.getfield 21, 3) := by decide +kernel
theorem dX0_takenOfMonthsBefore_26 : decode cX0_takenOfMonthsBefore 26 = .ok (.iload_n 1, 1) := by decide +kernel
theorem dX0_takenOfMonthsBefore_27 : decode cX0_takenOfMonthsBefore 27 = .ok (.aaload, 1) := by decide +kernel
theorem dX0_takenOfMonthsBefore_28 : decode cX0_takenOfMonthsBefore 28 = .ok (.iload 6, 2) := by decide +kernel
theorem dX0_takenOfMonthsBefore_30 : decode cX0_takenOfMonthsBefore 30 = .ok (.iaload, 1) := by decide +kernel
theorem dX0_takenOfMonthsBefore_31 : decode cX0_takenOfMonthsBefore 31 = .ok (.iconst 2, 1) := by decide +kernel
theorem dX0_takenOfMonthsBefore_32 : decode cX0_takenOfMonthsBefore 32 = .ok (.idiv, 1) := by decide +kernel
theorem dX0_takenOfMonthsBefore_33 : decode cX0_takenOfMonthsBefore 33 = .ok (.istore 7, 2) := by decide +kernel
theorem dX0_takenOfMonthsBefore_35 : decode cX0_takenOfMonthsBefore 35 = .ok (.aload_n 0, 1) := by decide +kernel
theorem dX0_takenOfMonthsBefore_36 : decode cX0_takenOfMonthsBefore 36 = .ok (.getfield 21, 3) := by decide +kernel
theorem dX0_takenOfMonthsBefore_39 : decode cX0_takenOfMonthsBefore 39 = .ok (.iload_n 1, 1) := by decide +kernel
theorem dX0_takenOfMonthsBefore_40 : decode cX0_takenOfMonthsBefore 40 = .ok (.aaload, 1) := by decide +kernel
theorem dX0_takenOfMonthsBefore_41 : decode cX0_takenOfMonthsBefore 41 = .ok (.iload 6, 2) := by decide +kernel
theorem dX0_takenOfMonthsBefore_43 : decode cX0_takenOfMonthsBefore 43 = .ok (.iaload, 1) := by decide +kernel
theorem dX0_takenOfMonthsBefore_44 : decode cX0_takenOfMonthsBefore 44 = .ok (.iload 7, 2) := by decide +kernel
theorem dX0_takenOfMonthsBefore_46 : decode cX0_takenOfMonthsBefore 46 = .ok (.isub, 1) := by decide +kernel
theorem dX0_takenOfMonthsBefore_47 : decode cX0_takenOfMonthsBefore 47 = .ok (.istore 8, 2) := by decide +kernel
theorem dX0_takenOfMonthsBefore_49 : decode cX0_takenOfMonthsBefore 49 = .ok (.iload 5, 2) := by decide +kernel
theorem dX0_takenOfMonthsBefore_51 : decode cX0_takenOfMonthsBefore 51 = .ok (.iload 6, 2) := by decide +kernel
theorem dX0_takenOfMonthsBefore_53 : decode cX0_takenOfMonthsBefore 53 = .ok (.iload 4, 2) := by decide +kernel
theorem dX0_takenOfMonthsBefore_55 : decode cX0_takenOfMonthsBefore 55 = .ok (.iadd, 1) := by decide +kernel
theorem dX0_takenOfMonthsBefore_56 : decode cX0_takenOfMonthsBefore 56 = .ok (.iload_n 3, 1) := by decide +kernel
theorem dX0_takenOfMonthsBefore_57 : decode cX0_takenOfMonthsBefore 57 = .ok (.invokestatic 144, 3) := by decide +kernel
theorem dX0_takenOfMonthsBefore_60 : decode cX0_takenOfMonthsBefore 60 = .ok (.ifCond .eq 8, 3) := by decide +kernel
theorem dX0_takenOfMonthsBefore_63 : decode cX0_takenOfMonthsBefore 63 = .ok (.iload 8, 2) := by decide +kernel
theorem dX0_takenOfMonthsBefore_65 : decode cX0_takenOfMonthsBefore 65 = .ok (.goto 4, 3) := by decide +kernel
theorem dX0_takenOfMonthsBefore_68 : decode cX0_takenOfMonthsBefore 68 = .ok (.iconst 0, 1) := by decide +kernel
theorem dX0_takenOfMonthsBefore_69 : decode cX0_takenOfMonthsBefore 69 = .ok (.iadd, 1) := by decide +kernel
theorem dX0_takenOfMonthsBefore_70 : decode cX0_takenOfMonthsBefore 70 = .ok (.istore 5, 2) := by decide +kernel
theorem dX0_takenOfMonthsBefore_72 : decode cX0_takenOfMonthsBefore 72 = .ok (.iload 5, 2) := by decide +kernel
theorem dX0_takenOfMonthsBefore_74 : decode cX0_takenOfMonthsBefore 74 = .ok (.iload 6, 2) := by decide +kernel
theorem dX0_takenOfMonthsBefore_76 : decode cX0_takenOfMonthsBefore 76 = .ok (.iload 4, 2) := by decide +kernel
theorem dX0_takenOfMonthsBefore_78 : decode cX0_takenOfMonthsBefore 78 = .ok (.iadd, 1) := by decide +kernel
theorem dX0_takenOfMonthsBefore_79 : decode cX0_takenOfMonthsBefore 79 = .ok (.iconst 1, 1) := by decide +kernel
theorem dX0_takenOfMonthsBefore_80 : decode cX0_takenOfMonthsBefore 80 = .ok (.iadd, 1) := by decide +kernel
theorem dX0_takenOfMonthsBefore_81 : decode cX0_takenOfMonthsBefore 81 = .ok (.iload_n 3, 1) := by decide +kernel
theorem dX0_takenOfMonthsBefore_82 : decode cX0_takenOfMonthsBefore 82 = .ok (.invokestatic 144, 3) := by decide +kernel
theorem dX0_takenOfMonthsBefore_85 : decode cX0_takenOfMonthsBefore 85 = .ok (.ifCond .eq 8, 3) := by decide +kernel
theorem dX0_takenOfMonthsBefore_88 : decode cX0_takenOfMonthsBefore 88 = .ok (.iload 7, 2) := by decide +kernel
theorem dX0_takenOfMonthsBefore_90 : decode cX0_takenOfMonthsBefore 90 = .ok (.goto 4, 3) := by decide +kernel
theorem dX0_takenOfMonthsBefore_93 : decode cX0_takenOfMonthsBefore 93 = .ok (.iconst 0, 1) := by decide +kernel
theorem dX0_takenOfMonthsBefore_94 : decode cX0_takenOfMonthsBefore 94 = .ok (.iadd, 1) := by decide +kernel
theorem dX0_takenOfMonthsBefore_95 : decode cX0_takenOfMonthsBefore 95 = .ok (.istore 5, 2) := by decide +kernel
theorem dX0_takenOfMonthsBefore_97 : decode cX0_takenOfMonthsBefore 97 = .ok (.iinc 6 1, 3) := by decide +kernel
theorem dX0_takenOfMonthsBefore_100 : decode cX0_takenOfMonthsBefore 100 = .ok (.goto (-84), 3) := by decide +kernel
theorem dX0_takenOfMonthsBefore_103 : decode cX0_takenOfMonthsBefore 103 = .ok (.iload 5, 2) := by decide +kernel
theorem dX0_takenOfMonthsBefore_105 : decode cX0_takenOfMonthsBefore 105 = .ok (.ireturn, 1) := by decide +kernel
theorem dX0_isInYear_0 : decode cX0_isInYear 0 = .ok (.iload_n 0, 1) := by decide +kernel
theorem dX0_isInYear_1 : decode cX0_isInYear 1 = .ok (.bipush 12, 2) := by decide +kernel
theorem dX0_isInYear_3 : decode cX0_isInYear 3 = .ok (.idiv, 1) := by decide +kernel
theorem dX0_isInYear_4 : decode cX0_isInYear 4 = .ok (.iload_n 1, 1) := by decide +kernel
theorem dX0_isInYear_5 : decode cX0_isInYear 5 = .ok (.if_icmp .ne 7, 3) := by decide +kernel
theorem dX0_isInYear_8 : decode cX0_isInYear 8 = .ok (.iconst 1, 1) := by decide +kernel
theorem dX0_isInYear_9 : decode cX0_isInYear 9 = .ok (.goto 4, 3) := by decide +kernel
theorem dX0_isInYear_12 : decode cX0_isInYear 12 = .ok (.iconst 0, 1) := by decide +kernel
theorem dX0_isInYear_13 : decode cX0_isInYear 13 = .ok (.ireturn, 1) := by decide +kernel
set_option maxRecDepth 20000 in
theorem ggX0_burdenOfUnits_X0_reachOf : GoodIn wsX0_burdenOfUnits wsX0_reachOf := goodIn_r _ [6, 7, 8, 9, 10, 11, 12, 13, 14, 15, 16, 17, 18, 19, 20, 21, 22, 23, 24] (by decide +kernel) (by decide +kernel)
set_option maxRecDepth 20000 in
theorem gX0_burdenOfUnits_X0_reachOf : GoodIn wsX0_burdenOfUnits (wsV RX0 78 RX0 yX0_reachOf wsX0_reachOf) := goodIn_app (goodIn_of _ (by decide +kernel)) ggX0_burdenOfUnits_X0_reachOf
theorem dX0_burdenOfUnits_0 : decode cX0_burdenOfUnits 0 = .ok (.aload_n 0, 1) := by decide +kernel
theorem dX0_burdenOfUnits_1 : decode cX0_burdenOfUnits 1 = .ok (.iload_n 1, 1) := by decide +kernel
theorem dX0_burdenOfUnits_2 : decode cX0_burdenOfUnits 2 = .ok (.iload_n 2, 1) := by decide +kernel
theorem dX0_burdenOfUnits_3 : decode cX0_burdenOfUnits 3 = .ok (.invokevirtual 78, 3) := by decide +kernel
theorem dX0_burdenOfUnits_6 : decode cX0_burdenOfUnits 6 = .ok (.istore 4, 2) := by decide +kernel
theorem dX0_burdenOfUnits_8 : decode cX0_burdenOfUnits 8 = .ok (.iload 4, 2) := by decide +kernel
theorem dX0_burdenOfUnits_10 : decode cX0_burdenOfUnits 10 = .ok (.iconst 5, 1) := by decide +kernel
theorem dX0_burdenOfUnits_11 : decode cX0_burdenOfUnits 11 = .ok (.if_icmp .ge 17, 3) := by decide +kernel
theorem dX0_burdenOfUnits_14 : decode cX0_burdenOfUnits 14 = .ok (.iload_n 3, 1) := by decide +kernel
theorem dX0_burdenOfUnits_15 : decode cX0_burdenOfUnits 15 = .ok (.i2l, 1) := by decide +kernel
theorem dX0_burdenOfUnits_16 : decode cX0_burdenOfUnits 16 = .ok (.aload_n 0, 1) := by decide +kernel
theorem dX0_burdenOfUnits_17 : decode cX0_burdenOfUnits 17 = .ok (.getfield 33, 3) := by decide +kernel
theorem dX0_burdenOfUnits_20 : decode cX0_burdenOfUnits 20 = .ok (.iload 4, 2) := by decide +kernel
theorem dX0_burdenOfUnits_22 : decode cX0_burdenOfUnits 22 = .ok (.iaload, 1) := by decide +kernel
theorem dX0_burdenOfUnits_23 : decode cX0_burdenOfUnits 23 = .ok (.i2l, 1) := by decide +kernel
theorem dX0_burdenOfUnits_24 : decode cX0_burdenOfUnits 24 = .ok (.lmul, 1) := by decide +kernel
theorem dX0_burdenOfUnits_25 : decode cX0_burdenOfUnits 25 = .ok (.goto 4, 3) := by decide +kernel
theorem dX0_burdenOfUnits_28 : decode cX0_burdenOfUnits 28 = .ok (.lconst 0, 1) := by decide +kernel
theorem dX0_burdenOfUnits_29 : decode cX0_burdenOfUnits 29 = .ok (.lreturn, 1) := by decide +kernel
theorem dX0_unitsGot_0 : decode cX0_unitsGot 0 = .ok (.iload_n 3, 1) := by decide +kernel
theorem dX0_unitsGot_1 : decode cX0_unitsGot 1 = .ok (.aload_n 0, 1) := by decide +kernel
theorem dX0_unitsGot_2 : decode cX0_unitsGot 2 = .ok (.getfield 36, 3) := by decide +kernel
theorem dX0_unitsGot_5 : decode cX0_unitsGot 5 = .ok (.aload_n 0, 1) := by decide +kernel
theorem dX0_unitsGot_6 : decode cX0_unitsGot 6 = .ok (.getfield 13, 3) := by decide +kernel
theorem dX0_unitsGot_9 : decode cX0_unitsGot 9 = .ok (.iload_n 1, 1) := by decide +kernel
theorem dX0_unitsGot_10 : decode cX0_unitsGot 10 = .ok (.iaload, 1) := by decide +kernel
theorem dX0_unitsGot_11 : decode cX0_unitsGot 11 = .ok (.aaload, 1) := by decide +kernel
theorem dX0_unitsGot_12 : decode cX0_unitsGot 12 = .ok (.aload_n 0, 1) := by decide +kernel
theorem dX0_unitsGot_13 : decode cX0_unitsGot 13 = .ok (.getfield 13, 3) := by decide +kernel
theorem dX0_unitsGot_16 : decode cX0_unitsGot 16 = .ok (.iload_n 2, 1) := by decide +kernel
theorem dX0_unitsGot_17 : decode cX0_unitsGot 17 = .ok (.iaload, 1) := by decide +kernel
theorem dX0_unitsGot_18 : decode cX0_unitsGot 18 = .ok (.iaload, 1) := by decide +kernel
theorem dX0_unitsGot_19 : decode cX0_unitsGot 19 = .ok (.imul, 1) := by decide +kernel
theorem dX0_unitsGot_20 : decode cX0_unitsGot 20 = .ok (.bipush 100, 2) := by decide +kernel
theorem dX0_unitsGot_22 : decode cX0_unitsGot 22 = .ok (.idiv, 1) := by decide +kernel
theorem dX0_unitsGot_23 : decode cX0_unitsGot 23 = .ok (.ireturn, 1) := by decide +kernel
set_option maxRecDepth 20000 in
theorem ggX0_canTrade_X0_unitsGot : GoodIn wsX0_canTrade wsX0_unitsGot := goodIn_r _ [7, 8, 9, 25, 26, 27, 28, 29, 30, 31, 32, 33, 34, 35, 36] (by decide +kernel) (by decide +kernel)
set_option maxRecDepth 20000 in
theorem gX0_canTrade_X0_unitsGot : GoodIn wsX0_canTrade (wsV RX0 111 RX0 yX0_unitsGot wsX0_unitsGot) := goodIn_app (goodIn_of _ (by decide +kernel)) ggX0_canTrade_X0_unitsGot
set_option maxRecDepth 20000 in
theorem ggX0_canTrade_X0_burdenOfUnits : GoodIn wsX0_canTrade wsX0_burdenOfUnits := goodIn_r _ [13, 14, 15, 16, 17, 6, 18, 19, 20, 21, 22, 23, 24, 25, 26, 27, 28, 29, 30, 31, 32, 33, 34, 35, 36] (by decide +kernel) (by decide +kernel)
set_option maxRecDepth 20000 in
theorem gX0_canTrade_X0_burdenOfUnits : GoodIn wsX0_canTrade (wsV RX0 101 RX0 yX0_burdenOfUnits wsX0_burdenOfUnits) := goodIn_app (goodIn_of _ (by decide +kernel)) ggX0_canTrade_X0_burdenOfUnits
theorem dX0_canTrade_0 : decode cX0_canTrade 0 = .ok (.aload_n 0, 1) := by decide +kernel
theorem dX0_canTrade_1 : decode cX0_canTrade 1 = .ok (.iload_n 1, 1) := by decide +kernel
theorem dX0_canTrade_2 : decode cX0_canTrade 2 = .ok (.iload_n 2, 1) := by decide +kernel
theorem dX0_canTrade_3 : decode cX0_canTrade 3 = .ok (.iload_n 3, 1) := by decide +kernel
theorem dX0_canTrade_4 : decode cX0_canTrade 4 = .ok (.invokevirtual 111, 3) := by decide +kernel
theorem dX0_canTrade_7 : decode cX0_canTrade 7 = .ok (.istore 4, 2) := by decide +kernel
theorem dX0_canTrade_9 : decode cX0_canTrade 9 = .ok (.aload_n 0, 1) := by decide +kernel
theorem dX0_canTrade_10 : decode cX0_canTrade 10 = .ok (.getfield 16, 3) := by decide +kernel
theorem dX0_canTrade_13 : decode cX0_canTrade 13 = .ok (.iload_n 1, 1) := by decide +kernel
theorem dX0_canTrade_14 : decode cX0_canTrade 14 = .ok (.iaload, 1) := by decide +kernel
theorem dX0_canTrade_15 : decode cX0_canTrade 15 = .ok (.iload_n 3, 1) := by decide +kernel
theorem dX0_canTrade_16 : decode cX0_canTrade 16 = .ok (.if_icmp .lt 18, 3) := by decide +kernel
theorem dX0_canTrade_19 : decode cX0_canTrade 19 = .ok (.aload_n 0, 1) := by decide +kernel
theorem dX0_canTrade_20 : decode cX0_canTrade 20 = .ok (.getfield 16, 3) := by decide +kernel
theorem dX0_canTrade_23 : decode cX0_canTrade 23 = .ok (.iload_n 2, 1) := by decide +kernel
theorem dX0_canTrade_24 : decode cX0_canTrade 24 = .ok (.iaload, 1) := by decide +kernel
theorem dX0_canTrade_25 : decode cX0_canTrade 25 = .ok (.iload 4, 2) := by decide +kernel
theorem dX0_canTrade_27 : decode cX0_canTrade 27 = .ok (.iadd, 1) := by decide +kernel
theorem dX0_canTrade_28 : decode cX0_canTrade 28 = .ok (.sipush 20000, 3) := by decide +kernel
theorem dX0_canTrade_31 : decode cX0_canTrade 31 = .ok (.if_icmp .le 5, 3) := by decide +kernel
theorem dX0_canTrade_34 : decode cX0_canTrade 34 = .ok (.iconst 0, 1) := by decide +kernel
theorem dX0_canTrade_35 : decode cX0_canTrade 35 = .ok (.ireturn, 1) := by decide +kernel
theorem dX0_canTrade_36 : decode cX0_canTrade 36 = .ok (.iconst 0, 1) := by decide +kernel
theorem dX0_canTrade_37 : decode cX0_canTrade 37 = .ok (.istore 5, 2) := by decide +kernel
theorem dX0_canTrade_39 : decode cX0_canTrade 39 = .ok (.iload 5, 2) := by decide +kernel
theorem dX0_canTrade_41 : decode cX0_canTrade 41 = .ok (.aload_n 0, 1) := by decide +kernel
theorem dX0_canTrade_42 : decode cX0_canTrade 42 = .ok (.getfield 55, 3) := by decide +kernel
theorem dX0_canTrade_45 : decode cX0_canTrade 45 = .ok (.if_icmp .ge 32, 3) := by decide +kernel
theorem dX0_canTrade_48 : decode cX0_canTrade 48 = .ok (.aload_n 0, 1) := by decide +kernel
theorem dX0_canTrade_49 : decode cX0_canTrade 49 = .ok (.iload_n 2, 1) := by decide +kernel
theorem dX0_canTrade_50 : decode cX0_canTrade 50 = .ok (.iload 5, 2) := by decide +kernel
theorem dX0_canTrade_52 : decode cX0_canTrade 52 = .ok (.iload 4, 2) := by decide +kernel
theorem dX0_canTrade_54 : decode cX0_canTrade 54 = .ok (.invokevirtual 101, 3) := by decide +kernel
theorem dX0_canTrade_57 : decode cX0_canTrade 57 = .ok (.aload_n 0, 1) := by decide +kernel
theorem dX0_canTrade_58 : decode cX0_canTrade 58 = .ok (.iload_n 1, 1) := by decide +kernel
theorem dX0_canTrade_59 : decode cX0_canTrade 59 = .ok (.iload 5, 2) := by decide +kernel
theorem dX0_canTrade_61 : decode cX0_canTrade 61 = .ok (.iload_n 3, 1) := by decide +kernel
theorem dX0_canTrade_62 : decode cX0_canTrade 62 = .ok (.invokevirtual 101, 3) := by decide +kernel
theorem dX0_canTrade_65 : decode cX0_canTrade 65 = .ok (.lcmp, 1) := by decide +kernel
theorem dX0_canTrade_66 : decode cX0_canTrade 66 = .ok (.ifCond .le 5, 3) := by decide +kernel
theorem dX0_canTrade_69 : decode cX0_canTrade 69 = .ok (.iconst 0, 1) := by decide +kernel
theorem dX0_canTrade_70 : decode cX0_canTrade 70 = .ok (.ireturn, 1) := by decide +kernel
theorem dX0_canTrade_71 : decode cX0_canTrade 71 = .ok (.iinc 5 1, 3) := by decide +kernel
theorem dX0_canTrade_74 : decode cX0_canTrade 74 = .ok (.goto (-35), 3) := by decide +kernel
theorem dX0_canTrade_77 : decode cX0_canTrade 77 = .ok (.iconst 1, 1) := by decide +kernel
theorem dX0_canTrade_78 : decode cX0_canTrade 78 = .ok (.ireturn, 1) := by decide +kernel
theorem dJ9_abs_0f7a4_0 : decode cJ9_abs_0f7a4 0 = .ok (.iload_n 0, 1) := by decide +kernel
theorem dJ9_abs_0f7a4_1 : decode cJ9_abs_0f7a4 1 = .ok (.ifCond .ge 8, 3) := by decide +kernel
theorem dJ9_abs_0f7a4_4 : decode cJ9_abs_0f7a4 4 = .ok (.iload_n 0, 1) := by decide +kernel
theorem dJ9_abs_0f7a4_5 : decode cJ9_abs_0f7a4 5 = .ok (.ineg, 1) := by decide +kernel
theorem dJ9_abs_0f7a4_6 : decode cJ9_abs_0f7a4 6 = .ok (.goto 4, 3) := by decide +kernel
theorem dJ9_abs_0f7a4_9 : decode cJ9_abs_0f7a4 9 = .ok (.iload_n 0, 1) := by decide +kernel
theorem dJ9_abs_0f7a4_10 : decode cJ9_abs_0f7a4 10 = .ok (.ireturn, 1) := by decide +kernel
theorem dJ9_max_7cf53_0 : decode cJ9_max_7cf53 0 = .ok (.iload_n 0, 1) := by decide +kernel
theorem dJ9_max_7cf53_1 : decode cJ9_max_7cf53 1 = .ok (.iload_n 1, 1) := by decide +kernel
theorem dJ9_max_7cf53_2 : decode cJ9_max_7cf53 2 = .ok (.if_icmp .lt 7, 3) := by decide +kernel
theorem dJ9_max_7cf53_5 : decode cJ9_max_7cf53 5 = .ok (.iload_n 0, 1) := by decide +kernel
theorem dJ9_max_7cf53_6 : decode cJ9_max_7cf53 6 = .ok (.goto 4, 3) := by decide +kernel
theorem dJ9_max_7cf53_9 : decode cJ9_max_7cf53 9 = .ok (.iload_n 1, 1) := by decide +kernel
theorem dJ9_max_7cf53_10 : decode cJ9_max_7cf53 10 = .ok (.ireturn, 1) := by decide +kernel
theorem dJ9_max_f86c9_0 : decode cJ9_max_f86c9 0 = .ok (.lload_n 0, 1) := by decide +kernel
theorem dJ9_max_f86c9_1 : decode cJ9_max_f86c9 1 = .ok (.lload_n 2, 1) := by decide +kernel
theorem dJ9_max_f86c9_2 : decode cJ9_max_f86c9 2 = .ok (.lcmp, 1) := by decide +kernel
theorem dJ9_max_f86c9_3 : decode cJ9_max_f86c9 3 = .ok (.ifCond .lt 7, 3) := by decide +kernel
theorem dJ9_max_f86c9_6 : decode cJ9_max_f86c9 6 = .ok (.lload_n 0, 1) := by decide +kernel
theorem dJ9_max_f86c9_7 : decode cJ9_max_f86c9 7 = .ok (.goto 4, 3) := by decide +kernel
theorem dJ9_max_f86c9_10 : decode cJ9_max_f86c9 10 = .ok (.lload_n 2, 1) := by decide +kernel
theorem dJ9_max_f86c9_11 : decode cJ9_max_f86c9 11 = .ok (.lreturn, 1) := by decide +kernel
theorem dJ9_min_7cf53_0 : decode cJ9_min_7cf53 0 = .ok (.iload_n 0, 1) := by decide +kernel
theorem dJ9_min_7cf53_1 : decode cJ9_min_7cf53 1 = .ok (.iload_n 1, 1) := by decide +kernel
theorem dJ9_min_7cf53_2 : decode cJ9_min_7cf53 2 = .ok (.if_icmp .gt 7, 3) := by decide +kernel
theorem dJ9_min_7cf53_5 : decode cJ9_min_7cf53 5 = .ok (.iload_n 0, 1) := by decide +kernel
theorem dJ9_min_7cf53_6 : decode cJ9_min_7cf53 6 = .ok (.goto 4, 3) := by decide +kernel
theorem dJ9_min_7cf53_9 : decode cJ9_min_7cf53 9 = .ok (.iload_n 1, 1) := by decide +kernel
theorem dJ9_min_7cf53_10 : decode cJ9_min_7cf53 10 = .ok (.ireturn, 1) := by decide +kernel
theorem dJ9_min_f86c9_0 : decode cJ9_min_f86c9 0 = .ok (.lload_n 0, 1) := by decide +kernel
theorem dJ9_min_f86c9_1 : decode cJ9_min_f86c9 1 = .ok (.lload_n 2, 1) := by decide +kernel
theorem dJ9_min_f86c9_2 : decode cJ9_min_f86c9 2 = .ok (.lcmp, 1) := by decide +kernel
theorem dJ9_min_f86c9_3 : decode cJ9_min_f86c9 3 = .ok (.ifCond .gt 7, 3) := by decide +kernel
theorem dJ9_min_f86c9_6 : decode cJ9_min_f86c9 6 = .ok (.lload_n 0, 1) := by decide +kernel
theorem dJ9_min_f86c9_7 : decode cJ9_min_f86c9 7 = .ok (.goto 4, 3) := by decide +kernel
theorem dJ9_min_f86c9_10 : decode cJ9_min_f86c9 10 = .ok (.lload_n 2, 1) := by decide +kernel
theorem dJ9_min_f86c9_11 : decode cJ9_min_f86c9 11 = .ok (.lreturn, 1) := by decide +kernel
