theorem dX0_init_0 : decode cX0_init 0 = .ok (.aload_n 0, 1) := by decide +kernel
theorem dX0_init_1 : decode cX0_init 1 = .ok (.invokespecial 1, 3) := by decide +kernel
theorem dX0_init_4 : decode cX0_init 4 = .ok (.aload_n 0, 1) := by decide +kernel
theorem dX0_init_5 : decode cX0_init 5 = .ok (.bipush 8, 2) := by decide +kernel
theorem dX0_init_7 : decode cX0_init 7 = .ok (.newarray .int, 2) := by decide +kernel
theorem dX0_init_9 : decode cX0_init 9 = .ok (.putfield 9, 3) := by decide +kernel
theorem dX0_init_12 : decode cX0_init 12 = .ok (.aload_n 0, 1) := by decide +kernel
theorem dX0_init_13 : decode cX0_init 13 = .ok (.bipush 8, 2) := by decide +kernel
theorem dX0_init_15 : decode cX0_init 15 = .ok (.newarray .int, 2) := by decide +kernel
theorem dX0_init_17 : decode cX0_init 17 = .ok (.putfield 13, 3) := by decide +kernel
theorem dX0_init_20 : decode cX0_init 20 = .ok (.aload_n 0, 1) := by decide +kernel
theorem dX0_init_21 : decode cX0_init 21 = .ok (.bipush 8, 2) := by decide +kernel
theorem dX0_init_23 : decode cX0_init 23 = .ok (.newarray .int, 2) := by decide +kernel
theorem dX0_init_25 : decode cX0_init 25 = .ok (.putfield 16, 3) := by decide +kernel
theorem dX0_init_28 : decode cX0_init 28 = .ok (.aload_n 0, 1) := by decide +kernel
theorem dX0_init_29 : decode cX0_init 29 = .ok (.bipush 8, 2) := by decide +kernel
theorem dX0_init_31 : decode cX0_init 31 = .ok (.bipush 36, 2) := by decide +kernel
theorem dX0_init_33 : decode cX0_init 33 = .ok (.multianewarray 19 2, 4) := by decide +kernel
theorem dX0_init_37 : decode cX0_init 37 = .ok (.putfield 21, 3) := by decide +kernel
theorem dX0_init_40 : decode cX0_init 40 = .ok (.aload_n 0, 1) := by decide +kernel
theorem dX0_init_41 : decode cX0_init 41 = .ok (.iconst 4, 1) := by decide +kernel
theorem dX0_init_42 : decode cX0_init 42 = .ok (.newarray .int, 2) := by decide +kernel
theorem dX0_init_44 : decode cX0_init 44 = .ok (.putfield 24, 3) := by decide +kernel
theorem dX0_init_47 : decode cX0_init 47 = .ok (.aload_n 0, 1) := by decide +kernel
theorem dX0_init_48 : decode cX0_init 48 = .ok (.iconst 4, 1) := by decide +kernel
theorem dX0_init_49 : decode cX0_init 49 = .ok (.newarray .int, 2) := by decide +kernel
theorem dX0_init_51 : decode cX0_init 51 = .ok (.putfield 27, 3) := by decide +kernel
theorem dX0_init_54 : decode cX0_init 54 = .ok (.aload_n 0, 1) := by decide +kernel
theorem dX0_init_55 : decode cX0_init 55 = .ok (.iconst 5, 1) := by decide +kernel
theorem dX0_init_56 : decode cX0_init 56 = .ok (.bipush 12, 2) := by decide +kernel
theorem dX0_init_58 : decode cX0_init 58 = .ok (.multianewarray 19 2, 4) := by decide +kernel
theorem dX0_init_62 : decode cX0_init 62 = .ok (.putfield 30, 3) := by decide +kernel
theorem dX0_init_65 : decode cX0_init 65 = .ok (.aload_n 0, 1) := by decide +kernel
theorem dX0_init_66 : decode cX0_init 66 = .ok (.iconst 5, 1) := by decide +kernel
theorem dX0_init_67 : decode cX0_init 67 = .ok (.newarray .int, 2) := by decide +kernel
theorem dX0_init_69 : decode cX0_init 69 = .ok (.putfield 33, 3) := by decide +kernel
theorem dX0_init_72 : decode cX0_init 72 = .ok (.aload_n 0, 1) := by decide +kernel
theorem dX0_init_73 : decode cX0_init 73 = .ok (.iconst 3, 1) := by decide +kernel
theorem dX0_init_74 : decode cX0_init 74 = .ok (.iconst 3, 1) := by decide +kernel
theorem dX0_init_75 : decode cX0_init 75 = .ok (.multianewarray 19 2, 4) := by decide +kernel
theorem dX0_init_79 : decode cX0_init 79 = .ok (.putfield 36, 3) := by decide +kernel
theorem dX0_init_82 : decode cX0_init 82 = .ok (.aload_n 0, 1) := by decide +kernel
theorem dX0_init_83 : decode cX0_init 83 = .ok (.bipush 36, 2) := by decide +kernel
theorem dX0_init_85 : decode cX0_init 85 = .ok (.newarray .long, 2) := by decide +kernel
theorem dX0_init_87 : decode cX0_init 87 = .ok (.putfield 39, 3) := by decide +kernel
theorem dX0_init_90 : decode cX0_init 90 = .ok (.iconst 0, 1) := by decide +kernel
theorem dX0_init_91 : decode cX0_init 91 = .ok (.istore_n 1, 1) := by decide +kernel
theorem dX0_init_92 : decode cX0_init 92 = .ok (.iload_n 1, 1) := by decide +kernel
theorem dX0_init_93 : decode cX0_init 93 = .ok (.iconst 3, 1) := by decide +kernel
theorem dX0_init_94 : decode cX0_init 94 = .ok (.if_icmp .ge 32, 3) := by decide +kernel
theorem dX0_init_97 : decode cX0_init 97 = .ok (.iconst 0, 1) := by decide +kernel
theorem dX0_init_98 : decode cX0_init 98 = .ok (.istore_n 2, 1) := by decide +kernel
theorem dX0_init_99 : decode cX0_init 99 = .ok (.iload_n 2, 1) := by decide +kernel
theorem dX0_init_100 : decode cX0_init 100 = .ok (.iconst 3, 1) := by decide +kernel
theorem dX0_init_101 : decode cX0_init 101 = .ok (.if_icmp .ge 19, 3) := by decide +kernel
theorem dX0_init_104 : decode cX0_init 104 = .ok (.aload_n 0, 1) := by decide +kernel
theorem dX0_init_105 : decode cX0_init 105 = .ok (.getfield 36, 3) := by decide +kernel
theorem dX0_init_108 : decode cX0_init 108 = .ok (.iload_n 1, 1) := by decide +kernel
theorem dX0_init_109 : decode cX0_init 109 = .ok (.aaload, 1) := by decide +kernel
theorem dX0_init_110 : decode cX0_init 110 = .ok (.iload_n 2, 1) := by decide +kernel
theorem dX0_init_111 : decode cX0_init 111 = .ok (.bipush 100, 2) := by decide +kernel
theorem dX0_init_113 : decode cX0_init 113 = .ok (.iastore, 1) := by decide +kernel
theorem dX0_init_114 : decode cX0_init 114 = .ok (.iinc 2 1, 3) := by decide +kernel
theorem dX0_init_117 : decode cX0_init 117 = .ok (.goto (-18), 3) := by decide +kernel
theorem dX0_init_120 : decode cX0_init 120 = .ok (.iinc 1 1, 3) := by decide +kernel
theorem dX0_init_123 : decode cX0_init 123 = .ok (.goto (-31), 3) := by decide +kernel
theorem dX0_init_126 : decode cX0_init 126 = .ok (.return_, 1) := by decide +kernel
set_option maxRecDepth 20000 in
theorem ggX0_well_X0_needRange : GoodIn wsX0_well wsX0_needRange := goodIn_ca (goodIn_r _ [8, 9, 10] (by decide +kernel) (by decide +kernel)) (goodIn_sub (fun _ h => List.mem_cons_of_mem _ (List.mem_append_left _ (List.mem_append_right _ h))) (by decide +kernel))
set_option maxRecDepth 20000 in
theorem gX0_well_X0_needRange : GoodIn wsX0_well (va_wsS RX0 43 yX0_needRange wsX0_needRange) := goodIn_app (goodIn_of _ (by decide +kernel)) ggX0_well_X0_needRange
set_option maxRecDepth 20000 in
theorem ggX0_well_X0_needAllowed : GoodIn wsX0_well wsX0_needAllowed := goodIn_ca (goodIn_r _ [13, 14, 15] (by decide +kernel) (by decide +kernel)) (goodIn_sub (fun _ h => List.mem_cons_of_mem _ (List.mem_append_right _ h)) (by decide +kernel))
set_option maxRecDepth 20000 in
theorem gX0_well_X0_needAllowed : GoodIn wsX0_well (va_wsS RX0 51 yX0_needAllowed wsX0_needAllowed) := goodIn_app (goodIn_of _ (by decide +kernel)) ggX0_well_X0_needAllowed
theorem dX0_well_0 : decode cX0_well 0 = .ok (.iload_n 1, 1) := by decide +kernel
theorem dX0_well_1 : decode cX0_well 1 = .ok (.iconst 0, 1) := by decide +kernel
theorem dX0_well_2 : decode cX0_well 2 = .ok (.bipush 99, 2) := by decide +kernel
theorem dX0_well_4 : decode cX0_well 4 = .ok (.invokestatic 43, 3) := by decide +kernel
theorem dX0_well_7 : decode cX0_well 7 = .ok (.iload_n 2, 1) := by decide +kernel
theorem dX0_well_8 : decode cX0_well 8 = .ok (.iconst 0, 1) := by decide +kernel
theorem dX0_well_9 : decode cX0_well 9 = .ok (.iconst 2, 1) := by decide +kernel
theorem dX0_well_10 : decode cX0_well 10 = .ok (.invokestatic 43, 3) := by decide +kernel
theorem dX0_well_13 : decode cX0_well 13 = .ok (.iload_n 3, 1) := by decide +kernel
theorem dX0_well_14 : decode cX0_well 14 = .ok (.iconst 0, 1) := by decide +kernel
theorem dX0_well_15 : decode cX0_well 15 = .ok (.sipush 5000, 3) := by decide +kernel
theorem dX0_well_18 : decode cX0_well 18 = .ok (.invokestatic 43, 3) := by decide +kernel
theorem dX0_well_21 : decode cX0_well 21 = .ok (.aload_n 0, 1) := by decide +kernel
theorem dX0_well_22 : decode cX0_well 22 = .ok (.getfield 47, 3) := by decide +kernel
theorem dX0_well_25 : decode cX0_well 25 = .ok (.bipush 8, 2) := by decide +kernel
theorem dX0_well_27 : decode cX0_well 27 = .ok (.if_icmp .ge 7, 3) := by decide +kernel
theorem dX0_well_30 : decode cX0_well 30 = .ok (.iconst 1, 1) := by decide +kernel
theorem dX0_well_31 : decode cX0_well 31 = .ok (.goto 4, 3) := by decide +kernel
theorem dX0_well_34 : decode cX0_well 34 = .ok (.iconst 0, 1) := by decide +kernel
theorem dX0_well_35 : decode cX0_well 35 = .ok (.invokestatic 51, 3) := by decide +kernel
theorem dX0_well_38 : decode cX0_well 38 = .ok (.aload_n 0, 1) := by decide +kernel
theorem dX0_well_39 : decode cX0_well 39 = .ok (.getfield 47, 3) := by decide +kernel
theorem dX0_well_42 : decode cX0_well 42 = .ok (.istore 4, 2) := by decide +kernel
theorem dX0_well_44 : decode cX0_well 44 = .ok (.aload_n 0, 1) := by decide +kernel
theorem dX0_well_45 : decode cX0_well 45 = .ok (.getfield 9, 3) := by decide +kernel
theorem dX0_well_48 : decode cX0_well 48 = .ok (.iload 4, 2) := by decide +kernel
theorem dX0_well_50 : decode cX0_well 50 = .ok (.iload_n 1, 1) := by decide +kernel
theorem dX0_well_51 : decode cX0_well 51 = .ok (.iastore, 1) := by decide +kernel
theorem dX0_well_52 : decode cX0_well 52 = .ok (.aload_n 0, 1) := by decide +kernel
theorem dX0_well_53 : decode cX0_well 53 = .ok (.getfield 13, 3) := by decide +kernel
theorem dX0_well_56 : decode cX0_well 56 = .ok (.iload 4, 2) := by decide +kernel
theorem dX0_well_58 : decode cX0_well 58 = .ok (.iload_n 2, 1) := by decide +kernel
theorem dX0_well_59 : decode cX0_well 59 = .ok (.iastore, 1) := by decide +kernel
theorem dX0_well_60 : decode cX0_well 60 = .ok (.aload_n 0, 1) := by decide +kernel
theorem dX0_well_61 : decode cX0_well 61 = .ok (.getfield 16, 3) := by decide +kernel
theorem dX0_well_64 : decode cX0_well 64 = .ok (.iload 4, 2) := by decide +kernel
theorem dX0_well_66 : decode cX0_well 66 = .ok (.iload_n 3, 1) := by decide +kernel
theorem dX0_well_67 : decode cX0_well 67 = .ok (.iastore, 1) := by decide +kernel
theorem dX0_well_68 : decode cX0_well 68 = .ok (.aload_n 0, 1) := by decide +kernel
theorem dX0_well_69 : decode cX0_well 69 = .ok (.iload 4, 2) := by decide +kernel
theorem dX0_well_71 : decode cX0_well 71 = .ok (.iconst 1, 1) := by decide +kernel
theorem dX0_well_72 : decode cX0_well 72 = .ok (.iadd, 1) := by decide +kernel
theorem dX0_well_73 : decode cX0_well 73 = .ok (.putfield 47, 3) := by decide +kernel
theorem dX0_well_76 : decode cX0_well 76 = .ok (.iload 4, 2) := by decide +kernel
theorem dX0_well_78 : decode cX0_well 78 = .ok (.ireturn, 1) := by decide +kernel
set_option maxRecDepth 20000 in
theorem ggX0_watch_X0_needRange : GoodIn wsX0_watch wsX0_needRange := goodIn_ca (goodIn_r _ [7, 8, 9] (by decide +kernel) (by decide +kernel)) (goodIn_sub (fun _ h => List.mem_cons_of_mem _ (List.mem_append_left _ (List.mem_append_right _ h))) (by decide +kernel))
set_option maxRecDepth 20000 in
theorem gX0_watch_X0_needRange : GoodIn wsX0_watch (va_wsS RX0 43 yX0_needRange wsX0_needRange) := goodIn_app (goodIn_of _ (by decide +kernel)) ggX0_watch_X0_needRange
set_option maxRecDepth 20000 in
theorem ggX0_watch_X0_needAllowed : GoodIn wsX0_watch wsX0_needAllowed := goodIn_ca (goodIn_r _ [12, 13, 14] (by decide +kernel) (by decide +kernel)) (goodIn_sub (fun _ h => List.mem_cons_of_mem _ (List.mem_append_right _ h)) (by decide +kernel))
set_option maxRecDepth 20000 in
theorem gX0_watch_X0_needAllowed : GoodIn wsX0_watch (va_wsS RX0 51 yX0_needAllowed wsX0_needAllowed) := goodIn_app (goodIn_of _ (by decide +kernel)) ggX0_watch_X0_needAllowed
theorem dX0_watch_0 : decode cX0_watch 0 = .ok (.iload_n 1, 1) := by decide +kernel
theorem dX0_watch_1 : decode cX0_watch 1 = .ok (.iconst 0, 1) := by decide +kernel
theorem dX0_watch_2 : decode cX0_watch 2 = .ok (.bipush 99, 2) := by decide +kernel
theorem dX0_watch_4 : decode cX0_watch 4 = .ok (.invokestatic 43, 3) := by decide +kernel
theorem dX0_watch_7 : decode cX0_watch 7 = .ok (.iload_n 2, 1) := by decide +kernel
theorem dX0_watch_8 : decode cX0_watch 8 = .ok (.iconst 0, 1) := by decide +kernel
theorem dX0_watch_9 : decode cX0_watch 9 = .ok (.sipush 10000, 3) := by decide +kernel
theorem dX0_watch_12 : decode cX0_watch 12 = .ok (.invokestatic 43, 3) := by decide +kernel
theorem dX0_watch_15 : decode cX0_watch 15 = .ok (.aload_n 0, 1) := by decide +kernel
theorem dX0_watch_16 : decode cX0_watch 16 = .ok (.getfield 55, 3) := by decide +kernel
theorem dX0_watch_19 : decode cX0_watch 19 = .ok (.iconst 4, 1) := by decide +kernel
theorem dX0_watch_20 : decode cX0_watch 20 = .ok (.if_icmp .ge 7, 3) := by decide +kernel
theorem dX0_watch_23 : decode cX0_watch 23 = .ok (.iconst 1, 1) := by decide +kernel
theorem dX0_watch_24 : decode cX0_watch 24 = .ok (.goto 4, 3) := by decide +kernel
theorem dX0_watch_27 : decode cX0_watch 27 = .ok (.iconst 0, 1) := by decide +kernel
theorem dX0_watch_28 : decode cX0_watch 28 = .ok (.invokestatic 51, 3) := by decide +kernel
theorem dX0_watch_31 : decode cX0_watch 31 = .ok (.aload_n 0, 1) := by decide +kernel
theorem dX0_watch_32 : decode cX0_watch 32 = .ok (.getfield 55, 3) := by decide +kernel
theorem dX0_watch_35 : decode cX0_watch 35 = .ok (.istore_n 3, 1) := by decide +kernel
theorem dX0_watch_36 : decode cX0_watch 36 = .ok (.aload_n 0, 1) := by decide +kernel
theorem dX0_watch_37 : decode cX0_watch 37 = .ok (.getfield 24, 3) := by decide +kernel
theorem dX0_watch_40 : decode cX0_watch 40 = .ok (.iload_n 3, 1) := by decide +kernel
theorem dX0_watch_41 : decode cX0_watch 41 = .ok (.iload_n 1, 1) := by decide +kernel
theorem dX0_watch_42 : decode cX0_watch 42 = .ok (.iastore, 1) := by decide +kernel
theorem dX0_watch_43 : decode cX0_watch 43 = .ok (.aload_n 0, 1) := by decide +kernel
theorem dX0_watch_44 : decode cX0_watch 44 = .ok (.getfield 27, 3) := by decide +kernel
theorem dX0_watch_47 : decode cX0_watch 47 = .ok (.iload_n 3, 1) := by decide +kernel
theorem dX0_watch_48 : decode cX0_watch 48 = .ok (.iload_n 2, 1) := by decide +kernel
theorem dX0_watch_49 : decode cX0_watch 49 = .ok (.iastore, 1) := by decide +kernel
theorem dX0_watch_50 : decode cX0_watch 50 = .ok (.aload_n 0, 1) := by decide +kernel
theorem dX0_watch_51 : decode cX0_watch 51 = .ok (.iload_n 3, 1) := by decide +kernel
theorem dX0_watch_52 : decode cX0_watch 52 = .ok (.iconst 1, 1) := by decide +kernel
theorem dX0_watch_53 : decode cX0_watch 53 = .ok (.iadd, 1) := by decide +kernel
theorem dX0_watch_54 : decode cX0_watch 54 = .ok (.putfield 55, 3) := by decide +kernel
theorem dX0_watch_57 : decode cX0_watch 57 = .ok (.iload_n 3, 1) := by decide +kernel
theorem dX0_watch_58 : decode cX0_watch 58 = .ok (.ireturn, 1) := by decide +kernel
set_option maxRecDepth 20000 in
theorem ggX0_response_X0_needIndex : GoodIn wsX0_response wsX0_needIndex := goodIn_ca (goodIn_r _ [6, 7, 8] (by decide +kernel) (by decide +kernel)) (goodIn_sub (fun _ h => List.mem_cons_of_mem _ (List.mem_append_left _ (List.mem_append_right _ h))) (by decide +kernel))
set_option maxRecDepth 20000 in
theorem gX0_response_X0_needIndex : GoodIn wsX0_response (va_wsS RX0 58 yX0_needIndex wsX0_needIndex) := goodIn_app (goodIn_of _ (by decide +kernel)) ggX0_response_X0_needIndex
set_option maxRecDepth 20000 in
theorem ggX0_response_X0_needRange : GoodIn wsX0_response wsX0_needRange := goodIn_ca (goodIn_r _ [11, 12, 13] (by decide +kernel) (by decide +kernel)) (goodIn_sub (fun _ h => List.mem_cons_of_mem _ (List.mem_append_right _ h)) (by decide +kernel))
set_option maxRecDepth 20000 in
theorem gX0_response_X0_needRange : GoodIn wsX0_response (va_wsS RX0 43 yX0_needRange wsX0_needRange) := goodIn_app (goodIn_of _ (by decide +kernel)) ggX0_response_X0_needRange
theorem dX0_response_0 : decode cX0_response 0 = .ok (.iload_n 1, 1) := by decide +kernel
theorem dX0_response_1 : decode cX0_response 1 = .ok (.iconst 5, 1) := by decide +kernel
theorem dX0_response_2 : decode cX0_response 2 = .ok (.invokestatic 58, 3) := by decide +kernel
theorem dX0_response_5 : decode cX0_response 5 = .ok (.iload_n 2, 1) := by decide +kernel
theorem dX0_response_6 : decode cX0_response 6 = .ok (.bipush 12, 2) := by decide +kernel
theorem dX0_response_8 : decode cX0_response 8 = .ok (.invokestatic 58, 3) := by decide +kernel
theorem dX0_response_11 : decode cX0_response 11 = .ok (.iload_n 3, 1) := by decide +kernel
theorem dX0_response_12 : decode cX0_response 12 = .ok (.iconst 0, 1) := by decide +kernel
theorem dX0_response_13 : decode cX0_response 13 = .ok (.sipush 1000, 3) := by decide +kernel
theorem dX0_response_16 : decode cX0_response 16 = .ok (.invokestatic 43, 3) := by decide +kernel
theorem dX0_response_19 : decode cX0_response 19 = .ok (.aload_n 0, 1) := by decide +kernel
theorem dX0_response_20 : decode cX0_response 20 = .ok (.getfield 30, 3) := by decide +kernel
theorem dX0_response_23 : decode cX0_response 23 = .ok (.iload_n 1, 1) := by decide +kernel
theorem dX0_response_24 : decode cX0_response 24 = .ok (.aaload, 1) := by decide +kernel
theorem dX0_response_25 : decode cX0_response 25 = .ok (.iload_n 2, 1) := by decide +kernel
theorem dX0_response_26 : decode cX0_response 26 = .ok (.iaload, 1) := by decide +kernel
theorem dX0_response_27 : decode cX0_response 27 = .ok (.istore 4, 2) := by decide +kernel
theorem dX0_response_29 : decode cX0_response 29 = .ok (.aload_n 0, 1) := by decide +kernel
theorem dX0_response_30 : decode cX0_response 30 = .ok (.getfield 30, 3) := by decide +kernel
theorem dX0_response_33 : decode cX0_response 33 = .ok (.iload_n 1, 1) := by decide +kernel
theorem dX0_response_34 : decode cX0_response 34 = .ok (.aaload, 1) := by decide +kernel
theorem dX0_response_35 : decode cX0_response 35 = .ok (.iload_n 2, 1) := by decide +kernel
theorem dX0_response_36 : decode cX0_response 36 = .ok (.iload_n 3, 1) := by decide +kernel
theorem dX0_response_37 : decode cX0_response 37 = .ok (.iastore, 1) := by decide +kernel
theorem dX0_response_38 : decode cX0_response 38 = .ok (.aload_n 0, 1) := by decide +kernel
theorem dX0_response_39 : decode cX0_response 39 = .ok (.getfield 33, 3) := by decide +kernel
theorem dX0_response_42 : decode cX0_response 42 = .ok (.iload_n 1, 1) := by decide +kernel
theorem dX0_response_43 : decode cX0_response 43 = .ok (.dup2, 1) := by decide +kernel
theorem dX0_response_44 : decode cX0_response 44 = .ok (.iaload, 1) := by decide +kernel
theorem dX0_response_45 : decode cX0_response 45 = .ok (.iload_n 3, 1) := by decide +kernel
theorem dX0_response_46 : decode cX0_response 46 = .ok (.iload 4, 2) := by decide +kernel
theorem dX0_response_48 : decode cX0_response 48 = .ok (.isub, 1) := by decide +kernel
theorem dX0_response_49 : decode cX0_response 49 = .ok (.iadd, 1) := by decide +kernel
theorem dX0_response_50 : decode cX0_response 50 = .ok (.iastore, 1) := by decide +kernel
theorem dX0_response_51 : decode cX0_response 51 = .ok (.iload 4, 2) := by decide +kernel
theorem dX0_response_53 : decode cX0_response 53 = .ok (.ireturn, 1) := by decide +kernel
theorem dX0_wells_0 : decode cX0_wells 0 = .ok (.aload_n 0, 1) := by decide +kernel
theorem dX0_wells_1 : decode cX0_wells 1 = .ok (.getfield 47, 3) := by decide +kernel
theorem dX0_wells_4 : decode cX0_wells 4 = .ok (.ireturn, 1) := by decide +kernel
theorem dX0_watches_0 : decode cX0_watches 0 = .ok (.aload_n 0, 1) := by decide +kernel
theorem dX0_watches_1 : decode cX0_watches 1 = .ok (.getfield 55, 3) := by decide +kernel
theorem dX0_watches_4 : decode cX0_watches 4 = .ok (.ireturn, 1) := by decide +kernel
set_option maxRecDepth 20000 in
theorem ggX0_pump_X0_needIndex : GoodIn wsX0_pump wsX0_needIndex := goodIn_ca (goodIn_r _ [6, 7, 8] (by decide +kernel) (by decide +kernel)) (goodIn_sub (fun _ h => List.mem_cons_of_mem _ (List.mem_append_left _ (List.mem_append_right _ h))) (by decide +kernel))
set_option maxRecDepth 20000 in
theorem gX0_pump_X0_needIndex : GoodIn wsX0_pump (va_wsS RX0 58 yX0_needIndex wsX0_needIndex) := goodIn_app (goodIn_of _ (by decide +kernel)) ggX0_pump_X0_needIndex
set_option maxRecDepth 20000 in
theorem ggX0_pump_X0_needRange : GoodIn wsX0_pump wsX0_needRange := goodIn_ca (goodIn_r _ [11, 12, 13] (by decide +kernel) (by decide +kernel)) (goodIn_sub (fun _ h => List.mem_cons_of_mem _ (List.mem_append_right _ h)) (by decide +kernel))
set_option maxRecDepth 20000 in
theorem gX0_pump_X0_needRange : GoodIn wsX0_pump (va_wsS RX0 43 yX0_needRange wsX0_needRange) := goodIn_app (goodIn_of _ (by decide +kernel)) ggX0_pump_X0_needRange
theorem dX0_pump_0 : decode cX0_pump 0 = .ok (.iload_n 1, 1) := by decide +kernel
theorem dX0_pump_1 : decode cX0_pump 1 = .ok (.aload_n 0, 1) := by decide +kernel
theorem dX0_pump_2 : decode cX0_pump 2 = .ok (.getfield 47, 3) := by decide +kernel
theorem dX0_pump_5 : decode cX0_pump 5 = .ok (.invokestatic 58, 3) := by decide +kernel
theorem dX0_pump_8 : decode cX0_pump 8 = .ok (.iload_n 2, 1) := by decide +kernel
theorem dX0_pump_9 : decode cX0_pump 9 = .ok (.bipush 36, 2) := by decide +kernel
theorem dX0_pump_11 : decode cX0_pump 11 = .ok (.invokestatic 58, 3) := by decide +kernel
theorem dX0_pump_14 : decode cX0_pump 14 = .ok (.iload_n 3, 1) := by decide +kernel
theorem dX0_pump_15 : decode cX0_pump 15 = .ok (.iconst 0, 1) := by decide +kernel
theorem dX0_pump_16 : decode cX0_pump 16 = .ok (.sipush 1000, 3) := by decide +kernel
theorem dX0_pump_19 : decode cX0_pump 19 = .ok (.invokestatic 43, 3) := by decide +kernel
theorem dX0_pump_22 : decode cX0_pump 22 = .ok (.aload_n 0, 1) := by decide +kernel
theorem dX0_pump_23 : decode cX0_pump 23 = .ok (.getfield 21, 3) := by decide +kernel
theorem dX0_pump_26 : decode cX0_pump 26 = .ok (.iload_n 1, 1) := by decide +kernel
theorem dX0_pump_27 : decode cX0_pump 27 = .ok (.aaload, 1) := by decide +kernel
theorem dX0_pump_28 : decode cX0_pump 28 = .ok (.iload_n 2, 1) := by decide +kernel
theorem dX0_pump_29 : decode cX0_pump 29 = .ok (.iaload, 1) := by decide +kernel
theorem dX0_pump_30 : decode cX0_pump 30 = .ok (.istore 4, 2) := by decide +kernel
theorem dX0_pump_32 : decode cX0_pump 32 = .ok (.aload_n 0, 1) := by decide +kernel
theorem dX0_pump_33 : decode cX0_pump 33 = .ok (.getfield 21, 3) := by decide +kernel
theorem dX0_pump_36 : decode cX0_pump 36 = .ok (.iload_n 1, 1) := by decide +kernel
theorem dX0_pump_37 : decode cX0_pump 37 = .ok (.aaload, 1) := by decide +kernel
theorem dX0_pump_38 : decode cX0_pump 38 = .ok (.iload_n 2, 1) := by decide +kernel
theorem dX0_pump_39 : decode cX0_pump 39 = .ok (.iload_n 3, 1) := by decide +kernel
theorem dX0_pump_40 : decode cX0_pump 40 = .ok (.iastore, 1) := by decide +kernel
theorem dX0_pump_41 : decode cX0_pump 41 = .ok (.iload 4, 2) := by decide +kernel
theorem dX0_pump_43 : decode cX0_pump 43 = .ok (.ireturn, 1) := by decide +kernel
set_option maxRecDepth 20000 in
theorem ggX0_rest_X0_needIndex : GoodIn wsX0_rest wsX0_needIndex := goodIn_ca (goodIn_r _ [10, 11, 12] (by decide +kernel) (by decide +kernel)) (goodIn_sub (fun _ h => List.mem_cons_of_mem _ (List.mem_append_left _ (List.mem_append_right _ h))) (by decide +kernel))
set_option maxRecDepth 20000 in
theorem gX0_rest_X0_needIndex : GoodIn wsX0_rest (va_wsS RX0 58 yX0_needIndex wsX0_needIndex) := goodIn_app (goodIn_of _ (by decide +kernel)) ggX0_rest_X0_needIndex
set_option maxRecDepth 20000 in
theorem ggX0_rest_X0_needRange : GoodIn wsX0_rest wsX0_needRange := goodIn_ca (goodIn_r _ [15, 16, 17] (by decide +kernel) (by decide +kernel)) (goodIn_sub (fun _ h => List.mem_cons_of_mem _ (List.mem_append_right _ h)) (by decide +kernel))
set_option maxRecDepth 20000 in
theorem gX0_rest_X0_needRange : GoodIn wsX0_rest (va_wsS RX0 43 yX0_needRange wsX0_needRange) := goodIn_app (goodIn_of _ (by decide +kernel)) ggX0_rest_X0_needRange
theorem dX0_rest_0 : decode cX0_rest 0 = .ok (.iload_n 1, 1) := by decide +kernel
theorem dX0_rest_1 : decode cX0_rest 1 = .ok (.aload_n 0, 1) := by decide +kernel
theorem dX0_rest_2 : decode cX0_rest 2 = .ok (.getfield 47, 3) := by decide +kernel
theorem dX0_rest_5 : decode cX0_rest 5 = .ok (.invokestatic 58, 3) := by decide +kernel
theorem dX0_rest_8 : decode cX0_rest 8 = .ok (.iload_n 2, 1) := by decide +kernel
theorem dX0_rest_9 : decode cX0_rest 9 = .ok (.bipush 36, 2) := by decide +kernel
theorem dX0_rest_11 : decode cX0_rest 11 = .ok (.invokestatic 58, 3) := by decide +kernel
theorem dX0_rest_14 : decode cX0_rest 14 = .ok (.iload_n 3, 1) := by decide +kernel
theorem dX0_rest_15 : decode cX0_rest 15 = .ok (.iconst 1, 1) := by decide +kernel
theorem dX0_rest_16 : decode cX0_rest 16 = .ok (.bipush 36, 2) := by decide +kernel
theorem dX0_rest_18 : decode cX0_rest 18 = .ok (.invokestatic 43, 3) := by decide +kernel
theorem dX0_rest_21 : decode cX0_rest 21 = .ok (.iload_n 2, 1) := by decide +kernel
theorem dX0_rest_22 : decode cX0_rest 22 = .ok (.iload_n 3, 1) := by decide +kernel
theorem dX0_rest_23 : decode cX0_rest 23 = .ok (.iadd, 1) := by decide +kernel
theorem dX0_rest_24 : decode cX0_rest 24 = .ok (.bipush 36, 2) := by decide +kernel
theorem dX0_rest_26 : decode cX0_rest 26 = .ok (.invokestatic 62, 3) := by decide +kernel
theorem dX0_rest_29 : decode cX0_rest 29 = .ok (.istore 4, 2) := by decide +kernel
theorem dX0_rest_31 : decode cX0_rest 31 = .ok (.iconst 0, 1) := by decide +kernel
theorem dX0_rest_32 : decode cX0_rest 32 = .ok (.istore 5, 2) := by decide +kernel
theorem dX0_rest_34 : decode cX0_rest 34 = .ok (.iload_n 2, 1) := by decide +kernel
theorem dX0_rest_35 : decode cX0_rest 35 = .ok (.istore 6, 2) := by decide +kernel
theorem dX0_rest_37 : decode cX0_rest 37 = .ok (.iload 6, 2) := by decide +kernel
theorem dX0_rest_39 : decode cX0_rest 39 = .ok (.iload 4, 2) := by decide +kernel
theorem dX0_rest_41 : decode cX0_rest 41 = .ok (.if_icmp .ge 33, 3) := by decide +kernel
theorem dX0_rest_44 : decode cX0_rest 44 = .ok (.iload 5, 2) := by decide +kernel
theorem dX0_rest_46 : decode cX0_rest 46 = .ok (.aload_n 0, 1) := by decide +kernel
theorem dX0_rest_47 : decode cX0_rest 47 = .ok (.getfield 21, 3) := by decide +kernel
theorem dX0_rest_50 : decode cX0_rest 50 = .ok (.iload_n 1, 1) := by decide +kernel
theorem dX0_rest_51 : decode cX0_rest 51 = .ok (.aaload, 1) := by decide +kernel
theorem dX0_rest_52 : decode cX0_rest 52 = .ok (.iload 6, 2) := by decide +kernel
theorem dX0_rest_54 : decode cX0_rest 54 = .ok (.iaload, 1) := by decide +kernel
theorem dX0_rest_55 : decode cX0_rest 55 = .ok (.iadd, 1) := by decide +kernel
theorem dX0_rest_56 : decode cX0_rest 56 = .ok (.istore 5, 2) := by decide +kernel
theorem dX0_rest_58 : decode cX0_rest 58 = .ok (.aload_n 0, 1) := by decide +kernel
theorem dX0_rest_59 : decode cX0_rest 59 = .ok (.getfield 21, 3) := by decide +kernel
theorem dX0_rest_62 : decode cX0_rest 62 = .ok (.iload_n 1, 1) := by decide +kernel
theorem dX0_rest_63 : decode cX0_rest 63 = .ok (.aaload, 1) := by decide +kernel
theorem dX0_rest_64 : decode cX0_rest 64 = .ok (.iload 6, 2) := by decide +kernel
theorem dX0_rest_66 : decode cX0_rest 66 = .ok (.iconst 0, 1) := by decide +kernel
theorem dX0_rest_67 : decode cX0_rest 67 = .ok (.iastore, 1) := by decide +kernel
theorem dX0_rest_68 : decode cX0_rest 68 = .ok (.iinc 6 1, 3) := by decide +kernel
theorem dX0_rest_71 : decode cX0_rest 71 = .ok (.goto (-34), 3) := by decide +kernel
theorem dX0_rest_74 : decode cX0_rest 74 = .ok (.iload 5, 2) := by decide +kernel
theorem dX0_rest_76 : decode cX0_rest 76 = .ok (.ireturn, 1) := by decide +kernel
set_option maxRecDepth 20000 in
theorem ggX0_pumped_X0_needIndex : GoodIn wsX0_pumped wsX0_needIndex := goodIn_ca (goodIn_r _ [5, 6, 7] (by decide +kernel) (by decide +kernel)) (goodIn_sub (fun _ h => List.mem_cons_of_mem _ (List.mem_append_right _ h)) (by decide +kernel))
set_option maxRecDepth 20000 in
theorem gX0_pumped_X0_needIndex : GoodIn wsX0_pumped (va_wsS RX0 58 yX0_needIndex wsX0_needIndex) := goodIn_app (goodIn_of _ (by decide +kernel)) ggX0_pumped_X0_needIndex
set_option maxRecDepth 20000 in
theorem ggX0_pumped_X0_unitsOfYear : GoodIn wsX0_pumped wsX0_unitsOfYear := goodIn_r _ [11, 12, 13, 14, 15, 16, 17, 18, 19, 20, 21, 22, 23, 24] (by decide +kernel) (by decide +kernel)
set_option maxRecDepth 20000 in
theorem gX0_pumped_X0_unitsOfYear : GoodIn wsX0_pumped (wsV RX0 68 RX0 yX0_unitsOfYear wsX0_unitsOfYear) := goodIn_app (goodIn_of _ (by decide +kernel)) ggX0_pumped_X0_unitsOfYear
theorem dX0_pumped_0 : decode cX0_pumped 0 = .ok (.iload_n 1, 1) := by decide +kernel
theorem dX0_pumped_1 : decode cX0_pumped 1 = .ok (.aload_n 0, 1) := by decide +kernel
theorem dX0_pumped_2 : decode cX0_pumped 2 = .ok (.getfield 47, 3) := by decide +kernel
theorem dX0_pumped_5 : decode cX0_pumped 5 = .ok (.invokestatic 58, 3) := by decide +kernel
theorem dX0_pumped_8 : decode cX0_pumped 8 = .ok (.iload_n 2, 1) := by decide +kernel
theorem dX0_pumped_9 : decode cX0_pumped 9 = .ok (.iconst 3, 1) := by decide +kernel
theorem dX0_pumped_10 : decode cX0_pumped 10 = .ok (.invokestatic 58, 3) := by decide +kernel
theorem dX0_pumped_13 : decode cX0_pumped 13 = .ok (.aload_n 0, 1) := by decide +kernel
theorem dX0_pumped_14 : decode cX0_pumped 14 = .ok (.iload_n 1, 1) := by decide +kernel
theorem dX0_pumped_15 : decode cX0_pumped 15 = .ok (.iload_n 2, 1) := by decide +kernel
theorem dX0_pumped_16 : decode cX0_pumped 16 = .ok (.invokevirtual 68, 3) := by decide +kernel
theorem dX0_pumped_19 : decode cX0_pumped 19 = .ok (.ireturn, 1) := by decide +kernel
set_option maxRecDepth 20000 in
theorem ggX0_beyond_X0_needIndex : GoodIn wsX0_beyond wsX0_needIndex := goodIn_ca (goodIn_r _ [10, 11, 12] (by decide +kernel) (by decide +kernel)) (goodIn_sub (fun _ h => List.mem_cons_of_mem _ (List.mem_append_right _ h)) (by decide +kernel))
set_option maxRecDepth 20000 in
theorem gX0_beyond_X0_needIndex : GoodIn wsX0_beyond (va_wsS RX0 58 yX0_needIndex wsX0_needIndex) := goodIn_app (goodIn_of _ (by decide +kernel)) ggX0_beyond_X0_needIndex
set_option maxRecDepth 20000 in
theorem ggX0_beyond_X0_unitsOfYear : GoodIn wsX0_beyond wsX0_unitsOfYear := goodIn_r _ [16, 17, 18, 19, 20, 21, 22, 23, 24, 25, 26, 27, 28, 29] (by decide +kernel) (by decide +kernel)
set_option maxRecDepth 20000 in
theorem gX0_beyond_X0_unitsOfYear : GoodIn wsX0_beyond (wsV RX0 68 RX0 yX0_unitsOfYear wsX0_unitsOfYear) := goodIn_app (goodIn_of _ (by decide +kernel)) ggX0_beyond_X0_unitsOfYear
theorem dX0_beyond_0 : decode cX0_beyond 0 = .ok (.iload_n 1, 1) := by decide +kernel
theorem dX0_beyond_1 : decode cX0_beyond 1 = .ok (.iconst 3, 1) := by decide +kernel
theorem dX0_beyond_2 : decode cX0_beyond 2 = .ok (.invokestatic 58, 3) := by decide +kernel
theorem dX0_beyond_5 : decode cX0_beyond 5 = .ok (.iconst 0, 1) := by decide +kernel
theorem dX0_beyond_6 : decode cX0_beyond 6 = .ok (.istore_n 2, 1) := by decide +kernel
theorem dX0_beyond_7 : decode cX0_beyond 7 = .ok (.iconst 0, 1) := by decide +kernel
theorem dX0_beyond_8 : decode cX0_beyond 8 = .ok (.istore_n 3, 1) := by decide +kernel
theorem dX0_beyond_9 : decode cX0_beyond 9 = .ok (.iload_n 3, 1) := by decide +kernel
theorem dX0_beyond_10 : decode cX0_beyond 10 = .ok (.aload_n 0, 1) := by decide +kernel
theorem dX0_beyond_11 : decode cX0_beyond 11 = .ok (.getfield 47, 3) := by decide +kernel
theorem dX0_beyond_14 : decode cX0_beyond 14 = .ok (.if_icmp .ge 29, 3) := by decide +kernel
theorem dX0_beyond_17 : decode cX0_beyond 17 = .ok (.iload_n 2, 1) := by decide +kernel
theorem dX0_beyond_18 : decode cX0_beyond 18 = .ok (.iconst 0, 1) := by decide +kernel
theorem dX0_beyond_19 : decode cX0_beyond 19 = .ok (.aload_n 0, 1) := by decide +kernel
theorem dX0_beyond_20 : decode cX0_beyond 20 = .ok (.iload_n 3, 1) := by decide +kernel
theorem dX0_beyond_21 : decode cX0_beyond 21 = .ok (.iload_n 1, 1) := by decide +kernel
theorem dX0_beyond_22 : decode cX0_beyond 22 = .ok (.invokevirtual 68, 3) := by decide +kernel
theorem dX0_beyond_25 : decode cX0_beyond 25 = .ok (.aload_n 0, 1) := by decide +kernel
theorem dX0_beyond_26 : decode cX0_beyond 26 = .ok (.getfield 16, 3) := by decide +kernel
theorem dX0_beyond_29 : decode cX0_beyond 29 = .ok (.iload_n 3, 1) := by decide +kernel
theorem dX0_beyond_30 : decode cX0_beyond 30 = .ok (.iaload, 1) := by decide +kernel
theorem dX0_beyond_31 : decode cX0_beyond 31 = .ok (.isub, 1) := by decide +kernel
theorem dX0_beyond_32 : decode cX0_beyond 32 = .ok (.invokestatic 71, 3) := by decide +kernel
theorem dX0_beyond_35 : decode cX0_beyond 35 = .ok (.iadd, 1) := by decide +kernel
theorem dX0_beyond_36 : decode cX0_beyond 36 = .ok (.istore_n 2, 1) := by decide +kernel
theorem dX0_beyond_37 : decode cX0_beyond 37 = .ok (.iinc 3 1, 3) := by decide +kernel
theorem dX0_beyond_40 : decode cX0_beyond 40 = .ok (.goto (-31), 3) := by decide +kernel
theorem dX0_beyond_43 : decode cX0_beyond 43 = .ok (.iload_n 2, 1) := by decide +kernel
theorem dX0_beyond_44 : decode cX0_beyond 44 = .ok (.ireturn, 1) := by decide +kernel
set_option maxRecDepth 20000 in
theorem ggX0_drawdown_X0_needIndex : GoodIn wsX0_drawdown wsX0_needIndex := goodIn_ca (goodIn_r _ [5, 6, 7] (by decide +kernel) (by decide +kernel)) (goodIn_sub (fun _ h => List.mem_cons_of_mem _ (List.mem_append_right _ h)) (by decide +kernel))
set_option maxRecDepth 20000 in
theorem gX0_drawdown_X0_needIndex : GoodIn wsX0_drawdown (va_wsS RX0 58 yX0_needIndex wsX0_needIndex) := goodIn_app (goodIn_of _ (by decide +kernel)) ggX0_drawdown_X0_needIndex
set_option maxRecDepth 20000 in
theorem ggX0_drawdown_X0_loweredIn : GoodIn wsX0_drawdown wsX0_loweredIn := goodIn_r _ [11, 12, 13, 14, 15, 16, 4, 17, 18, 19, 20, 21, 22, 23, 24, 25, 26, 27, 28, 29, 30, 31, 32, 33, 34, 35, 36, 37, 38, 39, 40] (by decide +kernel) (by decide +kernel)
set_option maxRecDepth 20000 in
theorem gX0_drawdown_X0_loweredIn : GoodIn wsX0_drawdown (wsV RX0 74 RX0 yX0_loweredIn wsX0_loweredIn) := goodIn_app (goodIn_of _ (by decide +kernel)) ggX0_drawdown_X0_loweredIn
theorem dX0_drawdown_0 : decode cX0_drawdown 0 = .ok (.iload_n 1, 1) := by decide +kernel
theorem dX0_drawdown_1 : decode cX0_drawdown 1 = .ok (.aload_n 0, 1) := by decide +kernel
theorem dX0_drawdown_2 : decode cX0_drawdown 2 = .ok (.getfield 55, 3) := by decide +kernel
theorem dX0_drawdown_5 : decode cX0_drawdown 5 = .ok (.invokestatic 58, 3) := by decide +kernel
theorem dX0_drawdown_8 : decode cX0_drawdown 8 = .ok (.iload_n 2, 1) := by decide +kernel
theorem dX0_drawdown_9 : decode cX0_drawdown 9 = .ok (.bipush 36, 2) := by decide +kernel
theorem dX0_drawdown_11 : decode cX0_drawdown 11 = .ok (.invokestatic 58, 3) := by decide +kernel
theorem dX0_drawdown_14 : decode cX0_drawdown 14 = .ok (.aload_n 0, 1) := by decide +kernel
theorem dX0_drawdown_15 : decode cX0_drawdown 15 = .ok (.iload_n 1, 1) := by decide +kernel
theorem dX0_drawdown_16 : decode cX0_drawdown 16 = .ok (.iload_n 2, 1) := by decide +kernel
theorem dX0_drawdown_17 : decode cX0_drawdown 17 = .ok (.invokevirtual 74, 3) := by decide +kernel
theorem dX0_drawdown_20 : decode cX0_drawdown 20 = .ok (.lreturn, 1) := by decide +kernel
set_option maxRecDepth 20000 in
theorem ggX0_drawdownByPulses_X0_needIndex : GoodIn wsX0_drawdownByPulses wsX0_needIndex := goodIn_ca (goodIn_r _ [8, 9, 10] (by decide +kernel) (by decide +kernel)) (goodIn_sub (fun _ h => List.mem_cons_of_mem _ (List.mem_append_right _ h)) (by decide +kernel))
set_option maxRecDepth 20000 in
theorem gX0_drawdownByPulses_X0_needIndex : GoodIn wsX0_drawdownByPulses (va_wsS RX0 58 yX0_needIndex wsX0_needIndex) := goodIn_app (goodIn_of _ (by decide +kernel)) ggX0_drawdownByPulses_X0_needIndex
set_option maxRecDepth 20000 in
theorem ggX0_drawdownByPulses_X0_reachOf : GoodIn wsX0_drawdownByPulses wsX0_reachOf := goodIn_r _ [14, 15, 16, 17, 18, 19, 20, 30, 31, 32, 33, 34, 35, 36, 37, 38, 39, 40, 41] (by decide +kernel) (by decide +kernel)
set_option maxRecDepth 20000 in
theorem gX0_drawdownByPulses_X0_reachOf : GoodIn wsX0_drawdownByPulses (wsV RX0 78 RX0 yX0_reachOf wsX0_reachOf) := goodIn_app (goodIn_of _ (by decide +kernel)) ggX0_drawdownByPulses_X0_reachOf
set_option maxRecDepth 20000 in
theorem ggX0_drawdownByPulses_X0_layPulse : GoodIn wsX0_drawdownByPulses wsX0_layPulse := goodIn_r _ [24, 2, 25, 26, 27, 7, 28, 29, 30, 31, 32, 33, 34, 35, 36, 37, 38, 39, 40, 41] (by decide +kernel) (by decide +kernel)
set_option maxRecDepth 20000 in
theorem gX0_drawdownByPulses_X0_layPulse : GoodIn wsX0_drawdownByPulses (wsV RX0 81 RX0 yX0_layPulse wsX0_layPulse) := goodIn_app (goodIn_of _ (by decide +kernel)) ggX0_drawdownByPulses_X0_layPulse
theorem dX0_drawdownByPulses_0 : decode cX0_drawdownByPulses 0 = .ok (.iload_n 1, 1) := by decide +kernel
theorem dX0_drawdownByPulses_1 : decode cX0_drawdownByPulses 1 = .ok (.aload_n 0, 1) := by decide +kernel
theorem dX0_drawdownByPulses_2 : decode cX0_drawdownByPulses 2 = .ok (.getfield 55, 3) := by decide +kernel
theorem dX0_drawdownByPulses_5 : decode cX0_drawdownByPulses 5 = .ok (.invokestatic 58, 3) := by decide +kernel
theorem dX0_drawdownByPulses_8 : decode cX0_drawdownByPulses 8 = .ok (.iload_n 2, 1) := by decide +kernel
theorem dX0_drawdownByPulses_9 : decode cX0_drawdownByPulses 9 = .ok (.bipush 36, 2) := by decide +kernel
theorem dX0_drawdownByPulses_11 : decode cX0_drawdownByPulses 11 = .ok (.invokestatic 58, 3) := by decide +kernel
theorem dX0_drawdownByPulses_14 : decode cX0_drawdownByPulses 14 = .ok (.iconst 0, 1) := by decide +kernel
theorem dX0_drawdownByPulses_15 : decode cX0_drawdownByPulses 15 = .ok (.istore_n 3, 1) := by decide +kernel
theorem dX0_drawdownByPulses_16 : decode cX0_drawdownByPulses 16 = .ok (.iload_n 3, 1) := by decide +kernel
theorem dX0_drawdownByPulses_17 : decode cX0_drawdownByPulses 17 = .ok (.bipush 36, 2) := by decide +kernel
theorem dX0_drawdownByPulses_19 : decode cX0_drawdownByPulses 19 = .ok (.if_icmp .ge 16, 3) := by decide +kernel
theorem dX0_drawdownByPulses_22 : decode cX0_drawdownByPulses 22 = .ok (.aload_n 0, 1) := by decide +kernel
theorem dX0_drawdownByPulses_23 : decode cX0_drawdownByPulses 23 = .ok (.getfield 39, 3) := by decide +kernel
theorem dX0_drawdownByPulses_26 : decode cX0_drawdownByPulses 26 = .ok (.iload_n 3, 1) := by decide +kernel
theorem dX0_drawdownByPulses_27 : decode cX0_drawdownByPulses 27 = .ok (.lconst 0, 1) := by decide +kernel
theorem dX0_drawdownByPulses_28 : decode cX0_drawdownByPulses 28 = .ok (.lastore, 1) := by decide +kernel
theorem dX0_drawdownByPulses_29 : decode cX0_drawdownByPulses 29 = .ok (.iinc 3 1, 3) := by decide +kernel
theorem dX0_drawdownByPulses_32 : decode cX0_drawdownByPulses 32 = .ok (.goto (-16), 3) := by decide +kernel
theorem dX0_drawdownByPulses_35 : decode cX0_drawdownByPulses 35 = .ok (.iconst 0, 1) := by decide +kernel
theorem dX0_drawdownByPulses_36 : decode cX0_drawdownByPulses 36 = .ok (.istore_n 3, 1) := by decide +kernel
theorem dX0_drawdownByPulses_37 : decode cX0_drawdownByPulses 37 = .ok (.iload_n 3, 1) := by decide +kernel
theorem dX0_drawdownByPulses_38 : decode cX0_drawdownByPulses 38 = .ok (.aload_n 0, 1) := by decide +kernel
theorem dX0_drawdownByPulses_39 : decode cX0_drawdownByPulses 39 = .ok (.getfield 47, 3) := by decide +kernel
theorem dX0_drawdownByPulses_42 : decode cX0_drawdownByPulses 42 = .ok (.if_icmp .ge 46, 3) := by decide +kernel
theorem dX0_drawdownByPulses_45 : decode cX0_drawdownByPulses 45 = .ok (.iconst 0, 1) := by decide +kernel
theorem dX0_drawdownByPulses_46 : decode cX0_drawdownByPulses 46 = .ok (.istore 4, 2) := by decide +kernel
theorem dX0_drawdownByPulses_48 : decode cX0_drawdownByPulses 48 = .ok (.iload 4, 2) := by decide +kernel
theorem dX0_drawdownByPulses_50 : decode cX0_drawdownByPulses 50 = .ok (.bipush 36, 2) := by decide +kernel
theorem dX0_drawdownByPulses_52 : decode cX0_drawdownByPulses 52 = .ok (.if_icmp .ge 30, 3) := by decide +kernel
theorem dX0_drawdownByPulses_55 : decode cX0_drawdownByPulses 55 = .ok (.aload_n 0, 1) := by decide +kernel
theorem dX0_drawdownByPulses_56 : decode cX0_drawdownByPulses 56 = .ok (.aload_n 0, 1) := by decide +kernel
theorem dX0_drawdownByPulses_57 : decode cX0_drawdownByPulses 57 = .ok (.iload_n 3, 1) := by decide +kernel
theorem dX0_drawdownByPulses_58 : decode cX0_drawdownByPulses 58 = .ok (.iload_n 1, 1) := by decide +kernel
theorem dX0_drawdownByPulses_59 : decode cX0_drawdownByPulses 59 = .ok (.invokevirtual 78, 3) := by decide +kernel
theorem dX0_drawdownByPulses_62 : decode cX0_drawdownByPulses 62 = .ok (.iload 4, 2) := by decide +kernel
theorem dX0_drawdownByPulses_64 : decode cX0_drawdownByPulses 64 = .ok (.aload_n 0, 1) := by decide +kernel
theorem dX0_drawdownByPulses_65 : decode cX0_drawdownByPulses 65 = .ok (.getfield 21, 3) := by decide +kernel
theorem dX0_drawdownByPulses_68 : decode cX0_drawdownByPulses 68 = .ok (.iload_n 3, 1) := by decide +kernel
theorem dX0_drawdownByPulses_69 : decode cX0_drawdownByPulses 69 = .ok (.aaload, 1) := by decide +kernel
theorem dX0_drawdownByPulses_70 : decode cX0_drawdownByPulses 70 = .ok (.iload 4, 2) := by decide +kernel
theorem dX0_drawdownByPulses_72 : decode cX0_drawdownByPulses 72 = .ok (.iaload, 1) := by decide +kernel
theorem dX0_drawdownByPulses_73 : decode cX0_drawdownByPulses 73 = .ok (.invokevirtual 81, 3) := by decide +kernel
theorem dX0_drawdownByPulses_76 : decode cX0_drawdownByPulses 76 = .ok (.iinc 4 1, 3) := by decide +kernel
theorem dX0_drawdownByPulses_79 : decode cX0_drawdownByPulses 79 = .ok (.goto (-31), 3) := by decide +kernel
theorem dX0_drawdownByPulses_82 : decode cX0_drawdownByPulses 82 = .ok (.iinc 3 1, 3) := by decide +kernel
theorem dX0_drawdownByPulses_85 : decode cX0_drawdownByPulses 85 = .ok (.goto (-48), 3) := by decide +kernel
theorem dX0_drawdownByPulses_88 : decode cX0_drawdownByPulses 88 = .ok (.aload_n 0, 1) := by decide +kernel
theorem dX0_drawdownByPulses_89 : decode cX0_drawdownByPulses 89 = .ok (.getfield 39, 3) := by decide +kernel
theorem dX0_drawdownByPulses_92 : decode cX0_drawdownByPulses 92 = .ok (.iload_n 2, 1) := by decide +kernel
theorem dX0_drawdownByPulses_93 : decode cX0_drawdownByPulses 93 = .ok (.laload, 1) := by decide +kernel
theorem dX0_drawdownByPulses_94 : decode cX0_drawdownByPulses 94 = .ok (.lreturn, 1) := by decide +kernel
set_option maxRecDepth 20000 in
theorem ggX0_worstMonth_X0_needIndex : GoodIn wsX0_worstMonth wsX0_needIndex := goodIn_ca (goodIn_r _ [5, 6, 7] (by decide +kernel) (by decide +kernel)) (goodIn_sub (fun _ h => List.mem_cons_of_mem _ (List.mem_append_right _ h)) (by decide +kernel))
set_option maxRecDepth 20000 in
theorem gX0_worstMonth_X0_needIndex : GoodIn wsX0_worstMonth (va_wsS RX0 58 yX0_needIndex wsX0_needIndex) := goodIn_app (goodIn_of _ (by decide +kernel)) ggX0_worstMonth_X0_needIndex
set_option maxRecDepth 20000 in
theorem ggX0_worstMonth_X0_loweredIn : GoodIn wsX0_worstMonth wsX0_loweredIn := goodIn_r _ [11, 12, 13, 14, 15, 16, 4, 17, 18, 19, 20, 21, 22, 23, 24, 25, 26, 27, 28, 29, 30, 31, 32, 33, 34, 35, 36, 37, 38, 39, 40] (by decide +kernel) (by decide +kernel)
set_option maxRecDepth 20000 in
theorem gX0_worstMonth_X0_loweredIn : GoodIn wsX0_worstMonth (wsV RX0 74 RX0 yX0_loweredIn wsX0_loweredIn) := goodIn_app (goodIn_of _ (by decide +kernel)) ggX0_worstMonth_X0_loweredIn
theorem dX0_worstMonth_0 : decode cX0_worstMonth 0 = .ok (.iload_n 1, 1) := by decide +kernel
theorem dX0_worstMonth_1 : decode cX0_worstMonth 1 = .ok (.aload_n 0, 1) := by decide +kernel
theorem dX0_worstMonth_2 : decode cX0_worstMonth 2 = .ok (.getfield 55, 3) := by decide +kernel
theorem dX0_worstMonth_5 : decode cX0_worstMonth 5 = .ok (.invokestatic 58, 3) := by decide +kernel
theorem dX0_worstMonth_8 : decode cX0_worstMonth 8 = .ok (.iconst 0, 1) := by decide +kernel
theorem dX0_worstMonth_9 : decode cX0_worstMonth 9 = .ok (.istore_n 2, 1) := by decide +kernel
theorem dX0_worstMonth_10 : decode cX0_worstMonth 10 = .ok (.aload_n 0, 1) := by decide +kernel
theorem dX0_worstMonth_11 : decode cX0_worstMonth 11 = .ok (.iload_n 1, 1) := by decide +kernel
theorem dX0_worstMonth_12 : decode cX0_worstMonth 12 = .ok (.iconst 0, 1) := by decide +kernel
theorem dX0_worstMonth_13 : decode cX0_worstMonth 13 = .ok (.invokevirtual 74, 3) := by decide +kernel
theorem dX0_worstMonth_16 : decode cX0_worstMonth 16 = .ok (.lstore_n 3, 1) := by decide +kernel
theorem dX0_worstMonth_17 : decode cX0_worstMonth 17 = .ok (.iconst 1, 1) := by decide +kernel
theorem dX0_worstMonth_18 : decode cX0_worstMonth 18 = .ok (.istore 5, 2) := by decide +kernel
theorem dX0_worstMonth_20 : decode cX0_worstMonth 20 = .ok (.iload 5, 2) := by decide +kernel
theorem dX0_worstMonth_22 : decode cX0_worstMonth 22 = .ok (.bipush 36, 2) := by decide +kernel
theorem dX0_worstMonth_24 : decode cX0_worstMonth 24 = .ok (.if_icmp .ge 31, 3) := by decide +kernel
theorem dX0_worstMonth_27 : decode cX0_worstMonth 27 = .ok (.aload_n 0, 1) := by decide +kernel
theorem dX0_worstMonth_28 : decode cX0_worstMonth 28 = .ok (.iload_n 1, 1) := by decide +kernel
theorem dX0_worstMonth_29 : decode cX0_worstMonth 29 = .ok (.iload 5, 2) := by decide +kernel
theorem dX0_worstMonth_31 : decode cX0_worstMonth 31 = .ok (.invokevirtual 74, 3) := by decide +kernel
theorem dX0_worstMonth_34 : decode cX0_worstMonth 34 = .ok (.lstore 6, 2) := by decide +kernel
theorem dX0_worstMonth_36 : decode cX0_worstMonth 36 = .ok (.lload 6, 2) := by decide +kernel
theorem dX0_worstMonth_38 : decode cX0_worstMonth 38 = .ok (.lload_n 3, 1) := by decide +kernel
theorem dX0_worstMonth_39 : decode cX0_worstMonth 39 = .ok (.lcmp, 1) := by decide +kernel
theorem dX0_worstMonth_40 : decode cX0_worstMonth 40 = .ok (.ifCond .le 9, 3) := by decide +kernel
theorem dX0_worstMonth_43 : decode cX0_worstMonth 43 = .ok (.lload 6, 2) := by decide +kernel
theorem dX0_worstMonth_45 : decode cX0_worstMonth 45 = .ok (.lstore_n 3, 1) := by decide +kernel
theorem dX0_worstMonth_46 : decode cX0_worstMonth 46 = .ok (.iload 5, 2) := by decide +kernel
theorem dX0_worstMonth_48 : decode cX0_worstMonth 48 = .ok (.istore_n 2, 1) := by decide +kernel
theorem dX0_worstMonth_49 : decode cX0_worstMonth 49 = .ok (.iinc 5 1, 3) := by decide +kernel
theorem dX0_worstMonth_52 : decode cX0_worstMonth 52 = .ok (.goto (-32), 3) := by decide +kernel
theorem dX0_worstMonth_55 : decode cX0_worstMonth 55 = .ok (.iload_n 2, 1) := by decide +kernel
theorem dX0_worstMonth_56 : decode cX0_worstMonth 56 = .ok (.ireturn, 1) := by decide +kernel
set_option maxRecDepth 20000 in
theorem ggX0_over_X0_needIndex : GoodIn wsX0_over wsX0_needIndex := goodIn_ca (goodIn_r _ [5, 6, 7] (by decide +kernel) (by decide +kernel)) (goodIn_sub (fun _ h => List.mem_cons_of_mem _ (List.mem_append_right _ h)) (by decide +kernel))
set_option maxRecDepth 20000 in
theorem gX0_over_X0_needIndex : GoodIn wsX0_over (va_wsS RX0 58 yX0_needIndex wsX0_needIndex) := goodIn_app (goodIn_of _ (by decide +kernel)) ggX0_over_X0_needIndex
set_option maxRecDepth 20000 in
theorem ggX0_over_X0_thousandthsLeft : GoodIn wsX0_over wsX0_thousandthsLeft := goodIn_r _ [11, 12, 13, 14, 15, 16, 4, 17, 18, 19, 20, 21, 22, 23, 24, 25, 26, 27, 28, 29, 30, 31, 32, 33, 34, 35, 36, 37, 38, 39, 40, 41, 42, 43, 44, 45, 46] (by decide +kernel) (by decide +kernel)
set_option maxRecDepth 20000 in
theorem gX0_over_X0_thousandthsLeft : GoodIn wsX0_over (wsV RX0 84 RX0 yX0_thousandthsLeft wsX0_thousandthsLeft) := goodIn_app (goodIn_of _ (by decide +kernel)) ggX0_over_X0_thousandthsLeft
theorem dX0_over_0 : decode cX0_over 0 = .ok (.iload_n 1, 1) := by decide +kernel
theorem dX0_over_1 : decode cX0_over 1 = .ok (.aload_n 0, 1) := by decide +kernel
theorem dX0_over_2 : decode cX0_over 2 = .ok (.getfield 55, 3) := by decide +kernel
theorem dX0_over_5 : decode cX0_over 5 = .ok (.invokestatic 58, 3) := by decide +kernel
theorem dX0_over_8 : decode cX0_over 8 = .ok (.iconst 0, 1) := by decide +kernel
theorem dX0_over_9 : decode cX0_over 9 = .ok (.istore_n 2, 1) := by decide +kernel
theorem dX0_over_10 : decode cX0_over 10 = .ok (.iconst 0, 1) := by decide +kernel
theorem dX0_over_11 : decode cX0_over 11 = .ok (.istore_n 3, 1) := by decide +kernel
theorem dX0_over_12 : decode cX0_over 12 = .ok (.iload_n 3, 1) := by decide +kernel
theorem dX0_over_13 : decode cX0_over 13 = .ok (.bipush 36, 2) := by decide +kernel
theorem dX0_over_15 : decode cX0_over 15 = .ok (.if_icmp .ge 23, 3) := by decide +kernel
theorem dX0_over_18 : decode cX0_over 18 = .ok (.aload_n 0, 1) := by decide +kernel
theorem dX0_over_19 : decode cX0_over 19 = .ok (.iload_n 1, 1) := by decide +kernel
theorem dX0_over_20 : decode cX0_over 20 = .ok (.iload_n 3, 1) := by decide +kernel
theorem dX0_over_21 : decode cX0_over 21 = .ok (.invokevirtual 84, 3) := by decide +kernel
theorem dX0_over_24 : decode cX0_over 24 = .ok (.lconst 0, 1) := by decide +kernel
theorem dX0_over_25 : decode cX0_over 25 = .ok (.lcmp, 1) := by decide +kernel
theorem dX0_over_26 : decode cX0_over 26 = .ok (.ifCond .ge 6, 3) := by decide +kernel
theorem dX0_over_29 : decode cX0_over 29 = .ok (.iinc 2 1, 3) := by decide +kernel
theorem dX0_over_32 : decode cX0_over 32 = .ok (.iinc 3 1, 3) := by decide +kernel
theorem dX0_over_35 : decode cX0_over 35 = .ok (.goto (-23), 3) := by decide +kernel
theorem dX0_over_38 : decode cX0_over 38 = .ok (.iload_n 2, 1) := by decide +kernel
theorem dX0_over_39 : decode cX0_over 39 = .ok (.ireturn, 1) := by decide +kernel
set_option maxRecDepth 20000 in
theorem ggX0_headroom_X0_needIndex : GoodIn wsX0_headroom wsX0_needIndex := goodIn_ca (goodIn_r _ [11, 12, 13] (by decide +kernel) (by decide +kernel)) (goodIn_sub (fun _ h => List.mem_cons_of_mem _ (List.mem_append_right _ h)) (by decide +kernel))
set_option maxRecDepth 20000 in
theorem gX0_headroom_X0_needIndex : GoodIn wsX0_headroom (va_wsS RX0 58 yX0_needIndex wsX0_needIndex) := goodIn_app (goodIn_of _ (by decide +kernel)) ggX0_headroom_X0_needIndex
set_option maxRecDepth 20000 in
theorem ggX0_headroom_X0_reachOf : GoodIn wsX0_headroom wsX0_reachOf := goodIn_r _ [17, 18, 19, 20, 21, 6, 22, 45, 46, 47, 48, 49, 50, 51, 52, 53, 54, 55, 56] (by decide +kernel) (by decide +kernel)
set_option maxRecDepth 20000 in
theorem gX0_headroom_X0_reachOf : GoodIn wsX0_headroom (wsV RX0 78 RX0 yX0_reachOf wsX0_reachOf) := goodIn_app (goodIn_of _ (by decide +kernel)) ggX0_headroom_X0_reachOf
set_option maxRecDepth 20000 in
theorem ggX0_headroom_X0_unitsLeft : GoodIn wsX0_headroom wsX0_unitsLeft := goodIn_r _ [26, 27, 28, 29, 6, 30, 4, 5, 7, 31, 32, 33, 10, 34, 35, 36, 37, 38, 39, 40, 41, 42, 43, 44, 1, 2, 14, 15, 16, 17, 18, 19, 20, 21, 22, 45, 46, 47, 48, 49, 50, 51, 52, 53, 54, 55, 56] (by decide +kernel) (by decide +kernel)
set_option maxRecDepth 20000 in
theorem gX0_headroom_X0_unitsLeft : GoodIn wsX0_headroom (wsV RX0 87 RX0 yX0_unitsLeft wsX0_unitsLeft) := goodIn_app (goodIn_of _ (by decide +kernel)) ggX0_headroom_X0_unitsLeft
theorem dX0_headroom_0 : decode cX0_headroom 0 = .ok (.iload_n 1, 1) := by decide +kernel
theorem dX0_headroom_1 : decode cX0_headroom 1 = .ok (.aload_n 0, 1) := by decide +kernel
theorem dX0_headroom_2 : decode cX0_headroom 2 = .ok (.getfield 47, 3) := by decide +kernel
theorem dX0_headroom_5 : decode cX0_headroom 5 = .ok (.invokestatic 58, 3) := by decide +kernel
theorem dX0_headroom_8 : decode cX0_headroom 8 = .ok (.iload_n 2, 1) := by decide +kernel
theorem dX0_headroom_9 : decode cX0_headroom 9 = .ok (.bipush 36, 2) := by decide +kernel
theorem dX0_headroom_11 : decode cX0_headroom 11 = .ok (.invokestatic 58, 3) := by decide +kernel
theorem dX0_headroom_14 : decode cX0_headroom 14 = .ok (.sipush 1000, 3) := by decide +kernel
theorem dX0_headroom_17 : decode cX0_headroom 17 = .ok (.aload_n 0, 1) := by decide +kernel
theorem dX0_headroom_18 : decode cX0_headroom 18 = .ok (.getfield 21, 3) := by decide +kernel
theorem dX0_headroom_21 : decode cX0_headroom 21 = .ok (.iload_n 1, 1) := by decide +kernel
theorem dX0_headroom_22 : decode cX0_headroom 22 = .ok (.aaload, 1) := by decide +kernel
theorem dX0_headroom_23 : decode cX0_headroom 23 = .ok (.iload_n 2, 1) := by decide +kernel
theorem dX0_headroom_24 : decode cX0_headroom 24 = .ok (.iaload, 1) := by decide +kernel
theorem dX0_headroom_25 : decode cX0_headroom 25 = .ok (.isub, 1) := by decide +kernel
theorem dX0_headroom_26 : decode cX0_headroom 26 = .ok (.i2l, 1) := by decide +kernel
theorem dX0_headroom_27 : decode cX0_headroom 27 = .ok (.lstore_n 3, 1) := by decide +kernel
theorem dX0_headroom_28 : decode cX0_headroom 28 = .ok (.iconst 0, 1) := by decide +kernel
theorem dX0_headroom_29 : decode cX0_headroom 29 = .ok (.istore 5, 2) := by decide +kernel
theorem dX0_headroom_31 : decode cX0_headroom 31 = .ok (.iload 5, 2) := by decide +kernel
theorem dX0_headroom_33 : decode cX0_headroom 33 = .ok (.aload_n 0, 1) := by decide +kernel
theorem dX0_headroom_34 : decode cX0_headroom 34 = .ok (.getfield 55, 3) := by decide +kernel
theorem dX0_headroom_37 : decode cX0_headroom 37 = .ok (.if_icmp .ge 28, 3) := by decide +kernel
theorem dX0_headroom_40 : decode cX0_headroom 40 = .ok (.lload_n 3, 1) := by decide +kernel
theorem dX0_headroom_41 : decode cX0_headroom 41 = .ok (.aload_n 0, 1) := by decide +kernel
theorem dX0_headroom_42 : decode cX0_headroom 42 = .ok (.iload 5, 2) := by decide +kernel
theorem dX0_headroom_44 : decode cX0_headroom 44 = .ok (.aload_n 0, 1) := by decide +kernel
theorem dX0_headroom_45 : decode cX0_headroom 45 = .ok (.iload_n 1, 1) := by decide +kernel
theorem dX0_headroom_46 : decode cX0_headroom 46 = .ok (.iload 5, 2) := by decide +kernel
theorem dX0_headroom_48 : decode cX0_headroom 48 = .ok (.invokevirtual 78, 3) := by decide +kernel
theorem dX0_headroom_51 : decode cX0_headroom 51 = .ok (.iload_n 2, 1) := by decide +kernel
theorem dX0_headroom_52 : decode cX0_headroom 52 = .ok (.invokevirtual 87, 3) := by decide +kernel
theorem dX0_headroom_55 : decode cX0_headroom 55 = .ok (.invokestatic 91, 3) := by decide +kernel
theorem dX0_headroom_58 : decode cX0_headroom 58 = .ok (.lstore_n 3, 1) := by decide +kernel
theorem dX0_headroom_59 : decode cX0_headroom 59 = .ok (.iinc 5 1, 3) := by decide +kernel
theorem dX0_headroom_62 : decode cX0_headroom 62 = .ok (.goto (-31), 3) := by decide +kernel
theorem dX0_headroom_65 : decode cX0_headroom 65 = .ok (.lload_n 3, 1) := by decide +kernel
theorem dX0_headroom_66 : decode cX0_headroom 66 = .ok (.l2i, 1) := by decide +kernel
theorem dX0_headroom_67 : decode cX0_headroom 67 = .ok (.ireturn, 1) := by decide +kernel
set_option maxRecDepth 20000 in
theorem ggX0_heaviest_X0_needIndex : GoodIn wsX0_heaviest wsX0_needIndex := goodIn_ca (goodIn_r _ [6, 7, 8] (by decide +kernel) (by decide +kernel)) (goodIn_sub (fun _ h => List.mem_cons_of_mem _ (List.mem_append_right _ h)) (by decide +kernel))
set_option maxRecDepth 20000 in
theorem gX0_heaviest_X0_needIndex : GoodIn wsX0_heaviest (va_wsS RX0 58 yX0_needIndex wsX0_needIndex) := goodIn_app (goodIn_of _ (by decide +kernel)) ggX0_heaviest_X0_needIndex
set_option maxRecDepth 20000 in
theorem ggX0_heaviest_X0_loweredInAll : GoodIn wsX0_heaviest wsX0_loweredInAll := goodIn_r _ [12, 13, 14, 15, 16, 5, 17, 18, 19, 20, 21, 22, 23, 24, 25, 26, 27, 28, 29, 30, 31, 32, 33, 34, 35, 36, 37, 38, 39, 40] (by decide +kernel) (by decide +kernel)
set_option maxRecDepth 20000 in
theorem gX0_heaviest_X0_loweredInAll : GoodIn wsX0_heaviest (wsV RX0 94 RX0 yX0_loweredInAll wsX0_loweredInAll) := goodIn_app (goodIn_of _ (by decide +kernel)) ggX0_heaviest_X0_loweredInAll
theorem dX0_heaviest_0 : decode cX0_heaviest 0 = .ok (.iload_n 1, 1) := by decide +kernel
theorem dX0_heaviest_1 : decode cX0_heaviest 1 = .ok (.aload_n 0, 1) := by decide +kernel
theorem dX0_heaviest_2 : decode cX0_heaviest 2 = .ok (.getfield 55, 3) := by decide +kernel
theorem dX0_heaviest_5 : decode cX0_heaviest 5 = .ok (.invokestatic 58, 3) := by decide +kernel
theorem dX0_heaviest_8 : decode cX0_heaviest 8 = .ok (.iload_n 2, 1) := by decide +kernel
theorem dX0_heaviest_9 : decode cX0_heaviest 9 = .ok (.bipush 36, 2) := by decide +kernel
theorem dX0_heaviest_11 : decode cX0_heaviest 11 = .ok (.invokestatic 58, 3) := by decide +kernel
theorem dX0_heaviest_14 : decode cX0_heaviest 14 = .ok (.iconst (-1), 1) := by decide +kernel
theorem dX0_heaviest_15 : decode cX0_heaviest 15 = .ok (.istore_n 3, 1) := by decide +kernel
theorem dX0_heaviest_16 : decode cX0_heaviest 16 = .ok (.lconst 0, 1) := by decide +kernel
theorem dX0_heaviest_17 : decode cX0_heaviest 17 = .ok (.lstore 4, 2) := by decide +kernel
theorem dX0_heaviest_19 : decode cX0_heaviest 19 = .ok (.iconst 0, 1) := by decide +kernel
theorem dX0_heaviest_20 : decode cX0_heaviest 20 = .ok (.istore 6, 2) := by decide +kernel
theorem dX0_heaviest_22 : decode cX0_heaviest 22 = .ok (.iload 6, 2) := by decide +kernel
theorem dX0_heaviest_24 : decode cX0_heaviest 24 = .ok (.aload_n 0, 1) := by decide +kernel
theorem dX0_heaviest_25 : decode cX0_heaviest 25 = .ok (.getfield 47, 3) := by decide +kernel
theorem dX0_heaviest_28 : decode cX0_heaviest 28 = .ok (.if_icmp .ge 34, 3) := by decide +kernel
theorem dX0_heaviest_31 : decode cX0_heaviest 31 = .ok (.aload_n 0, 1) := by decide +kernel
theorem dX0_heaviest_32 : decode cX0_heaviest 32 = .ok (.iload 6, 2) := by decide +kernel
theorem dX0_heaviest_34 : decode cX0_heaviest 34 = .ok (.iload_n 1, 1) := by decide +kernel
theorem dX0_heaviest_35 : decode cX0_heaviest 35 = .ok (.iload_n 2, 1) := by decide +kernel
theorem dX0_heaviest_36 : decode cX0_heaviest 36 = .ok (.invokevirtual 94, 3) := by decide +kernel
theorem dX0_heaviest_39 : decode cX0_heaviest 39 = .ok (.lstore 7, 2) := by decide +kernel
theorem dX0_heaviest_41 : decode cX0_heaviest 41 = .ok (.lload 7, 2) := by decide +kernel
theorem dX0_heaviest_43 : decode cX0_heaviest 43 = .ok (.lload 4, 2) := by decide +kernel
theorem dX0_heaviest_45 : decode cX0_heaviest 45 = .ok (.lcmp, 1) := by decide +kernel
theorem dX0_heaviest_46 : decode cX0_heaviest 46 = .ok (.ifCond .le 10, 3) := by decide +kernel
theorem dX0_heaviest_49 : decode cX0_heaviest 49 = .ok (.lload 7, 2) := by decide +kernel
theorem dX0_heaviest_51 : decode cX0_heaviest 51 = .ok (.lstore 4, 2) := by decide +kernel
theorem dX0_heaviest_53 : decode cX0_heaviest 53 = .ok (.iload 6, 2) := by decide +kernel
theorem dX0_heaviest_55 : decode cX0_heaviest 55 = .ok (.istore_n 3, 1) := by decide +kernel
theorem dX0_heaviest_56 : decode cX0_heaviest 56 = .ok (.iinc 6 1, 3) := by decide +kernel
theorem dX0_heaviest_59 : decode cX0_heaviest 59 = .ok (.goto (-37), 3) := by decide +kernel
theorem dX0_heaviest_62 : decode cX0_heaviest 62 = .ok (.iload_n 3, 1) := by decide +kernel
theorem dX0_heaviest_63 : decode cX0_heaviest 63 = .ok (.ireturn, 1) := by decide +kernel
set_option maxRecDepth 20000 in
theorem ggX0_taken_X0_needIndex : GoodIn wsX0_taken wsX0_needIndex := goodIn_ca (goodIn_r _ [5, 6, 7] (by decide +kernel) (by decide +kernel)) (goodIn_sub (fun _ h => List.mem_cons_of_mem _ (List.mem_append_right _ h)) (by decide +kernel))
set_option maxRecDepth 20000 in
theorem gX0_taken_X0_needIndex : GoodIn wsX0_taken (va_wsS RX0 58 yX0_needIndex wsX0_needIndex) := goodIn_app (goodIn_of _ (by decide +kernel)) ggX0_taken_X0_needIndex
set_option maxRecDepth 20000 in
theorem ggX0_taken_X0_takenOfMonthsBefore : GoodIn wsX0_taken wsX0_takenOfMonthsBefore := goodIn_r _ [11, 12, 13, 14, 15, 4, 16, 17, 18, 19, 20, 21, 22, 23, 24, 25, 26, 27, 28] (by decide +kernel) (by decide +kernel)
set_option maxRecDepth 20000 in
theorem gX0_taken_X0_takenOfMonthsBefore : GoodIn wsX0_taken (wsV RX0 97 RX0 yX0_takenOfMonthsBefore wsX0_takenOfMonthsBefore) := goodIn_app (goodIn_of _ (by decide +kernel)) ggX0_taken_X0_takenOfMonthsBefore
theorem dX0_taken_0 : decode cX0_taken 0 = .ok (.iload_n 1, 1) := by decide +kernel
theorem dX0_taken_1 : decode cX0_taken 1 = .ok (.iconst 3, 1) := by decide +kernel
theorem dX0_taken_2 : decode cX0_taken 2 = .ok (.invokestatic 58, 3) := by decide +kernel
theorem dX0_taken_5 : decode cX0_taken 5 = .ok (.iconst 0, 1) := by decide +kernel
theorem dX0_taken_6 : decode cX0_taken 6 = .ok (.istore_n 2, 1) := by decide +kernel
theorem dX0_taken_7 : decode cX0_taken 7 = .ok (.iconst 0, 1) := by decide +kernel
theorem dX0_taken_8 : decode cX0_taken 8 = .ok (.istore_n 3, 1) := by decide +kernel
theorem dX0_taken_9 : decode cX0_taken 9 = .ok (.iload_n 3, 1) := by decide +kernel
theorem dX0_taken_10 : decode cX0_taken 10 = .ok (.aload_n 0, 1) := by decide +kernel
theorem dX0_taken_11 : decode cX0_taken 11 = .ok (.getfield 47, 3) := by decide +kernel
theorem dX0_taken_14 : decode cX0_taken 14 = .ok (.if_icmp .ge 20, 3) := by decide +kernel
theorem dX0_taken_17 : decode cX0_taken 17 = .ok (.iload_n 2, 1) := by decide +kernel
theorem dX0_taken_18 : decode cX0_taken 18 = .ok (.aload_n 0, 1) := by decide +kernel
theorem dX0_taken_19 : decode cX0_taken 19 = .ok (.iload_n 3, 1) := by decide +kernel
theorem dX0_taken_20 : decode cX0_taken 20 = .ok (.bipush 36, 2) := by decide +kernel
theorem dX0_taken_22 : decode cX0_taken 22 = .ok (.iload_n 1, 1) := by decide +kernel
theorem dX0_taken_23 : decode cX0_taken 23 = .ok (.invokevirtual 97, 3) := by decide +kernel
theorem dX0_taken_26 : decode cX0_taken 26 = .ok (.iadd, 1) := by decide +kernel
theorem dX0_taken_27 : decode cX0_taken 27 = .ok (.istore_n 2, 1) := by decide +kernel
theorem dX0_taken_28 : decode cX0_taken 28 = .ok (.iinc 3 1, 3) := by decide +kernel
theorem dX0_taken_31 : decode cX0_taken 31 = .ok (.goto (-22), 3) := by decide +kernel
theorem dX0_taken_34 : decode cX0_taken 34 = .ok (.iload_n 2, 1) := by decide +kernel
theorem dX0_taken_35 : decode cX0_taken 35 = .ok (.ireturn, 1) := by decide +kernel
set_option maxRecDepth 20000 in
theorem ggX0_takenLate_X0_needIndex : GoodIn wsX0_takenLate wsX0_needIndex := goodIn_ca (goodIn_r _ [5, 6, 7] (by decide +kernel) (by decide +kernel)) (goodIn_sub (fun _ h => List.mem_cons_of_mem _ (List.mem_append_right _ h)) (by decide +kernel))
set_option maxRecDepth 20000 in
theorem gX0_takenLate_X0_needIndex : GoodIn wsX0_takenLate (va_wsS RX0 58 yX0_needIndex wsX0_needIndex) := goodIn_app (goodIn_of _ (by decide +kernel)) ggX0_takenLate_X0_needIndex
set_option maxRecDepth 20000 in
theorem ggX0_takenLate_X0_takenOfMonthsBefore : GoodIn wsX0_takenLate wsX0_takenOfMonthsBefore := goodIn_r _ [11, 12, 13, 14, 15, 4, 16, 17, 18, 19, 20, 21, 22, 23, 24, 25, 26, 27, 28] (by decide +kernel) (by decide +kernel)
set_option maxRecDepth 20000 in
theorem gX0_takenLate_X0_takenOfMonthsBefore : GoodIn wsX0_takenLate (wsV RX0 97 RX0 yX0_takenOfMonthsBefore wsX0_takenOfMonthsBefore) := goodIn_app (goodIn_of _ (by decide +kernel)) ggX0_takenLate_X0_takenOfMonthsBefore
theorem dX0_takenLate_0 : decode cX0_takenLate 0 = .ok (.iload_n 1, 1) := by decide +kernel
theorem dX0_takenLate_1 : decode cX0_takenLate 1 = .ok (.aload_n 0, 1) := by decide +kernel
theorem dX0_takenLate_2 : decode cX0_takenLate 2 = .ok (.getfield 47, 3) := by decide +kernel
theorem dX0_takenLate_5 : decode cX0_takenLate 5 = .ok (.invokestatic 58, 3) := by decide +kernel
theorem dX0_takenLate_8 : decode cX0_takenLate 8 = .ok (.iload_n 2, 1) := by decide +kernel
theorem dX0_takenLate_9 : decode cX0_takenLate 9 = .ok (.iconst 3, 1) := by decide +kernel
theorem dX0_takenLate_10 : decode cX0_takenLate 10 = .ok (.invokestatic 58, 3) := by decide +kernel
theorem dX0_takenLate_13 : decode cX0_takenLate 13 = .ok (.aload_n 0, 1) := by decide +kernel
theorem dX0_takenLate_14 : decode cX0_takenLate 14 = .ok (.iload_n 1, 1) := by decide +kernel
theorem dX0_takenLate_15 : decode cX0_takenLate 15 = .ok (.iload_n 2, 1) := by decide +kernel
theorem dX0_takenLate_16 : decode cX0_takenLate 16 = .ok (.bipush 12, 2) := by decide +kernel
theorem dX0_takenLate_18 : decode cX0_takenLate 18 = .ok (.imul, 1) := by decide +kernel
theorem dX0_takenLate_19 : decode cX0_takenLate 19 = .ok (.iload_n 2, 1) := by decide +kernel
theorem dX0_takenLate_20 : decode cX0_takenLate 20 = .ok (.invokevirtual 97, 3) := by decide +kernel
theorem dX0_takenLate_23 : decode cX0_takenLate 23 = .ok (.ireturn, 1) := by decide +kernel
set_option maxRecDepth 20000 in
theorem ggX0_licence_X0_needIndex : GoodIn wsX0_licence wsX0_needIndex := goodIn_ca (goodIn_r _ [6, 7, 8] (by decide +kernel) (by decide +kernel)) (goodIn_sub (fun _ h => List.mem_cons_of_mem _ (List.mem_append_right _ h)) (by decide +kernel))
set_option maxRecDepth 20000 in
theorem gX0_licence_X0_needIndex : GoodIn wsX0_licence (va_wsS RX0 58 yX0_needIndex wsX0_needIndex) := goodIn_app (goodIn_of _ (by decide +kernel)) ggX0_licence_X0_needIndex
theorem dX0_licence_0 : decode cX0_licence 0 = .ok (.iload_n 1, 1) := by decide +kernel
theorem dX0_licence_1 : decode cX0_licence 1 = .ok (.aload_n 0, 1) := by decide +kernel
theorem dX0_licence_2 : decode cX0_licence 2 = .ok (.getfield 47, 3) := by decide +kernel
theorem dX0_licence_5 : decode cX0_licence 5 = .ok (.invokestatic 58, 3) := by decide +kernel
theorem dX0_licence_8 : decode cX0_licence 8 = .ok (.aload_n 0, 1) := by decide +kernel
theorem dX0_licence_9 : decode cX0_licence 9 = .ok (.getfield 16, 3) := by decide +kernel
theorem dX0_licence_12 : decode cX0_licence 12 = .ok (.iload_n 1, 1) := by decide +kernel
theorem dX0_licence_13 : decode cX0_licence 13 = .ok (.iaload, 1) := by decide +kernel
theorem dX0_licence_14 : decode cX0_licence 14 = .ok (.ireturn, 1) := by decide +kernel
set_option maxRecDepth 20000 in
theorem ggX0_ratio_X0_needIndex : GoodIn wsX0_ratio wsX0_needIndex := goodIn_ca (goodIn_r _ [5, 6, 7] (by decide +kernel) (by decide +kernel)) (goodIn_sub (fun _ h => List.mem_cons_of_mem _ (List.mem_append_left _ (List.mem_append_right _ h))) (by decide +kernel))
set_option maxRecDepth 20000 in
theorem gX0_ratio_X0_needIndex : GoodIn wsX0_ratio (va_wsS RX0 58 yX0_needIndex wsX0_needIndex) := goodIn_app (goodIn_of _ (by decide +kernel)) ggX0_ratio_X0_needIndex
set_option maxRecDepth 20000 in
theorem ggX0_ratio_X0_needRange : GoodIn wsX0_ratio wsX0_needRange := goodIn_ca (goodIn_r _ [10, 11, 12] (by decide +kernel) (by decide +kernel)) (goodIn_sub (fun _ h => List.mem_cons_of_mem _ (List.mem_append_right _ h)) (by decide +kernel))
set_option maxRecDepth 20000 in
theorem gX0_ratio_X0_needRange : GoodIn wsX0_ratio (va_wsS RX0 43 yX0_needRange wsX0_needRange) := goodIn_app (goodIn_of _ (by decide +kernel)) ggX0_ratio_X0_needRange
theorem dX0_ratio_0 : decode cX0_ratio 0 = .ok (.iload_n 1, 1) := by decide +kernel
theorem dX0_ratio_1 : decode cX0_ratio 1 = .ok (.iconst 3, 1) := by decide +kernel
theorem dX0_ratio_2 : decode cX0_ratio 2 = .ok (.invokestatic 58, 3) := by decide +kernel
theorem dX0_ratio_5 : decode cX0_ratio 5 = .ok (.iload_n 2, 1) := by decide +kernel
theorem dX0_ratio_6 : decode cX0_ratio 6 = .ok (.iconst 3, 1) := by decide +kernel
theorem dX0_ratio_7 : decode cX0_ratio 7 = .ok (.invokestatic 58, 3) := by decide +kernel
theorem dX0_ratio_10 : decode cX0_ratio 10 = .ok (.iload_n 3, 1) := by decide +kernel
theorem dX0_ratio_11 : decode cX0_ratio 11 = .ok (.iconst 0, 1) := by decide +kernel
theorem dX0_ratio_12 : decode cX0_ratio 12 = .ok (.sipush 200, 3) := by decide +kernel
theorem dX0_ratio_15 : decode cX0_ratio 15 = .ok (.invokestatic 43, 3) := by decide +kernel
theorem dX0_ratio_18 : decode cX0_ratio 18 = .ok (.aload_n 0, 1) := by decide +kernel
theorem dX0_ratio_19 : decode cX0_ratio 19 = .ok (.getfield 36, 3) := by decide +kernel
theorem dX0_ratio_22 : decode cX0_ratio 22 = .ok (.iload_n 1, 1) := by decide +kernel
theorem dX0_ratio_23 : decode cX0_ratio 23 = .ok (.aaload, 1) := by decide +kernel
theorem dX0_ratio_24 : decode cX0_ratio 24 = .ok (.iload_n 2, 1) := by decide +kernel
theorem dX0_ratio_25 : decode cX0_ratio 25 = .ok (.iaload, 1) := by decide +kernel
theorem dX0_ratio_26 : decode cX0_ratio 26 = .ok (.istore 4, 2) := by decide +kernel
theorem dX0_ratio_28 : decode cX0_ratio 28 = .ok (.aload_n 0, 1) := by decide +kernel
theorem dX0_ratio_29 : decode cX0_ratio 29 = .ok (.getfield 36, 3) := by decide +kernel
theorem dX0_ratio_32 : decode cX0_ratio 32 = .ok (.iload_n 1, 1) := by decide +kernel
theorem dX0_ratio_33 : decode cX0_ratio 33 = .ok (.aaload, 1) := by decide +kernel
theorem dX0_ratio_34 : decode cX0_ratio 34 = .ok (.iload_n 2, 1) := by decide +kernel
theorem dX0_ratio_35 : decode cX0_ratio 35 = .ok (.iload_n 3, 1) := by decide +kernel
theorem dX0_ratio_36 : decode cX0_ratio 36 = .ok (.iastore, 1) := by decide +kernel
theorem dX0_ratio_37 : decode cX0_ratio 37 = .ok (.iload 4, 2) := by decide +kernel
theorem dX0_ratio_39 : decode cX0_ratio 39 = .ok (.ireturn, 1) := by decide +kernel
set_option maxRecDepth 20000 in
theorem ggX0_burden_X0_needIndex : GoodIn wsX0_burden wsX0_needIndex := goodIn_ca (goodIn_r _ [7, 8, 9] (by decide +kernel) (by decide +kernel)) (goodIn_sub (fun _ h => List.mem_cons_of_mem _ (List.mem_append_right _ h)) (by decide +kernel))
set_option maxRecDepth 20000 in
theorem gX0_burden_X0_needIndex : GoodIn wsX0_burden (va_wsS RX0 58 yX0_needIndex wsX0_needIndex) := goodIn_app (goodIn_of _ (by decide +kernel)) ggX0_burden_X0_needIndex
set_option maxRecDepth 20000 in
theorem ggX0_burden_X0_burdenOfUnits : GoodIn wsX0_burden wsX0_burdenOfUnits := goodIn_r _ [13, 14, 15, 16, 17, 6, 18, 19, 20, 21, 22, 23, 24, 25, 26, 27, 28, 29, 30, 31, 32, 33, 34, 35, 36] (by decide +kernel) (by decide +kernel)
set_option maxRecDepth 20000 in
theorem gX0_burden_X0_burdenOfUnits : GoodIn wsX0_burden (wsV RX0 101 RX0 yX0_burdenOfUnits wsX0_burdenOfUnits) := goodIn_app (goodIn_of _ (by decide +kernel)) ggX0_burden_X0_burdenOfUnits
theorem dX0_burden_0 : decode cX0_burden 0 = .ok (.iload_n 1, 1) := by decide +kernel
theorem dX0_burden_1 : decode cX0_burden 1 = .ok (.aload_n 0, 1) := by decide +kernel
theorem dX0_burden_2 : decode cX0_burden 2 = .ok (.getfield 55, 3) := by decide +kernel
theorem dX0_burden_5 : decode cX0_burden 5 = .ok (.invokestatic 58, 3) := by decide +kernel
theorem dX0_burden_8 : decode cX0_burden 8 = .ok (.lconst 0, 1) := by decide +kernel
theorem dX0_burden_9 : decode cX0_burden 9 = .ok (.lstore_n 2, 1) := by decide +kernel
theorem dX0_burden_10 : decode cX0_burden 10 = .ok (.iconst 0, 1) := by decide +kernel
theorem dX0_burden_11 : decode cX0_burden 11 = .ok (.istore 4, 2) := by decide +kernel
theorem dX0_burden_13 : decode cX0_burden 13 = .ok (.iload 4, 2) := by decide +kernel
theorem dX0_burden_15 : decode cX0_burden 15 = .ok (.aload_n 0, 1) := by decide +kernel
theorem dX0_burden_16 : decode cX0_burden 16 = .ok (.getfield 47, 3) := by decide +kernel
theorem dX0_burden_19 : decode cX0_burden 19 = .ok (.if_icmp .ge 26, 3) := by decide +kernel
theorem dX0_burden_22 : decode cX0_burden 22 = .ok (.lload_n 2, 1) := by decide +kernel
theorem dX0_burden_23 : decode cX0_burden 23 = .ok (.aload_n 0, 1) := by decide +kernel
theorem dX0_burden_24 : decode cX0_burden 24 = .ok (.iload 4, 2) := by decide +kernel
theorem dX0_burden_26 : decode cX0_burden 26 = .ok (.iload_n 1, 1) := by decide +kernel
theorem dX0_burden_27 : decode cX0_burden 27 = .ok (.aload_n 0, 1) := by decide +kernel
theorem dX0_burden_28 : decode cX0_burden 28 = .ok (.getfield 16, 3) := by decide +kernel
theorem dX0_burden_31 : decode cX0_burden 31 = .ok (.iload 4, 2) := by decide +kernel
theorem dX0_burden_33 : decode cX0_burden 33 = .ok (.iaload, 1) := by decide +kernel
theorem dX0_burden_34 : decode cX0_burden 34 = .ok (.invokevirtual 101, 3) := by decide +kernel
theorem dX0_burden_37 : decode cX0_burden 37 = .ok (.ladd, 1) := by decide +kernel
theorem dX0_burden_38 : decode cX0_burden 38 = .ok (.lstore_n 2, 1) := by decide +kernel
theorem dX0_burden_39 : decode cX0_burden 39 = .ok (.iinc 4 1, 3) := by decide +kernel
theorem dX0_burden_42 : decode cX0_burden 42 = .ok (.goto (-29), 3) := by decide +kernel
theorem dX0_burden_45 : decode cX0_burden 45 = .ok (.lload_n 2, 1) := by decide +kernel
theorem dX0_burden_46 : decode cX0_burden 46 = .ok (.lreturn, 1) := by decide +kernel
set_option maxRecDepth 20000 in
theorem ggX0_trade_X0_needTwoWells : GoodIn wsX0_trade wsX0_needTwoWells := goodIn_ca (goodIn_ca (goodIn_r _ [6, 7, 8, 9, 10, 11, 5, 12, 13, 14, 49, 50, 51, 52, 53, 54, 55, 56, 57, 58, 59, 60] (by decide +kernel) (by decide +kernel)) (goodIn_sub (fun _ h => List.mem_cons_of_mem _ (List.mem_append_left _ (List.mem_append_left _ (List.mem_append_right _ h)))) (by decide +kernel))) (goodIn_sub (fun _ h => List.mem_cons_of_mem _ (List.mem_append_left _ (List.mem_append_right _ h))) (by decide +kernel))
set_option maxRecDepth 20000 in
theorem gX0_trade_X0_needTwoWells : GoodIn wsX0_trade (wsV RX0 104 RX0 yX0_needTwoWells wsX0_needTwoWells) := goodIn_app (goodIn_of _ (by decide +kernel)) ggX0_trade_X0_needTwoWells
set_option maxRecDepth 20000 in
theorem ggX0_trade_X0_needRange : GoodIn wsX0_trade wsX0_needRange := goodIn_ca (goodIn_r _ [17, 7, 8] (by decide +kernel) (by decide +kernel)) (goodIn_sub (fun _ h => List.mem_cons_of_mem _ (List.mem_append_left _ (List.mem_append_left _ (List.mem_append_right _ h)))) (by decide +kernel))
set_option maxRecDepth 20000 in
theorem gX0_trade_X0_needRange : GoodIn wsX0_trade (va_wsS RX0 43 yX0_needRange wsX0_needRange) := goodIn_app (goodIn_of _ (by decide +kernel)) ggX0_trade_X0_needRange
set_option maxRecDepth 20000 in
theorem ggX0_trade_X0_canTrade : GoodIn wsX0_trade wsX0_canTrade := goodIn_r _ [21, 1, 22, 23, 24, 25, 5, 26, 27, 28, 29, 30, 31, 32, 33, 34, 35, 36, 37, 38, 39, 40, 41, 42, 43, 49, 50, 51, 52, 53, 54, 55, 56, 57, 58, 59, 60] (by decide +kernel) (by decide +kernel)
set_option maxRecDepth 20000 in
theorem gX0_trade_X0_canTrade : GoodIn wsX0_trade (wsV RX0 107 RX0 yX0_canTrade wsX0_canTrade) := goodIn_app (goodIn_of _ (by decide +kernel)) ggX0_trade_X0_canTrade
set_option maxRecDepth 20000 in
theorem ggX0_trade_X0_needAllowed : GoodIn wsX0_trade wsX0_needAllowed := goodIn_ca (goodIn_r _ [46, 47, 48] (by decide +kernel) (by decide +kernel)) (goodIn_sub (fun _ h => List.mem_cons_of_mem _ (List.mem_append_right _ h)) (by decide +kernel))
set_option maxRecDepth 20000 in
theorem gX0_trade_X0_needAllowed : GoodIn wsX0_trade (va_wsS RX0 51 yX0_needAllowed wsX0_needAllowed) := goodIn_app (goodIn_of _ (by decide +kernel)) ggX0_trade_X0_needAllowed
set_option maxRecDepth 20000 in
theorem ggX0_trade_X0_unitsGot : GoodIn wsX0_trade wsX0_unitsGot := goodIn_r _ [26, 27, 28, 49, 50, 51, 52, 53, 54, 55, 56, 57, 58, 59, 60] (by decide +kernel) (by decide +kernel)
set_option maxRecDepth 20000 in
theorem gX0_trade_X0_unitsGot : GoodIn wsX0_trade (wsV RX0 111 RX0 yX0_unitsGot wsX0_unitsGot) := goodIn_app (goodIn_of _ (by decide +kernel)) ggX0_trade_X0_unitsGot
theorem dX0_trade_0 : decode cX0_trade 0 = .ok (.aload_n 0, 1) := by decide +kernel
theorem dX0_trade_1 : decode cX0_trade 1 = .ok (.iload_n 1, 1) := by decide +kernel
theorem dX0_trade_2 : decode cX0_trade 2 = .ok (.iload_n 2, 1) := by decide +kernel
theorem dX0_trade_3 : decode cX0_trade 3 = .ok (.invokevirtual 104, 3) := by decide +kernel
theorem dX0_trade_6 : decode cX0_trade 6 = .ok (.iload_n 3, 1) := by decide +kernel
theorem dX0_trade_7 : decode cX0_trade 7 = .ok (.iconst 1, 1) := by decide +kernel
theorem dX0_trade_8 : decode cX0_trade 8 = .ok (.sipush 5000, 3) := by decide +kernel
theorem dX0_trade_11 : decode cX0_trade 11 = .ok (.invokestatic 43, 3) := by decide +kernel
theorem dX0_trade_14 : decode cX0_trade 14 = .ok (.aload_n 0, 1) := by decide +kernel
theorem dX0_trade_15 : decode cX0_trade 15 = .ok (.iload_n 1, 1) := by decide +kernel
theorem dX0_trade_16 : decode cX0_trade 16 = .ok (.iload_n 2, 1) := by decide +kernel
theorem dX0_trade_17 : decode cX0_trade 17 = .ok (.iload_n 3, 1) := by decide +kernel
theorem dX0_trade_18 : decode cX0_trade 18 = .ok (.invokevirtual 107, 3) := by decide +kernel
theorem dX0_trade_21 : decode cX0_trade 21 = .ok (.invokestatic 51, 3) := by decide +kernel
theorem dX0_trade_24 : decode cX0_trade 24 = .ok (.aload_n 0, 1) := by decide +kernel
theorem dX0_trade_25 : decode cX0_trade 25 = .ok (.iload_n 1, 1) := by decide +kernel
theorem dX0_trade_26 : decode cX0_trade 26 = .ok (.iload_n 2, 1) := by decide +kernel
theorem dX0_trade_27 : decode cX0_trade 27 = .ok (.iload_n 3, 1) := by decide +kernel
theorem dX0_trade_28 : decode cX0_trade 28 = .ok (.invokevirtual 111, 3) := by decide +kernel
theorem dX0_trade_31 : decode cX0_trade 31 = .ok (.istore 4, 2) := by decide +kernel
theorem dX0_trade_33 : decode cX0_trade 33 = .ok (.aload_n 0, 1) := by decide +kernel
theorem dX0_trade_34 : decode cX0_trade 34 = .ok (.getfield 16, 3) := by decide +kernel
theorem dX0_trade_37 : decode cX0_trade 37 = .ok (.iload_n 1, 1) := by decide +kernel
theorem dX0_trade_38 : decode cX0_trade 38 = .ok (.dup2, 1) := by decide +kernel
theorem dX0_trade_39 : decode cX0_trade 39 = .ok (.iaload, 1) := by decide +kernel
theorem dX0_trade_40 : decode cX0_trade 40 = .ok (.iload_n 3, 1) := by decide +kernel
theorem dX0_trade_41 : decode cX0_trade 41 = .ok (.isub, 1) := by decide +kernel
theorem dX0_trade_42 : decode cX0_trade 42 = .ok (.iastore, 1) := by decide +kernel
theorem dX0_trade_43 : decode cX0_trade 43 = .ok (.aload_n 0, 1) := by decide +kernel
theorem dX0_trade_44 : decode cX0_trade 44 = .ok (.getfield 16, 3) := by decide +kernel
theorem dX0_trade_47 : decode cX0_trade 47 = .ok (.iload_n 2, 1) := by decide +kernel
theorem dX0_trade_48 : decode cX0_trade 48 = .ok (.dup2, 1) := by decide +kernel
theorem dX0_trade_49 : decode cX0_trade 49 = .ok (.iaload, 1) := by decide +kernel
theorem dX0_trade_50 : decode cX0_trade 50 = .ok (.iload 4, 2) := by decide +kernel
theorem dX0_trade_52 : decode cX0_trade 52 = .ok (.iadd, 1) := by decide +kernel
theorem dX0_trade_53 : decode cX0_trade 53 = .ok (.iastore, 1) := by decide +kernel
theorem dX0_trade_54 : decode cX0_trade 54 = .ok (.iload 4, 2) := by decide +kernel
theorem dX0_trade_56 : decode cX0_trade 56 = .ok (.ireturn, 1) := by decide +kernel
set_option maxRecDepth 20000 in
theorem ggX0_mostTraded_X0_needTwoWells : GoodIn wsX0_mostTraded wsX0_needTwoWells := goodIn_ca (goodIn_ca (goodIn_r _ [10, 11, 12, 13, 14, 15, 9, 16, 17, 18, 44, 45, 46, 47, 48, 49, 50, 51, 52, 53, 54, 55] (by decide +kernel) (by decide +kernel)) (goodIn_sub (fun _ h => List.mem_cons_of_mem _ (List.mem_append_left _ (List.mem_append_right _ h))) (by decide +kernel))) (goodIn_sub (fun _ h => List.mem_cons_of_mem _ (List.mem_append_right _ h)) (by decide +kernel))
set_option maxRecDepth 20000 in
theorem gX0_mostTraded_X0_needTwoWells : GoodIn wsX0_mostTraded (wsV RX0 104 RX0 yX0_needTwoWells wsX0_needTwoWells) := goodIn_app (goodIn_of _ (by decide +kernel)) ggX0_mostTraded_X0_needTwoWells
set_option maxRecDepth 20000 in
theorem ggX0_mostTraded_X0_canTrade : GoodIn wsX0_mostTraded wsX0_canTrade := goodIn_r _ [22, 1, 23, 24, 25, 26, 9, 27, 28, 29, 30, 31, 32, 33, 34, 35, 36, 37, 38, 39, 40, 41, 42, 4, 43, 44, 45, 46, 47, 48, 49, 50, 51, 52, 53, 54, 55] (by decide +kernel) (by decide +kernel)
set_option maxRecDepth 20000 in
theorem gX0_mostTraded_X0_canTrade : GoodIn wsX0_mostTraded (wsV RX0 107 RX0 yX0_canTrade wsX0_canTrade) := goodIn_app (goodIn_of _ (by decide +kernel)) ggX0_mostTraded_X0_canTrade
theorem dX0_mostTraded_0 : decode cX0_mostTraded 0 = .ok (.aload_n 0, 1) := by decide +kernel
theorem dX0_mostTraded_1 : decode cX0_mostTraded 1 = .ok (.iload_n 1, 1) := by decide +kernel
theorem dX0_mostTraded_2 : decode cX0_mostTraded 2 = .ok (.iload_n 2, 1) := by decide +kernel
theorem dX0_mostTraded_3 : decode cX0_mostTraded 3 = .ok (.invokevirtual 104, 3) := by decide +kernel
theorem dX0_mostTraded_6 : decode cX0_mostTraded 6 = .ok (.aload_n 0, 1) := by decide +kernel
theorem dX0_mostTraded_7 : decode cX0_mostTraded 7 = .ok (.getfield 16, 3) := by decide +kernel
theorem dX0_mostTraded_10 : decode cX0_mostTraded 10 = .ok (.iload_n 1, 1) := by decide +kernel
theorem dX0_mostTraded_11 : decode cX0_mostTraded 11 = .ok (.iaload, 1) := by decide +kernel
theorem dX0_mostTraded_12 : decode cX0_mostTraded 12 = .ok (.sipush 5000, 3) := by decide +kernel
theorem dX0_mostTraded_15 : decode cX0_mostTraded 15 = .ok (.invokestatic 62, 3) := by decide +kernel
theorem dX0_mostTraded_18 : decode cX0_mostTraded 18 = .ok (.istore_n 3, 1) := by decide +kernel
theorem dX0_mostTraded_19 : decode cX0_mostTraded 19 = .ok (.iload_n 3, 1) := by decide +kernel
theorem dX0_mostTraded_20 : decode cX0_mostTraded 20 = .ok (.ifCond .le 21, 3) := by decide +kernel
theorem dX0_mostTraded_23 : decode cX0_mostTraded 23 = .ok (.aload_n 0, 1) := by decide +kernel
theorem dX0_mostTraded_24 : decode cX0_mostTraded 24 = .ok (.iload_n 1, 1) := by decide +kernel
theorem dX0_mostTraded_25 : decode cX0_mostTraded 25 = .ok (.iload_n 2, 1) := by decide +kernel
theorem dX0_mostTraded_26 : decode cX0_mostTraded 26 = .ok (.iload_n 3, 1) := by decide +kernel
theorem dX0_mostTraded_27 : decode cX0_mostTraded 27 = .ok (.invokevirtual 107, 3) := by decide +kernel
theorem dX0_mostTraded_30 : decode cX0_mostTraded 30 = .ok (.ifCond .eq 5, 3) := by decide +kernel
theorem dX0_mostTraded_33 : decode cX0_mostTraded 33 = .ok (.iload_n 3, 1) := by decide +kernel
theorem dX0_mostTraded_34 : decode cX0_mostTraded 34 = .ok (.ireturn, 1) := by decide +kernel
theorem dX0_mostTraded_35 : decode cX0_mostTraded 35 = .ok (.iinc 3 (-1), 3) := by decide +kernel
theorem dX0_mostTraded_38 : decode cX0_mostTraded 38 = .ok (.goto (-19), 3) := by decide +kernel
theorem dX0_mostTraded_41 : decode cX0_mostTraded 41 = .ok (.iconst 0, 1) := by decide +kernel
theorem dX0_mostTraded_42 : decode cX0_mostTraded 42 = .ok (.ireturn, 1) := by decide +kernel
theorem dX0_needIndex_0 : decode cX0_needIndex 0 = .ok (.iload_n 0, 1) := by decide +kernel
theorem dX0_needIndex_1 : decode cX0_needIndex 1 = .ok (.ifCond .lt 8, 3) := by decide +kernel
theorem dX0_needIndex_4 : decode cX0_needIndex 4 = .ok (.iload_n 0, 1) := by decide +kernel
theorem dX0_needIndex_5 : decode cX0_needIndex 5 = .ok (.iload_n 1, 1) := by decide +kernel
theorem dX0_needIndex_6 : decode cX0_needIndex 6 = .ok (.if_icmp .lt 13, 3) := by decide +kernel
theorem dX0_needIndex_9 : decode cX0_needIndex 9 = .ok (.new 114, 3) := by decide +kernel
theorem dX0_needIndex_12 : decode cX0_needIndex 12 = .ok (.dup, 1) := by decide +kernel
theorem dX0_needIndex_13 : decode cX0_needIndex 13 = .ok (.ldc 116, 2) := by decide +kernel
theorem dX0_needIndex_15 : decode cX0_needIndex 15 = .ok (.invokespecial 118, 3) := by decide +kernel
theorem dX0_needIndex_18 : decode cX0_needIndex 18 = .ok (.athrow, 1) := by decide +kernel
theorem dX0_needIndex_19 : decode cX0_needIndex 19 = .ok (.return_, 1) := by decide +kernel
theorem dX0_needRange_0 : decode cX0_needRange 0 = .ok (.iload_n 0, 1) := by decide +kernel
theorem dX0_needRange_1 : decode cX0_needRange 1 = .ok (.iload_n 1, 1) := by decide +kernel
theorem dX0_needRange_2 : decode cX0_needRange 2 = .ok (.if_icmp .lt 8, 3) := by decide +kernel
theorem dX0_needRange_5 : decode cX0_needRange 5 = .ok (.iload_n 0, 1) := by decide +kernel
theorem dX0_needRange_6 : decode cX0_needRange 6 = .ok (.iload_n 2, 1) := by decide +kernel
theorem dX0_needRange_7 : decode cX0_needRange 7 = .ok (.if_icmp .le 13, 3) := by decide +kernel
theorem dX0_needRange_10 : decode cX0_needRange 10 = .ok (.new 121, 3) := by decide +kernel
theorem dX0_needRange_13 : decode cX0_needRange 13 = .ok (.dup, 1) := by decide +kernel
theorem dX0_needRange_14 : decode cX0_needRange 14 = .ok (.ldc 123, 2) := by decide +kernel
theorem dX0_needRange_16 : decode cX0_needRange 16 = .ok (.invokespecial 125, 3) := by decide +kernel
theorem dX0_needRange_19 : decode cX0_needRange 19 = .ok (.athrow, 1) := by decide +kernel
theorem dX0_needRange_20 : decode cX0_needRange 20 = .ok (.return_, 1) := by decide +kernel
theorem dX0_needAllowed_0 : decode cX0_needAllowed 0 = .ok (.iload_n 0, 1) := by decide +kernel
theorem dX0_needAllowed_1 : decode cX0_needAllowed 1 = .ok (.ifCond .ne 13, 3) := by decide +kernel
theorem dX0_needAllowed_4 : decode cX0_needAllowed 4 = .ok (.new 126, 3) := by decide +kernel
theorem dX0_needAllowed_7 : decode cX0_needAllowed 7 = .ok (.dup, 1) := by decide +kernel
theorem dX0_needAllowed_8 : decode cX0_needAllowed 8 = .ok (.ldc 128, 2) := by decide +kernel
theorem dX0_needAllowed_10 : decode cX0_needAllowed 10 = .ok (.invokespecial 130, 3) := by decide +kernel
theorem dX0_needAllowed_13 : decode cX0_needAllowed 13 = .ok (.athrow, 1) := by decide +kernel
theorem dX0_needAllowed_14 : decode cX0_needAllowed 14 = .ok (.return_, 1) := by decide +kernel
set_option maxRecDepth 20000 in
theorem ggX0_needTwoWells_X0_needIndex : GoodIn wsX0_needTwoWells wsX0_needIndex := goodIn_ca (goodIn_r _ [7, 8, 9] (by decide +kernel) (by decide +kernel)) (goodIn_sub (fun _ h => List.mem_cons_of_mem _ (List.mem_append_right _ h)) (by decide +kernel))
set_option maxRecDepth 20000 in
theorem gX0_needTwoWells_X0_needIndex : GoodIn wsX0_needTwoWells (va_wsS RX0 58 yX0_needIndex wsX0_needIndex) := goodIn_app (goodIn_of _ (by decide +kernel)) ggX0_needTwoWells_X0_needIndex
theorem dX0_needTwoWells_0 : decode cX0_needTwoWells 0 = .ok (.iload_n 1, 1) := by decide +kernel
theorem dX0_needTwoWells_1 : decode cX0_needTwoWells 1 = .ok (.aload_n 0, 1) := by decide +kernel
theorem dX0_needTwoWells_2 : decode cX0_needTwoWells 2 = .ok (.getfield 47, 3) := by decide +kernel
theorem dX0_needTwoWells_5 : decode cX0_needTwoWells 5 = .ok (.invokestatic 58, 3) := by decide +kernel
theorem dX0_needTwoWells_8 : decode cX0_needTwoWells 8 = .ok (.iload_n 2, 1) := by decide +kernel
theorem dX0_needTwoWells_9 : decode cX0_needTwoWells 9 = .ok (.aload_n 0, 1) := by decide +kernel
theorem dX0_needTwoWells_10 : decode cX0_needTwoWells 10 = .ok (.getfield 47, 3) := by decide +kernel
theorem dX0_needTwoWells_13 : decode cX0_needTwoWells 13 = .ok (.invokestatic 58, 3) := by decide +kernel
theorem dX0_needTwoWells_16 : decode cX0_needTwoWells 16 = .ok (.iload_n 1, 1) := by decide +kernel
theorem dX0_needTwoWells_17 : decode cX0_needTwoWells 17 = .ok (.iload_n 2, 1) := by decide +kernel
theorem dX0_needTwoWells_18 : decode cX0_needTwoWells 18 = .ok (.if_icmp .ne 13, 3) := by decide +kernel
theorem dX0_needTwoWells_21 : decode cX0_needTwoWells 21 = .ok (.new 121, 3) := by decide +kernel
theorem dX0_needTwoWells_24 : decode cX0_needTwoWells 24 = .ok (.dup, 1) := by decide +kernel
theorem dX0_needTwoWells_25 : decode cX0_needTwoWells 25 = .ok (.ldc 131, 2) := by decide +kernel
theorem dX0_needTwoWells_27 : decode cX0_needTwoWells 27 = .ok (.invokespecial 125, 3) := by decide +kernel
theorem dX0_needTwoWells_30 : decode cX0_needTwoWells 30 = .ok (.athrow, 1) := by decide +kernel
theorem dX0_needTwoWells_31 : decode cX0_needTwoWells 31 = .ok (.return_, 1) := by decide +kernel
theorem dX0_unitsOfYear_0 : decode cX0_unitsOfYear 0 = .ok (.iload_n 2, 1) := by decide +kernel
theorem dX0_unitsOfYear_1 : decode cX0_unitsOfYear 1 = .ok (.bipush 12, 2) := by decide +kernel
theorem dX0_unitsOfYear_3 : decode cX0_unitsOfYear 3 = .ok (.imul, 1) := by decide +kernel
theorem dX0_unitsOfYear_4 : decode cX0_unitsOfYear 4 = .ok (.istore_n 3, 1) := by decide +kernel
theorem dX0_unitsOfYear_5 : decode cX0_unitsOfYear 5 = .ok (.iconst 0, 1) := by decide +kernel
theorem dX0_unitsOfYear_6 : decode cX0_unitsOfYear 6 = .ok (.istore 4, 2) := by decide +kernel
theorem dX0_unitsOfYear_8 : decode cX0_unitsOfYear 8 = .ok (.iload_n 3, 1) := by decide +kernel
theorem dX0_unitsOfYear_9 : decode cX0_unitsOfYear 9 = .ok (.istore 5, 2) := by decide +kernel
theorem dX0_unitsOfYear_11 : decode cX0_unitsOfYear 11 = .ok (.iload 5, 2) := by decide +kernel
theorem dX0_unitsOfYear_13 : decode cX0_unitsOfYear 13 = .ok (.iload_n 3, 1) := by decide +kernel
theorem dX0_unitsOfYear_14 : decode cX0_unitsOfYear 14 = .ok (.bipush 12, 2) := by decide +kernel
theorem dX0_unitsOfYear_16 : decode cX0_unitsOfYear 16 = .ok (.iadd, 1) := by decide +kernel
theorem dX0_unitsOfYear_17 : decode cX0_unitsOfYear 17 = .ok (.if_icmp .ge 23, 3) := by decide +kernel
theorem dX0_unitsOfYear_20 : decode cX0_unitsOfYear 20 = .ok (.iload 4, 2) := by decide +kernel
theorem dX0_unitsOfYear_22 : decode cX0_unitsOfYear 22 = .ok (.aload_n 0, 1) := by decide +kernel
theorem dX0_unitsOfYear_23 : decode cX0_unitsOfYear 23 = .ok (.getfield 21, 3) := by decide +kernel
theorem dX0_unitsOfYear_26 : decode cX0_unitsOfYear 26 = .ok (.iload_n 1, 1) := by decide +kernel
theorem dX0_unitsOfYear_27 : decode cX0_unitsOfYear 27 = .ok (.aaload, 1) := by decide +kernel
theorem dX0_unitsOfYear_28 : decode cX0_unitsOfYear 28 = .ok (.iload 5, 2) := by decide +kernel
theorem dX0_unitsOfYear_30 : decode cX0_unitsOfYear 30 = .ok (.iaload, 1) := by decide +kernel
theorem dX0_unitsOfYear_31 : decode cX0_unitsOfYear 31 = .ok (.iadd, 1) := by decide +kernel
theorem dX0_unitsOfYear_32 : decode cX0_unitsOfYear 32 = .ok (.istore 4, 2) := by decide +kernel
theorem dX0_unitsOfYear_34 : decode cX0_unitsOfYear 34 = .ok (.iinc 5 1, 3) := by decide +kernel
theorem dX0_unitsOfYear_37 : decode cX0_unitsOfYear 37 = .ok (.goto (-26), 3) := by decide +kernel
theorem dX0_unitsOfYear_40 : decode cX0_unitsOfYear 40 = .ok (.iload 4, 2) := by decide +kernel
theorem dX0_unitsOfYear_42 : decode cX0_unitsOfYear 42 = .ok (.ireturn, 1) := by decide +kernel
theorem dX0_reachOf_0 : decode cX0_reachOf 0 = .ok (.aload_n 0, 1) := by decide +kernel
theorem dX0_reachOf_1 : decode cX0_reachOf 1 = .ok (.getfield 9, 3) := by decide +kernel
theorem dX0_reachOf_4 : decode cX0_reachOf 4 = .ok (.iload_n 1, 1) := by decide +kernel
theorem dX0_reachOf_5 : decode cX0_reachOf 5 = .ok (.iaload, 1) := by decide +kernel
theorem dX0_reachOf_6 : decode cX0_reachOf 6 = .ok (.aload_n 0, 1) := by decide +kernel
theorem dX0_reachOf_7 : decode cX0_reachOf 7 = .ok (.getfield 24, 3) := by decide +kernel
theorem dX0_reachOf_10 : decode cX0_reachOf 10 = .ok (.iload_n 2, 1) := by decide +kernel
theorem dX0_reachOf_11 : decode cX0_reachOf 11 = .ok (.iaload, 1) := by decide +kernel
theorem dX0_reachOf_12 : decode cX0_reachOf 12 = .ok (.isub, 1) := by decide +kernel
theorem dX0_reachOf_13 : decode cX0_reachOf 13 = .ok (.invokestatic 133, 3) := by decide +kernel
theorem dX0_reachOf_16 : decode cX0_reachOf 16 = .ok (.bipush 10, 2) := by decide +kernel
theorem dX0_reachOf_18 : decode cX0_reachOf 18 = .ok (.idiv, 1) := by decide +kernel
theorem dX0_reachOf_19 : decode cX0_reachOf 19 = .ok (.ireturn, 1) := by decide +kernel
theorem dX0_tableNumber_0 : decode cX0_tableNumber 0 = .ok (.iload_n 1, 1) := by decide +kernel
theorem dX0_tableNumber_1 : decode cX0_tableNumber 1 = .ok (.iconst 5, 1) := by decide +kernel
theorem dX0_tableNumber_2 : decode cX0_tableNumber 2 = .ok (.if_icmp .ge 14, 3) := by decide +kernel
theorem dX0_tableNumber_5 : decode cX0_tableNumber 5 = .ok (.aload_n 0, 1) := by decide +kernel
theorem dX0_tableNumber_6 : decode cX0_tableNumber 6 = .ok (.getfield 30, 3) := by decide +kernel
theorem dX0_tableNumber_9 : decode cX0_tableNumber 9 = .ok (.iload_n 1, 1) := by decide +kernel
theorem dX0_tableNumber_10 : decode cX0_tableNumber 10 = .ok (.aaload, 1) := by decide +kernel
theorem dX0_tableNumber_11 : decode cX0_tableNumber 11 = .ok (.iload_n 2, 1) := by decide +kernel
theorem dX0_tableNumber_12 : decode cX0_tableNumber 12 = .ok (.iaload, 1) := by decide +kernel
theorem dX0_tableNumber_13 : decode cX0_tableNumber 13 = .ok (.goto 4, 3) := by decide +kernel
theorem dX0_tableNumber_16 : decode cX0_tableNumber 16 = .ok (.iconst 0, 1) := by decide +kernel
theorem dX0_tableNumber_17 : decode cX0_tableNumber 17 = .ok (.ireturn, 1) := by decide +kernel
set_option maxRecDepth 20000 in
theorem ggX0_loweredIn_X0_reachOf : GoodIn wsX0_loweredIn wsX0_reachOf := goodIn_r _ [7, 8, 9, 10, 11, 12, 13, 19, 20, 21, 22, 23, 24, 25, 26, 27, 28, 29, 30] (by decide +kernel) (by decide +kernel)
set_option maxRecDepth 20000 in
theorem gX0_loweredIn_X0_reachOf : GoodIn wsX0_loweredIn (wsV RX0 78 RX0 yX0_reachOf wsX0_reachOf) := goodIn_app (goodIn_of _ (by decide +kernel)) ggX0_loweredIn_X0_reachOf
set_option maxRecDepth 20000 in
theorem ggX0_loweredIn_X0_tableNumber : GoodIn wsX0_loweredIn wsX0_tableNumber := goodIn_r _ [17, 18, 19, 20, 21, 22, 23, 24, 25, 26, 27, 28, 29, 30] (by decide +kernel) (by decide +kernel)
set_option maxRecDepth 20000 in
theorem gX0_loweredIn_X0_tableNumber : GoodIn wsX0_loweredIn (wsV RX0 137 RX0 yX0_tableNumber wsX0_tableNumber) := goodIn_app (goodIn_of _ (by decide +kernel)) ggX0_loweredIn_X0_tableNumber
theorem dX0_loweredIn_0 : decode cX0_loweredIn 0 = .ok (.lconst 0, 1) := by decide +kernel
theorem dX0_loweredIn_1 : decode cX0_loweredIn 1 = .ok (.lstore_n 3, 1) := by decide +kernel
theorem dX0_loweredIn_2 : decode cX0_loweredIn 2 = .ok (.iconst 0, 1) := by decide +kernel
theorem dX0_loweredIn_3 : decode cX0_loweredIn 3 = .ok (.istore 5, 2) := by decide +kernel
theorem dX0_loweredIn_5 : decode cX0_loweredIn 5 = .ok (.iload 5, 2) := by decide +kernel
theorem dX0_loweredIn_7 : decode cX0_loweredIn 7 = .ok (.aload_n 0, 1) := by decide +kernel
theorem dX0_loweredIn_8 : decode cX0_loweredIn 8 = .ok (.getfield 47, 3) := by decide +kernel
theorem dX0_loweredIn_11 : decode cX0_loweredIn 11 = .ok (.if_icmp .ge 66, 3) := by decide +kernel
theorem dX0_loweredIn_14 : decode cX0_loweredIn 14 = .ok (.aload_n 0, 1) := by decide +kernel
theorem dX0_loweredIn_15 : decode cX0_loweredIn 15 = .ok (.iload 5, 2) := by decide +kernel
theorem dX0_loweredIn_17 : decode cX0_loweredIn 17 = .ok (.iload_n 1, 1) := by decide +kernel
theorem dX0_loweredIn_18 : decode cX0_loweredIn 18 = .ok (.invokevirtual 78, 3) := by decide +kernel
theorem dX0_loweredIn_21 : decode cX0_loweredIn 21 = .ok (.istore 6, 2) := by decide +kernel
theorem dX0_loweredIn_23 : decode cX0_loweredIn 23 = .ok (.iconst 0, 1) := by decide +kernel
theorem dX0_loweredIn_24 : decode cX0_loweredIn 24 = .ok (.istore 7, 2) := by decide +kernel
theorem dX0_loweredIn_26 : decode cX0_loweredIn 26 = .ok (.iload 7, 2) := by decide +kernel
theorem dX0_loweredIn_28 : decode cX0_loweredIn 28 = .ok (.bipush 12, 2) := by decide +kernel
theorem dX0_loweredIn_30 : decode cX0_loweredIn 30 = .ok (.if_icmp .ge 41, 3) := by decide +kernel
theorem dX0_loweredIn_33 : decode cX0_loweredIn 33 = .ok (.iload 7, 2) := by decide +kernel
theorem dX0_loweredIn_35 : decode cX0_loweredIn 35 = .ok (.iload_n 2, 1) := by decide +kernel
theorem dX0_loweredIn_36 : decode cX0_loweredIn 36 = .ok (.if_icmp .gt 35, 3) := by decide +kernel
theorem dX0_loweredIn_39 : decode cX0_loweredIn 39 = .ok (.lload_n 3, 1) := by decide +kernel
theorem dX0_loweredIn_40 : decode cX0_loweredIn 40 = .ok (.aload_n 0, 1) := by decide +kernel
theorem dX0_loweredIn_41 : decode cX0_loweredIn 41 = .ok (.getfield 21, 3) := by decide +kernel
theorem dX0_loweredIn_44 : decode cX0_loweredIn 44 = .ok (.iload 5, 2) := by decide +kernel
theorem dX0_loweredIn_46 : decode cX0_loweredIn 46 = .ok (.aaload, 1) := by decide +kernel
theorem dX0_loweredIn_47 : decode cX0_loweredIn 47 = .ok (.iload_n 2, 1) := by decide +kernel
theorem dX0_loweredIn_48 : decode cX0_loweredIn 48 = .ok (.iload 7, 2) := by decide +kernel
theorem dX0_loweredIn_50 : decode cX0_loweredIn 50 = .ok (.isub, 1) := by decide +kernel
theorem dX0_loweredIn_51 : decode cX0_loweredIn 51 = .ok (.iaload, 1) := by decide +kernel
theorem dX0_loweredIn_52 : decode cX0_loweredIn 52 = .ok (.i2l, 1) := by decide +kernel
theorem dX0_loweredIn_53 : decode cX0_loweredIn 53 = .ok (.aload_n 0, 1) := by decide +kernel
theorem dX0_loweredIn_54 : decode cX0_loweredIn 54 = .ok (.iload 6, 2) := by decide +kernel
theorem dX0_loweredIn_56 : decode cX0_loweredIn 56 = .ok (.iload 7, 2) := by decide +kernel
theorem dX0_loweredIn_58 : decode cX0_loweredIn 58 = .ok (.invokevirtual 137, 3) := by decide +kernel
theorem dX0_loweredIn_61 : decode cX0_loweredIn 61 = .ok (.i2l, 1) := by decide +kernel
theorem dX0_loweredIn_62 : decode cX0_loweredIn 62 = .ok (.lmul, 1) := by decide +kernel
theorem dX0_loweredIn_63 : decode cX0_loweredIn 63 = .ok (.ladd, 1) := by decide +kernel
theorem dX0_loweredIn_64 : decode cX0_loweredIn 64 = .ok (.lstore_n 3, 1) := by decide +kernel
theorem dX0_loweredIn_65 : decode cX0_loweredIn 65 = .ok (.iinc 7 1, 3) := by decide +kernel
theorem dX0_loweredIn_68 : decode cX0_loweredIn 68 = .ok (.goto (-42), 3) := by decide +kernel
theorem dX0_loweredIn_71 : decode cX0_loweredIn 71 = .ok (.iinc 5 1, 3) := by decide +kernel
theorem dX0_loweredIn_74 : decode cX0_loweredIn 74 = .ok (.goto (-69), 3) := by decide +kernel
theorem dX0_loweredIn_77 : decode cX0_loweredIn 77 = .ok (.lload_n 3, 1) := by decide +kernel
theorem dX0_loweredIn_78 : decode cX0_loweredIn 78 = .ok (.lreturn, 1) := by decide +kernel
set_option maxRecDepth 20000 in
theorem ggX0_layPulse_X0_tableNumber : GoodIn wsX0_layPulse wsX0_tableNumber := goodIn_r _ [6, 7, 8, 9, 10, 11, 12, 13, 14, 15, 16, 17, 18, 19] (by decide +kernel) (by decide +kernel)
set_option maxRecDepth 20000 in
theorem gX0_layPulse_X0_tableNumber : GoodIn wsX0_layPulse (wsV RX0 137 RX0 yX0_tableNumber wsX0_tableNumber) := goodIn_app (goodIn_of _ (by decide +kernel)) ggX0_layPulse_X0_tableNumber
theorem dX0_layPulse_0 : decode cX0_layPulse 0 = .ok (.iconst 0, 1) := by decide +kernel
theorem dX0_layPulse_1 : decode cX0_layPulse 1 = .ok (.istore 4, 2) := by decide +kernel
theorem dX0_layPulse_3 : decode cX0_layPulse 3 = .ok (.iload 4, 2) := by decide +kernel
theorem dX0_layPulse_5 : decode cX0_layPulse 5 = .ok (.bipush 12, 2) := by decide +kernel
theorem dX0_layPulse_7 : decode cX0_layPulse 7 = .ok (.if_icmp .ge 41, 3) := by decide +kernel
theorem dX0_layPulse_10 : decode cX0_layPulse 10 = .ok (.iload_n 2, 1) := by decide +kernel
theorem dX0_layPulse_11 : decode cX0_layPulse 11 = .ok (.iload 4, 2) := by decide +kernel
theorem dX0_layPulse_13 : decode cX0_layPulse 13 = .ok (.iadd, 1) := by decide +kernel
theorem dX0_layPulse_14 : decode cX0_layPulse 14 = .ok (.bipush 36, 2) := by decide +kernel
theorem dX0_layPulse_16 : decode cX0_layPulse 16 = .ok (.if_icmp .ge 32, 3) := by decide +kernel
theorem dX0_layPulse_19 : decode cX0_layPulse 19 = .ok (.aload_n 0, 1) := by decide +kernel
theorem dX0_layPulse_20 : decode cX0_layPulse 20 = .ok (.getfield 39, 3) := by decide +kernel
theorem dX0_layPulse_23 : decode cX0_layPulse 23 = .ok (.iload_n 2, 1) := by decide +kernel
theorem dX0_layPulse_24 : decode cX0_layPulse 24 = .ok (.iload 4, 2) := by decide +kernel
theorem dX0_layPulse_26 : decode cX0_layPulse 26 = .ok (.iadd, 1) := by decide +kernel
theorem dX0_layPulse_27 : decode cX0_layPulse 27 = .ok (.dup2, 1) := by decide +kernel
theorem dX0_layPulse_28 : decode cX0_layPulse 28 = .ok (.laload, 1) := by decide +kernel
theorem dX0_layPulse_29 : decode cX0_layPulse 29 = .ok (.iload_n 3, 1) := by decide +kernel
theorem dX0_layPulse_30 : decode cX0_layPulse 30 = .ok (.i2l, 1) := by decide +kernel
theorem dX0_layPulse_31 : decode cX0_layPulse 31 = .ok (.aload_n 0, 1) := by decide +kernel
theorem dX0_layPulse_32 : decode cX0_layPulse 32 = .ok (.iload_n 1, 1) := by decide +kernel
theorem dX0_layPulse_33 : decode cX0_layPulse 33 = .ok (.iload 4, 2) := by decide +kernel
theorem dX0_layPulse_35 : decode cX0_layPulse 35 = .ok (.invokevirtual 137, 3) := by decide +kernel
theorem dX0_layPulse_38 : decode cX0_layPulse 38 = .ok (.i2l, 1) := by decide +kernel
theorem dX0_layPulse_39 : decode cX0_layPulse 39 = .ok (.lmul, 1) := by decide +kernel
theorem dX0_layPulse_40 : decode cX0_layPulse 40 = .ok (.ladd, 1) := by decide +kernel
theorem dX0_layPulse_41 : decode cX0_layPulse 41 = .ok (.lastore, 1) := by decide +kernel
theorem dX0_layPulse_42 : decode cX0_layPulse 42 = .ok (.iinc 4 1, 3) := by decide +kernel
theorem dX0_layPulse_45 : decode cX0_layPulse 45 = .ok (.goto (-42), 3) := by decide +kernel
theorem dX0_layPulse_48 : decode cX0_layPulse 48 = .ok (.return_, 1) := by decide +kernel
set_option maxRecDepth 20000 in
theorem ggX0_thousandthsLeft_X0_loweredIn : GoodIn wsX0_thousandthsLeft wsX0_loweredIn := goodIn_r _ [7, 8, 9, 10, 11, 12, 6, 13, 14, 15, 16, 17, 18, 19, 20, 21, 22, 23, 24, 25, 26, 27, 28, 29, 30, 31, 32, 33, 34, 35, 36] (by decide +kernel) (by decide +kernel)
set_option maxRecDepth 20000 in
theorem gX0_thousandthsLeft_X0_loweredIn : GoodIn wsX0_thousandthsLeft (wsV RX0 74 RX0 yX0_loweredIn wsX0_loweredIn) := goodIn_app (goodIn_of _ (by decide +kernel)) ggX0_thousandthsLeft_X0_loweredIn
theorem dX0_thousandthsLeft_0 : decode cX0_thousandthsLeft 0 = .ok (.ldc2_w 140, 3) := by decide +kernel
theorem dX0_thousandthsLeft_3 : decode cX0_thousandthsLeft 3 = .ok (.aload_n 0, 1) := by decide +kernel
theorem dX0_thousandthsLeft_4 : decode cX0_thousandthsLeft 4 = .ok (.getfield 27, 3) := by decide +kernel
theorem dX0_thousandthsLeft_7 : decode cX0_thousandthsLeft 7 = .ok (.iload_n 1, 1) := by decide +kernel
theorem dX0_thousandthsLeft_8 : decode cX0_thousandthsLeft 8 = .ok (.iaload, 1) := by decide +kernel
theorem dX0_thousandthsLeft_9 : decode cX0_thousandthsLeft 9 = .ok (.i2l, 1) := by decide +kernel
theorem dX0_thousandthsLeft_10 : decode cX0_thousandthsLeft 10 = .ok (.lmul, 1) := by decide +kernel
theorem dX0_thousandthsLeft_11 : decode cX0_thousandthsLeft 11 = .ok (.aload_n 0, 1) := by decide +kernel
theorem dX0_thousandthsLeft_12 : decode cX0_thousandthsLeft 12 = .ok (.iload_n 1, 1) := by decide +kernel
theorem dX0_thousandthsLeft_13 : decode cX0_thousandthsLeft 13 = .ok (.iload_n 2, 1) := by decide +kernel
theorem dX0_thousandthsLeft_14 : decode cX0_thousandthsLeft 14 = .ok (.invokevirtual 74, 3) := by decide +kernel
theorem dX0_thousandthsLeft_17 : decode cX0_thousandthsLeft 17 = .ok (.lsub, 1) := by decide +kernel
theorem dX0_thousandthsLeft_18 : decode cX0_thousandthsLeft 18 = .ok (.lreturn, 1) := by decide +kernel
set_option maxRecDepth 20000 in
theorem ggX0_unitsLeft_X0_tableNumber : GoodIn wsX0_unitsLeft wsX0_tableNumber := goodIn_r _ [13, 14, 35, 36, 37, 38, 39, 40, 41, 42, 43, 44, 45, 46] (by decide +kernel) (by decide +kernel)
set_option maxRecDepth 20000 in
theorem gX0_unitsLeft_X0_tableNumber : GoodIn wsX0_unitsLeft (wsV RX0 137 RX0 yX0_tableNumber wsX0_tableNumber) := goodIn_app (goodIn_of _ (by decide +kernel)) ggX0_unitsLeft_X0_tableNumber
set_option maxRecDepth 20000 in
theorem ggX0_unitsLeft_X0_thousandthsLeft : GoodIn wsX0_unitsLeft wsX0_thousandthsLeft := goodIn_r _ [18, 1, 19, 20, 21, 22, 12, 23, 24, 25, 26, 27, 28, 29, 30, 31, 32, 33, 4, 34, 9, 10, 11, 13, 14, 35, 36, 37, 38, 39, 40, 41, 42, 43, 44, 45, 46] (by decide +kernel) (by decide +kernel)
set_option maxRecDepth 20000 in
theorem gX0_unitsLeft_X0_thousandthsLeft : GoodIn wsX0_unitsLeft (wsV RX0 84 RX0 yX0_thousandthsLeft wsX0_thousandthsLeft) := goodIn_app (goodIn_of _ (by decide +kernel)) ggX0_unitsLeft_X0_thousandthsLeft
theorem dX0_unitsLeft_0 : decode cX0_unitsLeft 0 = .ok (.ldc2_w 140, 3) := by decide +kernel
theorem dX0_unitsLeft_3 : decode cX0_unitsLeft 3 = .ok (.lstore 4, 2) := by decide +kernel
theorem dX0_unitsLeft_5 : decode cX0_unitsLeft 5 = .ok (.iconst 0, 1) := by decide +kernel
theorem dX0_unitsLeft_6 : decode cX0_unitsLeft 6 = .ok (.istore 6, 2) := by decide +kernel
theorem dX0_unitsLeft_8 : decode cX0_unitsLeft 8 = .ok (.iload 6, 2) := by decide +kernel
theorem dX0_unitsLeft_10 : decode cX0_unitsLeft 10 = .ok (.bipush 12, 2) := by decide +kernel
theorem dX0_unitsLeft_12 : decode cX0_unitsLeft 12 = .ok (.if_icmp .ge 56, 3) := by decide +kernel
theorem dX0_unitsLeft_15 : decode cX0_unitsLeft 15 = .ok (.iload_n 3, 1) := by decide +kernel
theorem dX0_unitsLeft_16 : decode cX0_unitsLeft 16 = .ok (.iload 6, 2) := by decide +kernel
theorem dX0_unitsLeft_18 : decode cX0_unitsLeft 18 = .ok (.iadd, 1) := by decide +kernel
theorem dX0_unitsLeft_19 : decode cX0_unitsLeft 19 = .ok (.bipush 36, 2) := by decide +kernel
theorem dX0_unitsLeft_21 : decode cX0_unitsLeft 21 = .ok (.if_icmp .ge 47, 3) := by decide +kernel
theorem dX0_unitsLeft_24 : decode cX0_unitsLeft 24 = .ok (.aload_n 0, 1) := by decide +kernel
theorem dX0_unitsLeft_25 : decode cX0_unitsLeft 25 = .ok (.iload_n 2, 1) := by decide +kernel
theorem dX0_unitsLeft_26 : decode cX0_unitsLeft 26 = .ok (.iload 6, 2) := by decide +kernel
theorem dX0_unitsLeft_28 : decode cX0_unitsLeft 28 = .ok (.invokevirtual 137, 3) := by decide +kernel
theorem dX0_unitsLeft_31 : decode cX0_unitsLeft 31 = .ok (.istore 7, 2) := by decide +kernel
theorem dX0_unitsLeft_33 : decode cX0_unitsLeft 33 = .ok (.iload 7, 2) := by decide +kernel
theorem dX0_unitsLeft_35 : decode cX0_unitsLeft 35 = .ok (.ifCond .le 27, 3) := by decide +kernel
theorem dX0_unitsLeft_38 : decode cX0_unitsLeft 38 = .ok (.lload 4, 2) := by decide +kernel
theorem dX0_unitsLeft_40 : decode cX0_unitsLeft 40 = .ok (.lconst 0, 1) := by decide +kernel
theorem dX0_unitsLeft_41 : decode cX0_unitsLeft 41 = .ok (.aload_n 0, 1) := by decide +kernel
theorem dX0_unitsLeft_42 : decode cX0_unitsLeft 42 = .ok (.iload_n 1, 1) := by decide +kernel
theorem dX0_unitsLeft_43 : decode cX0_unitsLeft 43 = .ok (.iload_n 3, 1) := by decide +kernel
theorem dX0_unitsLeft_44 : decode cX0_unitsLeft 44 = .ok (.iload 6, 2) := by decide +kernel
theorem dX0_unitsLeft_46 : decode cX0_unitsLeft 46 = .ok (.iadd, 1) := by decide +kernel
theorem dX0_unitsLeft_47 : decode cX0_unitsLeft 47 = .ok (.invokevirtual 84, 3) := by decide +kernel
theorem dX0_unitsLeft_50 : decode cX0_unitsLeft 50 = .ok (.invokestatic 142, 3) := by decide +kernel
theorem dX0_unitsLeft_53 : decode cX0_unitsLeft 53 = .ok (.iload 7, 2) := by decide +kernel
theorem dX0_unitsLeft_55 : decode cX0_unitsLeft 55 = .ok (.i2l, 1) := by decide +kernel
theorem dX0_unitsLeft_56 : decode cX0_unitsLeft 56 = .ok (.ldiv, 1) := by decide +kernel
theorem dX0_unitsLeft_57 : decode cX0_unitsLeft 57 = .ok (.invokestatic 91, 3) := by decide +kernel
theorem dX0_unitsLeft_60 : decode cX0_unitsLeft 60 = .ok (.lstore 4, 2) := by decide +kernel
theorem dX0_unitsLeft_62 : decode cX0_unitsLeft 62 = .ok (.iinc 6 1, 3) := by decide +kernel
theorem dX0_unitsLeft_65 : decode cX0_unitsLeft 65 = .ok (.goto (-57), 3) := by decide +kernel
theorem dX0_unitsLeft_68 : decode cX0_unitsLeft 68 = .ok (.lload 4, 2) := by decide +kernel
theorem dX0_unitsLeft_70 : decode cX0_unitsLeft 70 = .ok (.lreturn, 1) := by decide +kernel
set_option maxRecDepth 20000 in
theorem ggX0_loweredInAll_X0_reachOf : GoodIn wsX0_loweredInAll wsX0_reachOf := goodIn_r _ [6, 7, 8, 9, 10, 11, 12, 18, 19, 20, 21, 22, 23, 24, 25, 26, 27, 28, 29] (by decide +kernel) (by decide +kernel)
set_option maxRecDepth 20000 in
theorem gX0_loweredInAll_X0_reachOf : GoodIn wsX0_loweredInAll (wsV RX0 78 RX0 yX0_reachOf wsX0_reachOf) := goodIn_app (goodIn_of _ (by decide +kernel)) ggX0_loweredInAll_X0_reachOf
set_option maxRecDepth 20000 in
theorem ggX0_loweredInAll_X0_tableNumber : GoodIn wsX0_loweredInAll wsX0_tableNumber := goodIn_r _ [16, 17, 18, 19, 20, 21, 22, 23, 24, 25, 26, 27, 28, 29] (by decide +kernel) (by decide +kernel)
set_option maxRecDepth 20000 in
theorem gX0_loweredInAll_X0_tableNumber : GoodIn wsX0_loweredInAll (wsV RX0 137 RX0 yX0_tableNumber wsX0_tableNumber) := goodIn_app (goodIn_of _ (by decide +kernel)) ggX0_loweredInAll_X0_tableNumber
theorem dX0_loweredInAll_0 : decode cX0_loweredInAll 0 = .ok (.aload_n 0, 1) := by decide +kernel
theorem dX0_loweredInAll_1 : decode cX0_loweredInAll 1 = .ok (.iload_n 1, 1) := by decide +kernel
theorem dX0_loweredInAll_2 : decode cX0_loweredInAll 2 = .ok (.iload_n 2, 1) := by decide +kernel
theorem dX0_loweredInAll_3 : decode cX0_loweredInAll 3 = .ok (.invokevirtual 78, 3) := by decide +kernel
theorem dX0_loweredInAll_6 : decode cX0_loweredInAll 6 = .ok (.istore 4, 2) := by decide +kernel
theorem dX0_loweredInAll_8 : decode cX0_loweredInAll 8 = .ok (.lconst 0, 1) := by decide +kernel
theorem dX0_loweredInAll_9 : decode cX0_loweredInAll 9 = .ok (.lstore 5, 2) := by decide +kernel
theorem dX0_loweredInAll_11 : decode cX0_loweredInAll 11 = .ok (.iconst 0, 1) := by decide +kernel
theorem dX0_loweredInAll_12 : decode cX0_loweredInAll 12 = .ok (.istore 7, 2) := by decide +kernel
theorem dX0_loweredInAll_14 : decode cX0_loweredInAll 14 = .ok (.iload 7, 2) := by decide +kernel
theorem dX0_loweredInAll_16 : decode cX0_loweredInAll 16 = .ok (.bipush 12, 2) := by decide +kernel
theorem dX0_loweredInAll_18 : decode cX0_loweredInAll 18 = .ok (.if_icmp .ge 42, 3) := by decide +kernel
theorem dX0_loweredInAll_21 : decode cX0_loweredInAll 21 = .ok (.iload_n 3, 1) := by decide +kernel
theorem dX0_loweredInAll_22 : decode cX0_loweredInAll 22 = .ok (.iload 7, 2) := by decide +kernel
theorem dX0_loweredInAll_24 : decode cX0_loweredInAll 24 = .ok (.iadd, 1) := by decide +kernel
theorem dX0_loweredInAll_25 : decode cX0_loweredInAll 25 = .ok (.bipush 36, 2) := by decide +kernel
theorem dX0_loweredInAll_27 : decode cX0_loweredInAll 27 = .ok (.if_icmp .ge 33, 3) := by decide +kernel
theorem dX0_loweredInAll_30 : decode cX0_loweredInAll 30 = .ok (.lload 5, 2) := by decide +kernel
theorem dX0_loweredInAll_32 : decode cX0_loweredInAll 32 = .ok (.aload_n 0, 1) := by decide +kernel
theorem dX0_loweredInAll_33 : decode cX0_loweredInAll 33 = .ok (.getfield 21, 3) := by decide +kernel
theorem dX0_loweredInAll_36 : decode cX0_loweredInAll 36 = .ok (.iload_n 1, 1) := by decide +kernel
theorem dX0_loweredInAll_37 : decode cX0_loweredInAll 37 = .ok (.aaload, 1) := by decide +kernel
theorem dX0_loweredInAll_38 : decode cX0_loweredInAll 38 = .ok (.iload_n 3, 1) := by decide +kernel
theorem dX0_loweredInAll_39 : decode cX0_loweredInAll 39 = .ok (.iaload, 1) := by decide +kernel
theorem dX0_loweredInAll_40 : decode cX0_loweredInAll 40 = .ok (.i2l, 1) := by decide +kernel
theorem dX0_loweredInAll_41 : decode cX0_loweredInAll 41 = .ok (.aload_n 0, 1) := by decide +kernel
theorem dX0_loweredInAll_42 : decode cX0_loweredInAll 42 = .ok (.iload 4, 2) := by decide +kernel
theorem dX0_loweredInAll_44 : decode cX0_loweredInAll 44 = .ok (.iload 7, 2) := by decide +kernel
theorem dX0_loweredInAll_46 : decode cX0_loweredInAll 46 = .ok (.invokevirtual 137, 3) := by decide +kernel
theorem dX0_loweredInAll_49 : decode cX0_loweredInAll 49 = .ok (.i2l, 1) := by decide +kernel
theorem dX0_loweredInAll_50 : decode cX0_loweredInAll 50 = .ok (.lmul, 1) := by decide +kernel
theorem dX0_loweredInAll_51 : decode cX0_loweredInAll 51 = .ok (.ladd, 1) := by decide +kernel
theorem dX0_loweredInAll_52 : decode cX0_loweredInAll 52 = .ok (.lstore 5, 2) := by decide +kernel
theorem dX0_loweredInAll_54 : decode cX0_loweredInAll 54 = .ok (.iinc 7 1, 3) := by decide +kernel
theorem dX0_loweredInAll_57 : decode cX0_loweredInAll 57 = .ok (.goto (-43), 3) := by decide +kernel
theorem dX0_loweredInAll_60 : decode cX0_loweredInAll 60 = .ok (.lload 5, 2) := by decide +kernel
theorem dX0_loweredInAll_62 : decode cX0_loweredInAll 62 = .ok (.lreturn, 1) := by decide +kernel
set_option maxRecDepth 20000 in
theorem ggX0_takenOfMonthsBefore_X0_isInYear : GoodIn wsX0_takenOfMonthsBefore wsX0_isInYear := goodIn_r _ [6] (by decide +kernel) (by decide +kernel)
set_option maxRecDepth 20000 in
theorem gX0_takenOfMonthsBefore_X0_isInYear : GoodIn wsX0_takenOfMonthsBefore (va_wsS RX0 144 yX0_isInYear wsX0_isInYear) := goodIn_app (goodIn_of _ (by decide +kernel)) ggX0_takenOfMonthsBefore_X0_isInYear
theorem dX0_takenOfMonthsBefore_0 : decode cX0_takenOfMonthsBefore 0 = .ok (.aload_n 0, 1) := by decide +kernel
theorem dX0_takenOfMonthsBefore_1 : decode cX0_takenOfMonthsBefore 1 = .ok (.getfield 9, 3) := by decide +kernel
theorem dX0_takenOfMonthsBefore_4 : decode cX0_takenOfMonthsBefore 4 = .ok (.iload_n 1, 1) := by decide +kernel
theorem dX0_takenOfMonthsBefore_5 : decode cX0_takenOfMonthsBefore 5 = .ok (.iaload, 1) := by decide +kernel
theorem dX0_takenOfMonthsBefore_6 : decode cX0_takenOfMonthsBefore 6 = .ok (.iconst 5, 1) := by decide +kernel
theorem dX0_takenOfMonthsBefore_7 : decode cX0_takenOfMonthsBefore 7 = .ok (.idiv, 1) := by decide +kernel
theorem dX0_takenOfMonthsBefore_8 : decode cX0_takenOfMonthsBefore 8 = .ok (.istore 4, 2) := by decide +kernel
theorem dX0_takenOfMonthsBefore_10 : decode cX0_takenOfMonthsBefore 10 = .ok (.iconst 0, 1) := by decide +kernel
theorem dX0_takenOfMonthsBefore_11 : decode cX0_takenOfMonthsBefore 11 = .ok (.istore 5, 2) := by decide +kernel
theorem dX0_takenOfMonthsBefore_13 : decode cX0_takenOfMonthsBefore 13 = .ok (.iconst 0, 1) := by decide +kernel
theorem dX0_takenOfMonthsBefore_14 : decode cX0_takenOfMonthsBefore 14 = .ok (.istore 6, 2) := by decide +kernel
theorem dX0_takenOfMonthsBefore_16 : decode cX0_takenOfMonthsBefore 16 = .ok (.iload 6, 2) := by decide +kernel
theorem dX0_takenOfMonthsBefore_18 : decode cX0_takenOfMonthsBefore 18 = .ok (.iload_n 2, 1) := by decide +kernel
theorem dX0_takenOfMonthsBefore_19 : decode cX0_takenOfMonthsBefore 19 = .ok (.if_icmp .ge 84, 3) := by decide +kernel
theorem dX0_takenOfMonthsBefore_22 : decode cX0_takenOfMonthsBefore 22 = .ok (.aload_n 0, 1) := by decide +kernel
theorem dX0_takenOfMonthsBefore_23 : decode cX0_takenOfMonthsBefore 23 = .ok (.getfield 21, 3) := by decide +kernel
theorem dX0_takenOfMonthsBefore_26 : decode cX0_takenOfMonthsBefore 26 = .ok (.iload_n 1, 1) := by decide +kernel
theorem dX0_takenOfMonthsBefore_27 : decode cX0_takenOfMonthsBefore 27 = .ok (.aaload, 1) := by decide +kernel
theorem dX0_takenOfMonthsBefore_28 : decode cX0_takenOfMonthsBefore 28 = .ok (.iload 6, 2) := by decide +kernel
theorem dX0_takenOfMonthsBefore_30 : decode cX0_takenOfMonthsBefore 30 = .ok (.iaload, 1) := by decide +kernel
theorem dX0_takenOfMonthsBefore_31 : decode cX0_takenOfMonthsBefore 31 = .ok (.iconst 2, 1) := by decide +kernel
theorem dX0_takenOfMonthsBefore_32 : decode cX0_takenOfMonthsBefore 32 = .ok (.idiv, 1) := by decide +kernel
theorem dX0_takenOfMonthsBefore_33 : decode cX0_takenOfMonthsBefore 33 = .ok (.istore 7, 2) := by decide +kernel
theorem dX0_takenOfMonthsBefore_35 : decode cX0_takenOfMonthsBefore 35 = .ok (.aload_n 0, 1) := by decide +kernel
theorem dX0_takenOfMonthsBefore_36 : decode cX0_takenOfMonthsBefore 36 = .ok (.getfield 21, 3) := by decide +kernel
theorem dX0_takenOfMonthsBefore_39 : decode cX0_takenOfMonthsBefore 39 = .ok (.iload_n 1, 1) := by decide +kernel
theorem dX0_takenOfMonthsBefore_40 : decode cX0_takenOfMonthsBefore 40 = .ok (.aaload, 1) := by decide +kernel
theorem dX0_takenOfMonthsBefore_41 : decode cX0_takenOfMonthsBefore 41 = .ok (.iload 6, 2) := by decide +kernel
theorem dX0_takenOfMonthsBefore_43 : decode cX0_takenOfMonthsBefore 43 = .ok (.iaload, 1) := by decide +kernel
theorem dX0_takenOfMonthsBefore_44 : decode cX0_takenOfMonthsBefore 44 = .ok (.iload 7, 2) := by decide +kernel
theorem dX0_takenOfMonthsBefore_46 : decode cX0_takenOfMonthsBefore 46 = .ok (.isub, 1) := by decide +kernel
theorem dX0_takenOfMonthsBefore_47 : decode cX0_takenOfMonthsBefore 47 = .ok (.istore 8, 2) := by decide +kernel
theorem dX0_takenOfMonthsBefore_49 : decode cX0_takenOfMonthsBefore 49 = .ok (.iload 5, 2) := by decide +kernel
theorem dX0_takenOfMonthsBefore_51 : decode cX0_takenOfMonthsBefore 51 = .ok (.iload 6, 2) := by decide +kernel
theorem dX0_takenOfMonthsBefore_53 : decode cX0_takenOfMonthsBefore 53 = .ok (.iload 4, 2) := by decide +kernel
theorem dX0_takenOfMonthsBefore_55 : decode cX0_takenOfMonthsBefore 55 = .ok (.iadd, 1) := by decide +kernel
theorem dX0_takenOfMonthsBefore_56 : decode cX0_takenOfMonthsBefore 56 = .ok (.iload_n 3, 1) := by decide +kernel
theorem dX0_takenOfMonthsBefore_57 : decode cX0_takenOfMonthsBefore 57 = .ok (.invokestatic 144, 3) := by decide +kernel
theorem dX0_takenOfMonthsBefore_60 : decode cX0_takenOfMonthsBefore 60 = .ok (.ifCond .eq 8, 3) := by decide +kernel
theorem dX0_takenOfMonthsBefore_63 : decode cX0_takenOfMonthsBefore 63 = .ok (.iload 8, 2) := by decide +kernel
theorem dX0_takenOfMonthsBefore_65 : decode cX0_takenOfMonthsBefore 65 = .ok (.goto 4, 3) := by decide +kernel
theorem dX0_takenOfMonthsBefore_68 : decode cX0_takenOfMonthsBefore 68 = .ok (.iconst 0, 1) := by decide +kernel
theorem dX0_takenOfMonthsBefore_69 : decode cX0_takenOfMonthsBefore 69 = .ok (.iadd, 1) := by decide +kernel
theorem dX0_takenOfMonthsBefore_70 : decode cX0_takenOfMonthsBefore 70 = .ok (.istore 5, 2) := by decide +kernel
theorem dX0_takenOfMonthsBefore_72 : decode cX0_takenOfMonthsBefore 72 = .ok (.iload 5, 2) := by decide +kernel
theorem dX0_takenOfMonthsBefore_74 : decode cX0_takenOfMonthsBefore 74 = .ok (.iload 6, 2) := by decide +kernel
theorem dX0_takenOfMonthsBefore_76 : decode cX0_takenOfMonthsBefore 76 = .ok (.iload 4, 2) := by decide +kernel
theorem dX0_takenOfMonthsBefore_78 : decode cX0_takenOfMonthsBefore 78 = .ok (.iadd, 1) := by decide +kernel
theorem dX0_takenOfMonthsBefore_79 : decode cX0_takenOfMonthsBefore 79 = .ok (.iconst 1, 1) := by decide +kernel
theorem dX0_takenOfMonthsBefore_80 : decode cX0_takenOfMonthsBefore 80 = .ok (.iadd, 1) := by decide +kernel
theorem dX0_takenOfMonthsBefore_81 : decode cX0_takenOfMonthsBefore 81 = .ok (.iload_n 3, 1) := by decide +kernel
theorem dX0_takenOfMonthsBefore_82 : decode cX0_takenOfMonthsBefore 82 = .ok (.invokestatic 144, 3) := by decide +kernel
theorem dX0_takenOfMonthsBefore_85 : decode cX0_takenOfMonthsBefore 85 = .ok (.ifCond .eq 8, 3) := by decide +kernel
theorem dX0_takenOfMonthsBefore_88 : decode cX0_takenOfMonthsBefore 88 = .ok (.iload 7, 2) := by decide +kernel
theorem dX0_takenOfMonthsBefore_90 : decode cX0_takenOfMonthsBefore 90 = .ok (.goto 4, 3) := by decide +kernel
theorem dX0_takenOfMonthsBefore_93 : decode cX0_takenOfMonthsBefore 93 = .ok (.iconst 0, 1) := by decide +kernel
theorem dX0_takenOfMonthsBefore_94 : decode cX0_takenOfMonthsBefore 94 = .ok (.iadd, 1) := by decide +kernel
theorem dX0_takenOfMonthsBefore_95 : decode cX0_takenOfMonthsBefore 95 = .ok (.istore 5, 2) := by decide +kernel
theorem dX0_takenOfMonthsBefore_97 : decode cX0_takenOfMonthsBefore 97 = .ok (.iinc 6 1, 3) := by decide +kernel
theorem dX0_takenOfMonthsBefore_100 : decode cX0_takenOfMonthsBefore 100 = .ok (.goto (-84), 3) := by decide +kernel
theorem dX0_takenOfMonthsBefore_103 : decode cX0_takenOfMonthsBefore 103 = .ok (.iload 5, 2) := by decide +kernel
theorem dX0_takenOfMonthsBefore_105 : decode cX0_takenOfMonthsBefore 105 = .ok (.ireturn, 1) := by decide +kernel
theorem dX0_isInYear_0 : decode cX0_isInYear 0 = .ok (.iload_n 0, 1) := by decide +kernel
theorem dX0_isInYear_1 : decode cX0_isInYear 1 = .ok (.bipush 12, 2) := by decide +kernel
theorem dX0_isInYear_3 : decode cX0_isInYear 3 = .ok (.idiv, 1) := by decide +kernel
theorem dX0_isInYear_4 : decode cX0_isInYear 4 = .ok (.iload_n 1, 1) := by decide +kernel
theorem dX0_isInYear_5 : decode cX0_isInYear 5 = .ok (.if_icmp .ne 7, 3) := by decide +kernel
theorem dX0_isInYear_8 : decode cX0_isInYear 8 = .ok (.iconst 1, 1) := by decide +kernel
theorem dX0_isInYear_9 : decode cX0_isInYear 9 = .ok (.goto 4, 3) := by decide +kernel
theorem dX0_isInYear_12 : decode cX0_isInYear 12 = .ok (.iconst 0, 1) := by decide +kernel
theorem dX0_isInYear_13 : decode cX0_isInYear 13 = .ok (.ireturn, 1) := by decide +kernel
set_option maxRecDepth 20000 in
theorem ggX0_burdenOfUnits_X0_reachOf : GoodIn wsX0_burdenOfUnits wsX0_reachOf := goodIn_r _ [6, 7, 8, 9, 10, 11, 12, 13, 14, 15, 16, 17, 18, 19, 20, 21, 22, 23, 24] (by decide +kernel) (by decide +kernel)
set_option maxRecDepth 20000 in
theorem gX0_burdenOfUnits_X0_reachOf : GoodIn wsX0_burdenOfUnits (wsV RX0 78 RX0 yX0_reachOf wsX0_reachOf) := goodIn_app (goodIn_of _ (by decide +kernel)) ggX0_burdenOfUnits_X0_reachOf
theorem dX0_burdenOfUnits_0 : decode cX0_burdenOfUnits 0 = .ok (.aload_n 0, 1) := by decide +kernel
theorem dX0_burdenOfUnits_1 : decode cX0_burdenOfUnits 1 = .ok (.iload_n 1, 1) := by decide +kernel
theorem dX0_burdenOfUnits_2 : decode cX0_burdenOfUnits 2 = .ok (.iload_n 2, 1) := by decide +kernel
theorem dX0_burdenOfUnits_3 : decode cX0_burdenOfUnits 3 = .ok (.invokevirtual 78, 3) := by decide +kernel
theorem dX0_burdenOfUnits_6 : decode cX0_burdenOfUnits 6 = .ok (.istore 4, 2) := by decide +kernel
theorem dX0_burdenOfUnits_8 : decode cX0_burdenOfUnits 8 = .ok (.iload 4, 2) := by decide +kernel
theorem dX0_burdenOfUnits_10 : decode cX0_burdenOfUnits 10 = .ok (.iconst 5, 1) := by decide +kernel
theorem dX0_burdenOfUnits_11 : decode cX0_burdenOfUnits 11 = .ok (.if_icmp .ge 17, 3) := by decide +kernel
theorem dX0_burdenOfUnits_14 : decode cX0_burdenOfUnits 14 = .ok (.iload_n 3, 1) := by decide +kernel
theorem dX0_burdenOfUnits_15 : decode cX0_burdenOfUnits 15 = .ok (.i2l, 1) := by decide +kernel
theorem dX0_burdenOfUnits_16 : decode cX0_burdenOfUnits 16 = .ok (.aload_n 0, 1) := by decide +kernel
theorem dX0_burdenOfUnits_17 : decode cX0_burdenOfUnits 17 = .ok (.getfield 33, 3) := by decide +kernel
theorem dX0_burdenOfUnits_20 : decode cX0_burdenOfUnits 20 = .ok (.iload 4, 2) := by decide +kernel
theorem dX0_burdenOfUnits_22 : decode cX0_burdenOfUnits 22 = .ok (.iaload, 1) := by decide +kernel
theorem dX0_burdenOfUnits_23 : decode cX0_burdenOfUnits 23 = .ok (.i2l, 1) := by decide +kernel
theorem dX0_burdenOfUnits_24 : decode cX0_burdenOfUnits 24 = .ok (.lmul, 1) := by decide +kernel
theorem dX0_burdenOfUnits_25 : decode cX0_burdenOfUnits 25 = .ok (.goto 4, 3) := by decide +kernel
theorem dX0_burdenOfUnits_28 : decode cX0_burdenOfUnits 28 = .ok (.lconst 0, 1) := by decide +kernel
theorem dX0_burdenOfUnits_29 : decode cX0_burdenOfUnits 29 = .ok (.lreturn, 1) := by decide +kernel
theorem dX0_unitsGot_0 : decode cX0_unitsGot 0 = .ok (.iload_n 3, 1) := by decide +kernel
theorem dX0_unitsGot_1 : decode cX0_unitsGot 1 = .ok (.aload_n 0, 1) := by decide +kernel
theorem dX0_unitsGot_2 : decode cX0_unitsGot 2 = .ok (.getfield 36, 3) := by decide +kernel
theorem dX0_unitsGot_5 : decode cX0_unitsGot 5 = .ok (.aload_n 0, 1) := by decide +kernel
theorem dX0_unitsGot_6 : decode cX0_unitsGot 6 = .ok (.getfield 13, 3) := by decide +kernel
theorem dX0_unitsGot_9 : decode cX0_unitsGot 9 = .ok (.iload_n 1, 1) := by decide +kernel
theorem dX0_unitsGot_10 : decode cX0_unitsGot 10 = .ok (.iaload, 1) := by decide +kernel
theorem dX0_unitsGot_11 : decode cX0_unitsGot 11 = .ok (.aaload, 1) := by decide +kernel
theorem dX0_unitsGot_12 : decode cX0_unitsGot 12 = .ok (.aload_n 0, 1) := by decide +kernel
theorem dX0_unitsGot_13 : decode cX0_unitsGot 13 = .ok (.getfield 13, 3) := by decide +kernel
theorem dX0_unitsGot_16 : decode cX0_unitsGot 16 = .ok (.iload_n 2, 1) := by decide +kernel
theorem dX0_unitsGot_17 : decode cX0_unitsGot 17 = .ok (.iaload, 1) := by decide +kernel
theorem dX0_unitsGot_18 : decode cX0_unitsGot 18 = .ok (.iaload, 1) := by decide +kernel
theorem dX0_unitsGot_19 : decode cX0_unitsGot 19 = .ok (.imul, 1) := by decide +kernel
theorem dX0_unitsGot_20 : decode cX0_unitsGot 20 = .ok (.bipush 100, 2) := by decide +kernel
theorem dX0_unitsGot_22 : decode cX0_unitsGot 22 = .ok (.idiv, 1) := by decide +kernel
theorem dX0_unitsGot_23 : decode cX0_unitsGot 23 = .ok (.ireturn, 1) := by decide +kernel
set_option maxRecDepth 20000 in
theorem ggX0_canTrade_X0_unitsGot : GoodIn wsX0_canTrade wsX0_unitsGot := goodIn_r _ [7, 8, 9, 25, 26, 27, 28, 29, 30, 31, 32, 33, 34, 35, 36] (by decide +kernel) (by decide +kernel)
set_option maxRecDepth 20000 in
theorem gX0_canTrade_X0_unitsGot : GoodIn wsX0_canTrade (wsV RX0 111 RX0 yX0_unitsGot wsX0_unitsGot) := goodIn_app (goodIn_of _ (by decide +kernel)) ggX0_canTrade_X0_unitsGot
set_option maxRecDepth 20000 in
theorem ggX0_canTrade_X0_burdenOfUnits : GoodIn wsX0_canTrade wsX0_burdenOfUnits := goodIn_r _ [13, 14, 15, 16, 17, 6, 18, 19, 20, 21, 22, 23, 24, 25, 26, 27, 28, 29, 30, 31, 32, 33, 34, 35, 36] (by decide +kernel) (by decide +kernel)
set_option maxRecDepth 20000 in
theorem gX0_canTrade_X0_burdenOfUnits : GoodIn wsX0_canTrade (wsV RX0 101 RX0 yX0_burdenOfUnits wsX0_burdenOfUnits) := goodIn_app (goodIn_of _ (by decide +kernel)) ggX0_canTrade_X0_burdenOfUnits
theorem dX0_canTrade_0 : decode cX0_canTrade 0 = .ok (.aload_n 0, 1) := by decide +kernel
theorem dX0_canTrade_1 : decode cX0_canTrade 1 = .ok (.iload_n 1, 1) := by decide +kernel
theorem dX0_canTrade_2 : decode cX0_canTrade 2 = .ok (.iload_n 2, 1) := by decide +kernel
theorem dX0_canTrade_3 : decode cX0_canTrade 3 = .ok (.iload_n 3, 1) := by decide +kernel
theorem dX0_canTrade_4 : decode cX0_canTrade 4 = .ok (.invokevirtual 111, 3) := by decide +kernel
theorem dX0_canTrade_7 : decode cX0_canTrade 7 = .ok (.istore 4, 2) := by decide +kernel
theorem dX0_canTrade_9 : decode cX0_canTrade 9 = .ok (.aload_n 0, 1) := by decide +kernel
theorem dX0_canTrade_10 : decode cX0_canTrade 10 = .ok (.getfield 16, 3) := by decide +kernel
theorem dX0_canTrade_13 : decode cX0_canTrade 13 = .ok (.iload_n 1, 1) := by decide +kernel
theorem dX0_canTrade_14 : decode cX0_canTrade 14 = .ok (.iaload, 1) := by decide +kernel
theorem dX0_canTrade_15 : decode cX0_canTrade 15 = .ok (.iload_n 3, 1) := by decide +kernel
theorem dX0_canTrade_16 : decode cX0_canTrade 16 = .ok (.if_icmp .lt 18, 3) := by decide +kernel
theorem dX0_canTrade_19 : decode cX0_canTrade 19 = .ok (.aload_n 0, 1) := by decide +kernel
theorem dX0_canTrade_20 : decode cX0_canTrade 20 = .ok (.getfield 16, 3) := by decide +kernel
theorem dX0_canTrade_23 : decode cX0_canTrade 23 = .ok (.iload_n 2, 1) := by decide +kernel
theorem dX0_canTrade_24 : decode cX0_canTrade 24 = .ok (.iaload, 1) := by decide +kernel
theorem dX0_canTrade_25 : decode cX0_canTrade 25 = .ok (.iload 4, 2) := by decide +kernel
theorem dX0_canTrade_27 : decode cX0_canTrade 27 = .ok (.iadd, 1) := by decide +kernel
theorem dX0_canTrade_28 : decode cX0_canTrade 28 = .ok (.sipush 20000, 3) := by decide +kernel
theorem dX0_canTrade_31 : decode cX0_canTrade 31 = .ok (.if_icmp .le 5, 3) := by decide +kernel
theorem dX0_canTrade_34 : decode cX0_canTrade 34 = .ok (.iconst 0, 1) := by decide +kernel
theorem dX0_canTrade_35 : decode cX0_canTrade 35 = .ok (.ireturn, 1) := by decide +kernel
theorem dX0_canTrade_36 : decode cX0_canTrade 36 = .ok (.iconst 0, 1) := by decide +kernel
theorem dX0_canTrade_37 : decode cX0_canTrade 37 = .ok (.istore 5, 2) := by decide +kernel
theorem dX0_canTrade_39 : decode cX0_canTrade 39 = .ok (.iload 5, 2) := by decide +kernel
theorem dX0_canTrade_41 : decode cX0_canTrade 41 = .ok (.aload_n 0, 1) := by decide +kernel
theorem dX0_canTrade_42 : decode cX0_canTrade 42 = .ok (.getfield 55, 3) := by decide +kernel
theorem dX0_canTrade_45 : decode cX0_canTrade 45 = .ok (.if_icmp .ge 32, 3) := by decide +kernel
theorem dX0_canTrade_48 : decode cX0_canTrade 48 = .ok (.aload_n 0, 1) := by decide +kernel
theorem dX0_canTrade_49 : decode cX0_canTrade 49 = .ok (.iload_n 2, 1) := by decide +kernel
theorem dX0_canTrade_50 : decode cX0_canTrade 50 = .ok (.iload 5, 2) := by decide +kernel
theorem dX0_canTrade_52 : decode cX0_canTrade 52 = .ok (.iload 4, 2) := by decide +kernel
theorem dX0_canTrade_54 : decode cX0_canTrade 54 = .ok (.invokevirtual 101, 3) := by decide +kernel
theorem dX0_canTrade_57 : decode cX0_canTrade 57 = .ok (.aload_n 0, 1) := by decide +kernel
theorem dX0_canTrade_58 : decode cX0_canTrade 58 = .ok (.iload_n 1, 1) := by decide +kernel
theorem dX0_canTrade_59 : decode cX0_canTrade 59 = .ok (.iload 5, 2) := by decide +kernel
theorem dX0_canTrade_61 : decode cX0_canTrade 61 = .ok (.iload_n 3, 1) := by decide +kernel
theorem dX0_canTrade_62 : decode cX0_canTrade 62 = .ok (.invokevirtual 101, 3) := by decide +kernel
theorem dX0_canTrade_65 : decode cX0_canTrade 65 = .ok (.lcmp, 1) := by decide +kernel
theorem dX0_canTrade_66 : decode cX0_canTrade 66 = .ok (.ifCond .le 5, 3) := by decide +kernel
theorem dX0_canTrade_69 : decode cX0_canTrade 69 = .ok (.iconst 0, 1) := by decide +kernel
theorem dX0_canTrade_70 : decode cX0_canTrade 70 = .ok (.ireturn, 1) := by decide +kernel
theorem dX0_canTrade_71 : decode cX0_canTrade 71 = .ok (.iinc 5 1, 3) := by decide +kernel
theorem dX0_canTrade_74 : decode cX0_canTrade 74 = .ok (.goto (-35), 3) := by decide +kernel
theorem dX0_canTrade_77 : decode cX0_canTrade 77 = .ok (.iconst 1, 1) := by decide +kernel
theorem dX0_canTrade_78 : decode cX0_canTrade 78 = .ok (.ireturn, 1) := by decide +kernel
theorem dX1_init_0 : decode cX1_init 0 = .ok (.aload_n 0, 1) := by decide +kernel
theorem dX1_init_1 : decode cX1_init 1 = .ok (.invokespecial 1, 3) := by decide +kernel
theorem dX1_init_4 : decode cX1_init 4 = .ok (.aload_n 0, 1) := by decide +kernel
theorem dX1_init_5 : decode cX1_init 5 = .ok (.bipush 8, 2) := by decide +kernel
theorem dX1_init_7 : decode cX1_init 7 = .ok (.newarray .int, 2) := by decide +kernel
theorem dX1_init_9 : decode cX1_init 9 = .ok (.putfield 7, 3) := by decide +kernel
theorem dX1_init_12 : decode cX1_init 12 = .ok (.aload_n 0, 1) := by decide +kernel
theorem dX1_init_13 : decode cX1_init 13 = .ok (.bipush 8, 2) := by decide +kernel
theorem dX1_init_15 : decode cX1_init 15 = .ok (.newarray .int, 2) := by decide +kernel
theorem dX1_init_17 : decode cX1_init 17 = .ok (.putfield 13, 3) := by decide +kernel
theorem dX1_init_20 : decode cX1_init 20 = .ok (.aload_n 0, 1) := by decide +kernel
theorem dX1_init_21 : decode cX1_init 21 = .ok (.bipush 8, 2) := by decide +kernel
theorem dX1_init_23 : decode cX1_init 23 = .ok (.newarray .int, 2) := by decide +kernel
theorem dX1_init_25 : decode cX1_init 25 = .ok (.putfield 16, 3) := by decide +kernel
theorem dX1_init_28 : decode cX1_init 28 = .ok (.aload_n 0, 1) := by decide +kernel
theorem dX1_init_29 : decode cX1_init 29 = .ok (.sipush 288, 3) := by decide +kernel
theorem dX1_init_32 : decode cX1_init 32 = .ok (.newarray .int, 2) := by decide +kernel
theorem dX1_init_34 : decode cX1_init 34 = .ok (.putfield 19, 3) := by decide +kernel
theorem dX1_init_37 : decode cX1_init 37 = .ok (.aload_n 0, 1) := by decide +kernel
theorem dX1_init_38 : decode cX1_init 38 = .ok (.iconst 4, 1) := by decide +kernel
theorem dX1_init_39 : decode cX1_init 39 = .ok (.newarray .int, 2) := by decide +kernel
theorem dX1_init_41 : decode cX1_init 41 = .ok (.putfield 22, 3) := by decide +kernel
theorem dX1_init_44 : decode cX1_init 44 = .ok (.aload_n 0, 1) := by decide +kernel
theorem dX1_init_45 : decode cX1_init 45 = .ok (.iconst 4, 1) := by decide +kernel
theorem dX1_init_46 : decode cX1_init 46 = .ok (.newarray .int, 2) := by decide +kernel
theorem dX1_init_48 : decode cX1_init 48 = .ok (.putfield 25, 3) := by decide +kernel
theorem dX1_init_51 : decode cX1_init 51 = .ok (.aload_n 0, 1) := by decide +kernel
theorem dX1_init_52 : decode cX1_init 52 = .ok (.bipush 60, 2) := by decide +kernel
theorem dX1_init_54 : decode cX1_init 54 = .ok (.newarray .int, 2) := by decide +kernel
theorem dX1_init_56 : decode cX1_init 56 = .ok (.putfield 28, 3) := by decide +kernel
theorem dX1_init_59 : decode cX1_init 59 = .ok (.aload_n 0, 1) := by decide +kernel
theorem dX1_init_60 : decode cX1_init 60 = .ok (.bipush 9, 2) := by decide +kernel
theorem dX1_init_62 : decode cX1_init 62 = .ok (.newarray .int, 2) := by decide +kernel
theorem dX1_init_64 : decode cX1_init 64 = .ok (.putfield 31, 3) := by decide +kernel
theorem dX1_init_67 : decode cX1_init 67 = .ok (.iconst 0, 1) := by decide +kernel
theorem dX1_init_68 : decode cX1_init 68 = .ok (.istore_n 1, 1) := by decide +kernel
theorem dX1_init_69 : decode cX1_init 69 = .ok (.iload_n 1, 1) := by decide +kernel
theorem dX1_init_70 : decode cX1_init 70 = .ok (.bipush 9, 2) := by decide +kernel
theorem dX1_init_72 : decode cX1_init 72 = .ok (.if_icmp .ge 17, 3) := by decide +kernel
theorem dX1_init_75 : decode cX1_init 75 = .ok (.aload_n 0, 1) := by decide +kernel
theorem dX1_init_76 : decode cX1_init 76 = .ok (.getfield 31, 3) := by decide +kernel
theorem dX1_init_79 : decode cX1_init 79 = .ok (.iload_n 1, 1) := by decide +kernel
theorem dX1_init_80 : decode cX1_init 80 = .ok (.bipush 100, 2) := by decide +kernel
theorem dX1_init_82 : decode cX1_init 82 = .ok (.iastore, 1) := by decide +kernel
theorem dX1_init_83 : decode cX1_init 83 = .ok (.iinc 1 1, 3) := by decide +kernel
theorem dX1_init_86 : decode cX1_init 86 = .ok (.goto (-17), 3) := by decide +kernel
theorem dX1_init_89 : decode cX1_init 89 = .ok (.return_, 1) := by decide +kernel
theorem dX1_thrown_0 : decode cX1_thrown 0 = .ok (.aload_n 0, 1) := by decide +kernel
theorem dX1_thrown_1 : decode cX1_thrown 1 = .ok (.getfield 34, 3) := by decide +kernel
theorem dX1_thrown_4 : decode cX1_thrown 4 = .ok (.ireturn, 1) := by decide +kernel
theorem dX1_may_0 : decode cX1_may 0 = .ok (.aload_n 0, 1) := by decide +kernel
theorem dX1_may_1 : decode cX1_may 1 = .ok (.iload_n 1, 1) := by decide +kernel
theorem dX1_may_2 : decode cX1_may 2 = .ok (.ifCond .eq 7, 3) := by decide +kernel
theorem dX1_may_5 : decode cX1_may 5 = .ok (.iconst 0, 1) := by decide +kernel
theorem dX1_may_6 : decode cX1_may 6 = .ok (.goto 4, 3) := by decide +kernel
theorem dX1_may_9 : decode cX1_may 9 = .ok (.iconst 1, 1) := by decide +kernel
theorem dX1_may_10 : decode cX1_may 10 = .ok (.putfield 34, 3) := by decide +kernel
theorem dX1_may_13 : decode cX1_may 13 = .ok (.iload_n 1, 1) := by decide +kernel
theorem dX1_may_14 : decode cX1_may 14 = .ok (.ireturn, 1) := by decide +kernel
theorem dX1_mayBoth_0 : decode cX1_mayBoth 0 = .ok (.aload_n 0, 1) := by decide +kernel
theorem dX1_mayBoth_1 : decode cX1_mayBoth 1 = .ok (.iload_n 1, 1) := by decide +kernel
theorem dX1_mayBoth_2 : decode cX1_mayBoth 2 = .ok (.ifCond .ne 7, 3) := by decide +kernel
theorem dX1_mayBoth_5 : decode cX1_mayBoth 5 = .ok (.iconst 1, 1) := by decide +kernel
theorem dX1_mayBoth_6 : decode cX1_mayBoth 6 = .ok (.goto 12, 3) := by decide +kernel
theorem dX1_mayBoth_9 : decode cX1_mayBoth 9 = .ok (.iload_n 2, 1) := by decide +kernel
theorem dX1_mayBoth_10 : decode cX1_mayBoth 10 = .ok (.ifCond .ne 7, 3) := by decide +kernel
theorem dX1_mayBoth_13 : decode cX1_mayBoth 13 = .ok (.iconst 2, 1) := by decide +kernel
theorem dX1_mayBoth_14 : decode cX1_mayBoth 14 = .ok (.goto 4, 3) := by decide +kernel
theorem dX1_mayBoth_17 : decode cX1_mayBoth 17 = .ok (.iconst 0, 1) := by decide +kernel
theorem dX1_mayBoth_18 : decode cX1_mayBoth 18 = .ok (.putfield 34, 3) := by decide +kernel
theorem dX1_mayBoth_21 : decode cX1_mayBoth 21 = .ok (.aload_n 0, 1) := by decide +kernel
theorem dX1_mayBoth_22 : decode cX1_mayBoth 22 = .ok (.getfield 34, 3) := by decide +kernel
theorem dX1_mayBoth_25 : decode cX1_mayBoth 25 = .ok (.ifCond .ne 7, 3) := by decide +kernel
theorem dX1_mayBoth_28 : decode cX1_mayBoth 28 = .ok (.iconst 1, 1) := by decide +kernel
theorem dX1_mayBoth_29 : decode cX1_mayBoth 29 = .ok (.goto 4, 3) := by decide +kernel
theorem dX1_mayBoth_32 : decode cX1_mayBoth 32 = .ok (.iconst 0, 1) := by decide +kernel
theorem dX1_mayBoth_33 : decode cX1_mayBoth 33 = .ok (.ireturn, 1) := by decide +kernel
theorem dX1_mayAll_0 : decode cX1_mayAll 0 = .ok (.aload_n 0, 1) := by decide +kernel
theorem dX1_mayAll_1 : decode cX1_mayAll 1 = .ok (.iload_n 1, 1) := by decide +kernel
theorem dX1_mayAll_2 : decode cX1_mayAll 2 = .ok (.ifCond .ne 7, 3) := by decide +kernel
theorem dX1_mayAll_5 : decode cX1_mayAll 5 = .ok (.iconst 1, 1) := by decide +kernel
theorem dX1_mayAll_6 : decode cX1_mayAll 6 = .ok (.goto 20, 3) := by decide +kernel
theorem dX1_mayAll_9 : decode cX1_mayAll 9 = .ok (.iload_n 2, 1) := by decide +kernel
theorem dX1_mayAll_10 : decode cX1_mayAll 10 = .ok (.ifCond .ne 7, 3) := by decide +kernel
theorem dX1_mayAll_13 : decode cX1_mayAll 13 = .ok (.iconst 2, 1) := by decide +kernel
theorem dX1_mayAll_14 : decode cX1_mayAll 14 = .ok (.goto 12, 3) := by decide +kernel
theorem dX1_mayAll_17 : decode cX1_mayAll 17 = .ok (.iload_n 3, 1) := by decide +kernel
theorem dX1_mayAll_18 : decode cX1_mayAll 18 = .ok (.ifCond .ne 7, 3) := by decide +kernel
theorem dX1_mayAll_21 : decode cX1_mayAll 21 = .ok (.iconst 3, 1) := by decide +kernel
theorem dX1_mayAll_22 : decode cX1_mayAll 22 = .ok (.goto 4, 3) := by decide +kernel
theorem dX1_mayAll_25 : decode cX1_mayAll 25 = .ok (.iconst 0, 1) := by decide +kernel
theorem dX1_mayAll_26 : decode cX1_mayAll 26 = .ok (.putfield 34, 3) := by decide +kernel
theorem dX1_mayAll_29 : decode cX1_mayAll 29 = .ok (.aload_n 0, 1) := by decide +kernel
theorem dX1_mayAll_30 : decode cX1_mayAll 30 = .ok (.getfield 34, 3) := by decide +kernel
theorem dX1_mayAll_33 : decode cX1_mayAll 33 = .ok (.ifCond .ne 7, 3) := by decide +kernel
theorem dX1_mayAll_36 : decode cX1_mayAll 36 = .ok (.iconst 1, 1) := by decide +kernel
theorem dX1_mayAll_37 : decode cX1_mayAll 37 = .ok (.goto 4, 3) := by decide +kernel
theorem dX1_mayAll_40 : decode cX1_mayAll 40 = .ok (.iconst 0, 1) := by decide +kernel
theorem dX1_mayAll_41 : decode cX1_mayAll 41 = .ok (.ireturn, 1) := by decide +kernel
theorem dX1_isIn_0 : decode cX1_isIn 0 = .ok (.iload_n 0, 1) := by decide +kernel
theorem dX1_isIn_1 : decode cX1_isIn 1 = .ok (.iload_n 1, 1) := by decide +kernel
theorem dX1_isIn_2 : decode cX1_isIn 2 = .ok (.if_icmp .lt 12, 3) := by decide +kernel
theorem dX1_isIn_5 : decode cX1_isIn 5 = .ok (.iload_n 0, 1) := by decide +kernel
theorem dX1_isIn_6 : decode cX1_isIn 6 = .ok (.iload_n 2, 1) := by decide +kernel
theorem dX1_isIn_7 : decode cX1_isIn 7 = .ok (.if_icmp .gt 7, 3) := by decide +kernel
theorem dX1_isIn_10 : decode cX1_isIn 10 = .ok (.iconst 1, 1) := by decide +kernel
theorem dX1_isIn_11 : decode cX1_isIn 11 = .ok (.goto 4, 3) := by decide +kernel
theorem dX1_isIn_14 : decode cX1_isIn 14 = .ok (.iconst 0, 1) := by decide +kernel
theorem dX1_isIn_15 : decode cX1_isIn 15 = .ok (.ireturn, 1) := by decide +kernel
set_option maxRecDepth 20000 in
theorem ggX1_isWell_X1_isIn : GoodIn wsX1_isWell wsX1_isIn := goodIn_r _ [5] (by decide +kernel) (by decide +kernel)
set_option maxRecDepth 20000 in
theorem gX1_isWell_X1_isIn : GoodIn wsX1_isWell (va_wsS RX1 41 yX1_isIn wsX1_isIn) := goodIn_app (goodIn_of _ (by decide +kernel)) ggX1_isWell_X1_isIn
theorem dX1_isWell_0 : decode cX1_isWell 0 = .ok (.iload_n 1, 1) := by decide +kernel
theorem dX1_isWell_1 : decode cX1_isWell 1 = .ok (.iconst 0, 1) := by decide +kernel
theorem dX1_isWell_2 : decode cX1_isWell 2 = .ok (.aload_n 0, 1) := by decide +kernel
theorem dX1_isWell_3 : decode cX1_isWell 3 = .ok (.getfield 38, 3) := by decide +kernel
theorem dX1_isWell_6 : decode cX1_isWell 6 = .ok (.iconst 1, 1) := by decide +kernel
theorem dX1_isWell_7 : decode cX1_isWell 7 = .ok (.isub, 1) := by decide +kernel
theorem dX1_isWell_8 : decode cX1_isWell 8 = .ok (.invokestatic 41, 3) := by decide +kernel
theorem dX1_isWell_11 : decode cX1_isWell 11 = .ok (.ireturn, 1) := by decide +kernel
set_option maxRecDepth 20000 in
theorem ggX1_isWatch_X1_isIn : GoodIn wsX1_isWatch wsX1_isIn := goodIn_r _ [5] (by decide +kernel) (by decide +kernel)
set_option maxRecDepth 20000 in
theorem gX1_isWatch_X1_isIn : GoodIn wsX1_isWatch (va_wsS RX1 41 yX1_isIn wsX1_isIn) := goodIn_app (goodIn_of _ (by decide +kernel)) ggX1_isWatch_X1_isIn
theorem dX1_isWatch_0 : decode cX1_isWatch 0 = .ok (.iload_n 1, 1) := by decide +kernel
theorem dX1_isWatch_1 : decode cX1_isWatch 1 = .ok (.iconst 0, 1) := by decide +kernel
theorem dX1_isWatch_2 : decode cX1_isWatch 2 = .ok (.aload_n 0, 1) := by decide +kernel
theorem dX1_isWatch_3 : decode cX1_isWatch 3 = .ok (.getfield 45, 3) := by decide +kernel
theorem dX1_isWatch_6 : decode cX1_isWatch 6 = .ok (.iconst 1, 1) := by decide +kernel
theorem dX1_isWatch_7 : decode cX1_isWatch 7 = .ok (.isub, 1) := by decide +kernel
theorem dX1_isWatch_8 : decode cX1_isWatch 8 = .ok (.invokestatic 41, 3) := by decide +kernel
theorem dX1_isWatch_11 : decode cX1_isWatch 11 = .ok (.ireturn, 1) := by decide +kernel
set_option maxRecDepth 20000 in
theorem ggX1_isMonth_X1_isIn : GoodIn wsX1_isMonth wsX1_isIn := goodIn_r _ [4] (by decide +kernel) (by decide +kernel)
set_option maxRecDepth 20000 in
theorem gX1_isMonth_X1_isIn : GoodIn wsX1_isMonth (va_wsS RX1 41 yX1_isIn wsX1_isIn) := goodIn_app (goodIn_of _ (by decide +kernel)) ggX1_isMonth_X1_isIn
theorem dX1_isMonth_0 : decode cX1_isMonth 0 = .ok (.iload_n 0, 1) := by decide +kernel
theorem dX1_isMonth_1 : decode cX1_isMonth 1 = .ok (.iconst 0, 1) := by decide +kernel
theorem dX1_isMonth_2 : decode cX1_isMonth 2 = .ok (.bipush 35, 2) := by decide +kernel
theorem dX1_isMonth_4 : decode cX1_isMonth 4 = .ok (.invokestatic 41, 3) := by decide +kernel
theorem dX1_isMonth_7 : decode cX1_isMonth 7 = .ok (.ireturn, 1) := by decide +kernel
set_option maxRecDepth 20000 in
theorem ggX1_isYear_X1_isIn : GoodIn wsX1_isYear wsX1_isIn := goodIn_r _ [4] (by decide +kernel) (by decide +kernel)
set_option maxRecDepth 20000 in
theorem gX1_isYear_X1_isIn : GoodIn wsX1_isYear (va_wsS RX1 41 yX1_isIn wsX1_isIn) := goodIn_app (goodIn_of _ (by decide +kernel)) ggX1_isYear_X1_isIn
theorem dX1_isYear_0 : decode cX1_isYear 0 = .ok (.iload_n 0, 1) := by decide +kernel
theorem dX1_isYear_1 : decode cX1_isYear 1 = .ok (.iconst 0, 1) := by decide +kernel
theorem dX1_isYear_2 : decode cX1_isYear 2 = .ok (.iconst 2, 1) := by decide +kernel
theorem dX1_isYear_3 : decode cX1_isYear 3 = .ok (.invokestatic 41, 3) := by decide +kernel
theorem dX1_isYear_6 : decode cX1_isYear 6 = .ok (.ireturn, 1) := by decide +kernel
set_option maxRecDepth 20000 in
theorem ggX1_well_X1_isIn : GoodIn wsX1_well wsX1_isIn := goodIn_r _ [8] (by decide +kernel) (by decide +kernel)
set_option maxRecDepth 20000 in
theorem gX1_well_X1_isIn : GoodIn wsX1_well (va_wsS RX1 41 yX1_isIn wsX1_isIn) := goodIn_app (goodIn_of _ (by decide +kernel)) ggX1_well_X1_isIn
set_option maxRecDepth 20000 in
theorem ggX1_well_X1_mayBoth : GoodIn wsX1_well wsX1_mayBoth := goodIn_r _ [12, 13, 14, 15, 16, 17, 18, 19, 20, 21, 22, 23, 24] (by decide +kernel) (by decide +kernel)
set_option maxRecDepth 20000 in
theorem gX1_well_X1_mayBoth : GoodIn wsX1_well (wsV RX1 48 RX1 yX1_mayBoth wsX1_mayBoth) := goodIn_app (goodIn_of _ (by decide +kernel)) ggX1_well_X1_mayBoth
theorem dX1_well_0 : decode cX1_well 0 = .ok (.aload_n 0, 1) := by decide +kernel
theorem dX1_well_1 : decode cX1_well 1 = .ok (.iload_n 1, 1) := by decide +kernel
theorem dX1_well_2 : decode cX1_well 2 = .ok (.iconst 0, 1) := by decide +kernel
theorem dX1_well_3 : decode cX1_well 3 = .ok (.bipush 99, 2) := by decide +kernel
theorem dX1_well_5 : decode cX1_well 5 = .ok (.invokestatic 41, 3) := by decide +kernel
theorem dX1_well_8 : decode cX1_well 8 = .ok (.ifCond .eq 27, 3) := by decide +kernel
theorem dX1_well_11 : decode cX1_well 11 = .ok (.iload_n 2, 1) := by decide +kernel
theorem dX1_well_12 : decode cX1_well 12 = .ok (.iconst 0, 1) := by decide +kernel
theorem dX1_well_13 : decode cX1_well 13 = .ok (.iconst 2, 1) := by decide +kernel
theorem dX1_well_14 : decode cX1_well 14 = .ok (.invokestatic 41, 3) := by decide +kernel
theorem dX1_well_17 : decode cX1_well 17 = .ok (.ifCond .eq 18, 3) := by decide +kernel
theorem dX1_well_20 : decode cX1_well 20 = .ok (.iload_n 3, 1) := by decide +kernel
theorem dX1_well_21 : decode cX1_well 21 = .ok (.iconst 0, 1) := by decide +kernel
theorem dX1_well_22 : decode cX1_well 22 = .ok (.sipush 5000, 3) := by decide +kernel
theorem dX1_well_25 : decode cX1_well 25 = .ok (.invokestatic 41, 3) := by decide +kernel
theorem dX1_well_28 : decode cX1_well 28 = .ok (.ifCond .eq 7, 3) := by decide +kernel
theorem dX1_well_31 : decode cX1_well 31 = .ok (.iconst 1, 1) := by decide +kernel
theorem dX1_well_32 : decode cX1_well 32 = .ok (.goto 4, 3) := by decide +kernel
theorem dX1_well_35 : decode cX1_well 35 = .ok (.iconst 0, 1) := by decide +kernel
theorem dX1_well_36 : decode cX1_well 36 = .ok (.aload_n 0, 1) := by decide +kernel
theorem dX1_well_37 : decode cX1_well 37 = .ok (.getfield 38, 3) := by decide +kernel
theorem dX1_well_40 : decode cX1_well 40 = .ok (.bipush 8, 2) := by decide +kernel
theorem dX1_well_42 : decode cX1_well 42 = .ok (.if_icmp .ge 7, 3) := by decide +kernel
theorem dX1_well_45 : decode cX1_well 45 = .ok (.iconst 1, 1) := by decide +kernel
theorem dX1_well_46 : decode cX1_well 46 = .ok (.goto 4, 3) := by decide +kernel
theorem dX1_well_49 : decode cX1_well 49 = .ok (.iconst 0, 1) := by decide +kernel
theorem dX1_well_50 : decode cX1_well 50 = .ok (.invokevirtual 48, 3) := by decide +kernel
theorem dX1_well_53 : decode cX1_well 53 = .ok (.ifCond .ne 5, 3) := by decide +kernel
theorem dX1_well_56 : decode cX1_well 56 = .ok (.iconst 0, 1) := by decide +kernel
theorem dX1_well_57 : decode cX1_well 57 = .ok (.ireturn, 1) := by decide +kernel
theorem dX1_well_58 : decode cX1_well 58 = .ok (.aload_n 0, 1) := by decide +kernel
theorem dX1_well_59 : decode cX1_well 59 = .ok (.getfield 7, 3) := by decide +kernel
theorem dX1_well_62 : decode cX1_well 62 = .ok (.aload_n 0, 1) := by decide +kernel
theorem dX1_well_63 : decode cX1_well 63 = .ok (.getfield 38, 3) := by decide +kernel
theorem dX1_well_66 : decode cX1_well 66 = .ok (.iload_n 1, 1) := by decide +kernel
theorem dX1_well_67 : decode cX1_well 67 = .ok (.iastore, 1) := by decide +kernel
theorem dX1_well_68 : decode cX1_well 68 = .ok (.aload_n 0, 1) := by decide +kernel
theorem dX1_well_69 : decode cX1_well 69 = .ok (.getfield 13, 3) := by decide +kernel
theorem dX1_well_72 : decode cX1_well 72 = .ok (.aload_n 0, 1) := by decide +kernel
theorem dX1_well_73 : decode cX1_well 73 = .ok (.getfield 38, 3) := by decide +kernel
theorem dX1_well_76 : decode cX1_well 76 = .ok (.iload_n 2, 1) := by decide +kernel
theorem dX1_well_77 : decode cX1_well 77 = .ok (.iastore, 1) := by decide +kernel
theorem dX1_well_78 : decode cX1_well 78 = .ok (.aload_n 0, 1) := by decide +kernel
theorem dX1_well_79 : decode cX1_well 79 = .ok (.getfield 16, 3) := by decide +kernel
theorem dX1_well_82 : decode cX1_well 82 = .ok (.aload_n 0, 1) := by decide +kernel
theorem dX1_well_83 : decode cX1_well 83 = .ok (.getfield 38, 3) := by decide +kernel
theorem dX1_well_86 : decode cX1_well 86 = .ok (.iload_n 3, 1) := by decide +kernel
theorem dX1_well_87 : decode cX1_well 87 = .ok (.iastore, 1) := by decide +kernel
theorem dX1_well_88 : decode cX1_well 88 = .ok (.aload_n 0, 1) := by decide +kernel
theorem dX1_well_89 : decode cX1_well 89 = .ok (.dup, 1) := by decide +kernel
theorem dX1_well_90 : decode cX1_well 90 = .ok (.getfield 38, 3) := by decide +kernel
theorem dX1_well_93 : decode cX1_well 93 = .ok (.iconst 1, 1) := by decide +kernel
theorem dX1_well_94 : decode cX1_well 94 = .ok (.iadd, 1) := by decide +kernel
theorem dX1_well_95 : decode cX1_well 95 = .ok (.putfield 38, 3) := by decide +kernel
theorem dX1_well_98 : decode cX1_well 98 = .ok (.aload_n 0, 1) := by decide +kernel
theorem dX1_well_99 : decode cX1_well 99 = .ok (.getfield 38, 3) := by decide +kernel
theorem dX1_well_102 : decode cX1_well 102 = .ok (.iconst 1, 1) := by decide +kernel
theorem dX1_well_103 : decode cX1_well 103 = .ok (.isub, 1) := by decide +kernel
theorem dX1_well_104 : decode cX1_well 104 = .ok (.ireturn, 1) := by decide +kernel
set_option maxRecDepth 20000 in
theorem ggX1_watch_X1_isIn : GoodIn wsX1_watch wsX1_isIn := goodIn_r _ [7] (by decide +kernel) (by decide +kernel)
set_option maxRecDepth 20000 in
theorem gX1_watch_X1_isIn : GoodIn wsX1_watch (va_wsS RX1 41 yX1_isIn wsX1_isIn) := goodIn_app (goodIn_of _ (by decide +kernel)) ggX1_watch_X1_isIn
set_option maxRecDepth 20000 in
theorem ggX1_watch_X1_mayBoth : GoodIn wsX1_watch wsX1_mayBoth := goodIn_r _ [11, 12, 13, 14, 15, 16, 17, 18, 19, 20, 21, 22, 23] (by decide +kernel) (by decide +kernel)
set_option maxRecDepth 20000 in
theorem gX1_watch_X1_mayBoth : GoodIn wsX1_watch (wsV RX1 48 RX1 yX1_mayBoth wsX1_mayBoth) := goodIn_app (goodIn_of _ (by decide +kernel)) ggX1_watch_X1_mayBoth
theorem dX1_watch_0 : decode cX1_watch 0 = .ok (.aload_n 0, 1) := by decide +kernel
theorem dX1_watch_1 : decode cX1_watch 1 = .ok (.iload_n 1, 1) := by decide +kernel
theorem dX1_watch_2 : decode cX1_watch 2 = .ok (.iconst 0, 1) := by decide +kernel
theorem dX1_watch_3 : decode cX1_watch 3 = .ok (.bipush 99, 2) := by decide +kernel
theorem dX1_watch_5 : decode cX1_watch 5 = .ok (.invokestatic 41, 3) := by decide +kernel
theorem dX1_watch_8 : decode cX1_watch 8 = .ok (.ifCond .eq 18, 3) := by decide +kernel
theorem dX1_watch_11 : decode cX1_watch 11 = .ok (.iload_n 2, 1) := by decide +kernel
theorem dX1_watch_12 : decode cX1_watch 12 = .ok (.iconst 0, 1) := by decide +kernel
theorem dX1_watch_13 : decode cX1_watch 13 = .ok (.sipush 10000, 3) := by decide +kernel
theorem dX1_watch_16 : decode cX1_watch 16 = .ok (.invokestatic 41, 3) := by decide +kernel
theorem dX1_watch_19 : decode cX1_watch 19 = .ok (.ifCond .eq 7, 3) := by decide +kernel
theorem dX1_watch_22 : decode cX1_watch 22 = .ok (.iconst 1, 1) := by decide +kernel
theorem dX1_watch_23 : decode cX1_watch 23 = .ok (.goto 4, 3) := by decide +kernel
theorem dX1_watch_26 : decode cX1_watch 26 = .ok (.iconst 0, 1) := by decide +kernel
theorem dX1_watch_27 : decode cX1_watch 27 = .ok (.aload_n 0, 1) := by decide +kernel
theorem dX1_watch_28 : decode cX1_watch 28 = .ok (.getfield 45, 3) := by decide +kernel
theorem dX1_watch_31 : decode cX1_watch 31 = .ok (.iconst 4, 1) := by decide +kernel
theorem dX1_watch_32 : decode cX1_watch 32 = .ok (.if_icmp .ge 7, 3) := by decide +kernel
theorem dX1_watch_35 : decode cX1_watch 35 = .ok (.iconst 1, 1) := by decide +kernel
theorem dX1_watch_36 : decode cX1_watch 36 = .ok (.goto 4, 3) := by decide +kernel
theorem dX1_watch_39 : decode cX1_watch 39 = .ok (.iconst 0, 1) := by decide +kernel
theorem dX1_watch_40 : decode cX1_watch 40 = .ok (.invokevirtual 48, 3) := by decide +kernel
theorem dX1_watch_43 : decode cX1_watch 43 = .ok (.ifCond .ne 5, 3) := by decide +kernel
theorem dX1_watch_46 : decode cX1_watch 46 = .ok (.iconst 0, 1) := by decide +kernel
theorem dX1_watch_47 : decode cX1_watch 47 = .ok (.ireturn, 1) := by decide +kernel
theorem dX1_watch_48 : decode cX1_watch 48 = .ok (.aload_n 0, 1) := by decide +kernel
theorem dX1_watch_49 : decode cX1_watch 49 = .ok (.getfield 22, 3) := by decide +kernel
theorem dX1_watch_52 : decode cX1_watch 52 = .ok (.aload_n 0, 1) := by decide +kernel
theorem dX1_watch_53 : decode cX1_watch 53 = .ok (.getfield 45, 3) := by decide +kernel
theorem dX1_watch_56 : decode cX1_watch 56 = .ok (.iload_n 1, 1) := by decide +kernel
theorem dX1_watch_57 : decode cX1_watch 57 = .ok (.iastore, 1) := by decide +kernel
theorem dX1_watch_58 : decode cX1_watch 58 = .ok (.aload_n 0, 1) := by decide +kernel
theorem dX1_watch_59 : decode cX1_watch 59 = .ok (.getfield 25, 3) := by decide +kernel
theorem dX1_watch_62 : decode cX1_watch 62 = .ok (.aload_n 0, 1) := by decide +kernel
theorem dX1_watch_63 : decode cX1_watch 63 = .ok (.getfield 45, 3) := by decide +kernel
theorem dX1_watch_66 : decode cX1_watch 66 = .ok (.iload_n 2, 1) := by decide +kernel
theorem dX1_watch_67 : decode cX1_watch 67 = .ok (.iastore, 1) := by decide +kernel
theorem dX1_watch_68 : decode cX1_watch 68 = .ok (.aload_n 0, 1) := by decide +kernel
theorem dX1_watch_69 : decode cX1_watch 69 = .ok (.dup, 1) := by decide +kernel
theorem dX1_watch_70 : decode cX1_watch 70 = .ok (.getfield 45, 3) := by decide +kernel
theorem dX1_watch_73 : decode cX1_watch 73 = .ok (.iconst 1, 1) := by decide +kernel
theorem dX1_watch_74 : decode cX1_watch 74 = .ok (.iadd, 1) := by decide +kernel
theorem dX1_watch_75 : decode cX1_watch 75 = .ok (.putfield 45, 3) := by decide +kernel
theorem dX1_watch_78 : decode cX1_watch 78 = .ok (.aload_n 0, 1) := by decide +kernel
theorem dX1_watch_79 : decode cX1_watch 79 = .ok (.getfield 45, 3) := by decide +kernel
theorem dX1_watch_82 : decode cX1_watch 82 = .ok (.iconst 1, 1) := by decide +kernel
theorem dX1_watch_83 : decode cX1_watch 83 = .ok (.isub, 1) := by decide +kernel
theorem dX1_watch_84 : decode cX1_watch 84 = .ok (.ireturn, 1) := by decide +kernel
set_option maxRecDepth 20000 in
theorem ggX1_response_X1_isIn : GoodIn wsX1_response wsX1_isIn := goodIn_r _ [5] (by decide +kernel) (by decide +kernel)
set_option maxRecDepth 20000 in
theorem gX1_response_X1_isIn : GoodIn wsX1_response (va_wsS RX1 41 yX1_isIn wsX1_isIn) := goodIn_app (goodIn_of _ (by decide +kernel)) ggX1_response_X1_isIn
set_option maxRecDepth 20000 in
theorem ggX1_response_X1_mayBoth : GoodIn wsX1_response wsX1_mayBoth := goodIn_r _ [9, 10, 11, 12, 13, 14, 15, 16, 17, 18, 19, 20, 21] (by decide +kernel) (by decide +kernel)
set_option maxRecDepth 20000 in
theorem gX1_response_X1_mayBoth : GoodIn wsX1_response (wsV RX1 48 RX1 yX1_mayBoth wsX1_mayBoth) := goodIn_app (goodIn_of _ (by decide +kernel)) ggX1_response_X1_mayBoth
theorem dX1_response_0 : decode cX1_response 0 = .ok (.aload_n 0, 1) := by decide +kernel
theorem dX1_response_1 : decode cX1_response 1 = .ok (.iload_n 1, 1) := by decide +kernel
theorem dX1_response_2 : decode cX1_response 2 = .ok (.iconst 0, 1) := by decide +kernel
theorem dX1_response_3 : decode cX1_response 3 = .ok (.iconst 4, 1) := by decide +kernel
theorem dX1_response_4 : decode cX1_response 4 = .ok (.invokestatic 41, 3) := by decide +kernel
theorem dX1_response_7 : decode cX1_response 7 = .ok (.ifCond .eq 17, 3) := by decide +kernel
theorem dX1_response_10 : decode cX1_response 10 = .ok (.iload_n 2, 1) := by decide +kernel
theorem dX1_response_11 : decode cX1_response 11 = .ok (.iconst 0, 1) := by decide +kernel
theorem dX1_response_12 : decode cX1_response 12 = .ok (.bipush 11, 2) := by decide +kernel
theorem dX1_response_14 : decode cX1_response 14 = .ok (.invokestatic 41, 3) := by decide +kernel
theorem dX1_response_17 : decode cX1_response 17 = .ok (.ifCond .eq 7, 3) := by decide +kernel
theorem dX1_response_20 : decode cX1_response 20 = .ok (.iconst 1, 1) := by decide +kernel
theorem dX1_response_21 : decode cX1_response 21 = .ok (.goto 4, 3) := by decide +kernel
theorem dX1_response_24 : decode cX1_response 24 = .ok (.iconst 0, 1) := by decide +kernel
theorem dX1_response_25 : decode cX1_response 25 = .ok (.iload_n 3, 1) := by decide +kernel
theorem dX1_response_26 : decode cX1_response 26 = .ok (.iconst 0, 1) := by decide +kernel
theorem dX1_response_27 : decode cX1_response 27 = .ok (.sipush 1000, 3) := by decide +kernel
theorem dX1_response_30 : decode cX1_response 30 = .ok (.invokestatic 41, 3) := by decide +kernel
theorem dX1_response_33 : decode cX1_response 33 = .ok (.invokevirtual 48, 3) := by decide +kernel
theorem dX1_response_36 : decode cX1_response 36 = .ok (.ifCond .ne 5, 3) := by decide +kernel
theorem dX1_response_39 : decode cX1_response 39 = .ok (.iconst 0, 1) := by decide +kernel
theorem dX1_response_40 : decode cX1_response 40 = .ok (.ireturn, 1) := by decide +kernel
theorem dX1_response_41 : decode cX1_response 41 = .ok (.aload_n 0, 1) := by decide +kernel
theorem dX1_response_42 : decode cX1_response 42 = .ok (.getfield 28, 3) := by decide +kernel
theorem dX1_response_45 : decode cX1_response 45 = .ok (.bipush 12, 2) := by decide +kernel
theorem dX1_response_47 : decode cX1_response 47 = .ok (.iload_n 1, 1) := by decide +kernel
theorem dX1_response_48 : decode cX1_response 48 = .ok (.imul, 1) := by decide +kernel
theorem dX1_response_49 : decode cX1_response 49 = .ok (.iload_n 2, 1) := by decide +kernel
theorem dX1_response_50 : decode cX1_response 50 = .ok (.iadd, 1) := by decide +kernel
theorem dX1_response_51 : decode cX1_response 51 = .ok (.iaload, 1) := by decide +kernel
theorem dX1_response_52 : decode cX1_response 52 = .ok (.istore 4, 2) := by decide +kernel
theorem dX1_response_54 : decode cX1_response 54 = .ok (.aload_n 0, 1) := by decide +kernel
theorem dX1_response_55 : decode cX1_response 55 = .ok (.getfield 28, 3) := by decide +kernel
theorem dX1_response_58 : decode cX1_response 58 = .ok (.bipush 12, 2) := by decide +kernel
theorem dX1_response_60 : decode cX1_response 60 = .ok (.iload_n 1, 1) := by decide +kernel
theorem dX1_response_61 : decode cX1_response 61 = .ok (.imul, 1) := by decide +kernel
theorem dX1_response_62 : decode cX1_response 62 = .ok (.iload_n 2, 1) := by decide +kernel
theorem dX1_response_63 : decode cX1_response 63 = .ok (.iadd, 1) := by decide +kernel
theorem dX1_response_64 : decode cX1_response 64 = .ok (.iload_n 3, 1) := by decide +kernel
theorem dX1_response_65 : decode cX1_response 65 = .ok (.iastore, 1) := by decide +kernel
theorem dX1_response_66 : decode cX1_response 66 = .ok (.iload 4, 2) := by decide +kernel
theorem dX1_response_68 : decode cX1_response 68 = .ok (.ireturn, 1) := by decide +kernel
theorem dX1_wells_0 : decode cX1_wells 0 = .ok (.aload_n 0, 1) := by decide +kernel
theorem dX1_wells_1 : decode cX1_wells 1 = .ok (.iconst 0, 1) := by decide +kernel
theorem dX1_wells_2 : decode cX1_wells 2 = .ok (.putfield 34, 3) := by decide +kernel
theorem dX1_wells_5 : decode cX1_wells 5 = .ok (.aload_n 0, 1) := by decide +kernel
theorem dX1_wells_6 : decode cX1_wells 6 = .ok (.getfield 38, 3) := by decide +kernel
theorem dX1_wells_9 : decode cX1_wells 9 = .ok (.ireturn, 1) := by decide +kernel
theorem dX1_watches_0 : decode cX1_watches 0 = .ok (.aload_n 0, 1) := by decide +kernel
theorem dX1_watches_1 : decode cX1_watches 1 = .ok (.iconst 0, 1) := by decide +kernel
theorem dX1_watches_2 : decode cX1_watches 2 = .ok (.putfield 34, 3) := by decide +kernel
theorem dX1_watches_5 : decode cX1_watches 5 = .ok (.aload_n 0, 1) := by decide +kernel
theorem dX1_watches_6 : decode cX1_watches 6 = .ok (.getfield 45, 3) := by decide +kernel
theorem dX1_watches_9 : decode cX1_watches 9 = .ok (.ireturn, 1) := by decide +kernel
set_option maxRecDepth 20000 in
theorem ggX1_pump_X1_isWell : GoodIn wsX1_pump wsX1_isWell := goodIn_r _ [6, 7, 8, 9, 5, 10, 19, 20, 21, 22, 23, 24, 25, 26, 27, 28, 29] (by decide +kernel) (by decide +kernel)
set_option maxRecDepth 20000 in
theorem gX1_pump_X1_isWell : GoodIn wsX1_pump (wsV RX1 52 RX1 yX1_isWell wsX1_isWell) := goodIn_app (goodIn_of _ (by decide +kernel)) ggX1_pump_X1_isWell
set_option maxRecDepth 20000 in
theorem ggX1_pump_X1_isMonth : GoodIn wsX1_pump wsX1_isMonth := goodIn_r _ [13, 8, 9, 5, 10] (by decide +kernel) (by decide +kernel)
set_option maxRecDepth 20000 in
theorem gX1_pump_X1_isMonth : GoodIn wsX1_pump (va_wsS RX1 56 yX1_isMonth wsX1_isMonth) := goodIn_app (goodIn_of _ (by decide +kernel)) ggX1_pump_X1_isMonth
set_option maxRecDepth 20000 in
theorem ggX1_pump_X1_isIn : GoodIn wsX1_pump wsX1_isIn := goodIn_r _ [10] (by decide +kernel) (by decide +kernel)
set_option maxRecDepth 20000 in
theorem gX1_pump_X1_isIn : GoodIn wsX1_pump (va_wsS RX1 41 yX1_isIn wsX1_isIn) := goodIn_app (goodIn_of _ (by decide +kernel)) ggX1_pump_X1_isIn
set_option maxRecDepth 20000 in
theorem ggX1_pump_X1_mayBoth : GoodIn wsX1_pump wsX1_mayBoth := goodIn_r _ [17, 18, 19, 20, 21, 22, 23, 24, 25, 26, 27, 28, 29] (by decide +kernel) (by decide +kernel)
set_option maxRecDepth 20000 in
theorem gX1_pump_X1_mayBoth : GoodIn wsX1_pump (wsV RX1 48 RX1 yX1_mayBoth wsX1_mayBoth) := goodIn_app (goodIn_of _ (by decide +kernel)) ggX1_pump_X1_mayBoth
theorem dX1_pump_0 : decode cX1_pump 0 = .ok (.aload_n 0, 1) := by decide +kernel
theorem dX1_pump_1 : decode cX1_pump 1 = .ok (.aload_n 0, 1) := by decide +kernel
theorem dX1_pump_2 : decode cX1_pump 2 = .ok (.iload_n 1, 1) := by decide +kernel
theorem dX1_pump_3 : decode cX1_pump 3 = .ok (.invokevirtual 52, 3) := by decide +kernel
theorem dX1_pump_6 : decode cX1_pump 6 = .ok (.ifCond .eq 14, 3) := by decide +kernel
theorem dX1_pump_9 : decode cX1_pump 9 = .ok (.iload_n 2, 1) := by decide +kernel
theorem dX1_pump_10 : decode cX1_pump 10 = .ok (.invokestatic 56, 3) := by decide +kernel
theorem dX1_pump_13 : decode cX1_pump 13 = .ok (.ifCond .eq 7, 3) := by decide +kernel
theorem dX1_pump_16 : decode cX1_pump 16 = .ok (.iconst 1, 1) := by decide +kernel
theorem dX1_pump_17 : decode cX1_pump 17 = .ok (.goto 4, 3) := by decide +kernel
theorem dX1_pump_20 : decode cX1_pump 20 = .ok (.iconst 0, 1) := by decide +kernel
theorem dX1_pump_21 : decode cX1_pump 21 = .ok (.iload_n 3, 1) := by decide +kernel
theorem dX1_pump_22 : decode cX1_pump 22 = .ok (.iconst 0, 1) := by decide +kernel
theorem dX1_pump_23 : decode cX1_pump 23 = .ok (.sipush 1000, 3) := by decide +kernel
theorem dX1_pump_26 : decode cX1_pump 26 = .ok (.invokestatic 41, 3) := by decide +kernel
theorem dX1_pump_29 : decode cX1_pump 29 = .ok (.invokevirtual 48, 3) := by decide +kernel
theorem dX1_pump_32 : decode cX1_pump 32 = .ok (.ifCond .ne 5, 3) := by decide +kernel
theorem dX1_pump_35 : decode cX1_pump 35 = .ok (.iconst 0, 1) := by decide +kernel
theorem dX1_pump_36 : decode cX1_pump 36 = .ok (.ireturn, 1) := by decide +kernel
theorem dX1_pump_37 : decode cX1_pump 37 = .ok (.aload_n 0, 1) := by decide +kernel
theorem dX1_pump_38 : decode cX1_pump 38 = .ok (.getfield 19, 3) := by decide +kernel
theorem dX1_pump_41 : decode cX1_pump 41 = .ok (.bipush 36, 2) := by decide +kernel
theorem dX1_pump_43 : decode cX1_pump 43 = .ok (.iload_n 1, 1) := by decide +kernel
theorem dX1_pump_44 : decode cX1_pump 44 = .ok (.imul, 1) := by decide +kernel
theorem dX1_pump_45 : decode cX1_pump 45 = .ok (.iload_n 2, 1) := by decide +kernel
theorem dX1_pump_46 : decode cX1_pump 46 = .ok (.iadd, 1) := by decide +kernel
theorem dX1_pump_47 : decode cX1_pump 47 = .ok (.iaload, 1) := by decide +kernel
theorem dX1_pump_48 : decode cX1_pump 48 = .ok (.istore 4, 2) := by decide +kernel
theorem dX1_pump_50 : decode cX1_pump 50 = .ok (.aload_n 0, 1) := by decide +kernel
theorem dX1_pump_51 : decode cX1_pump 51 = .ok (.getfield 19, 3) := by decide +kernel
theorem dX1_pump_54 : decode cX1_pump 54 = .ok (.bipush 36, 2) := by decide +kernel
theorem dX1_pump_56 : decode cX1_pump 56 = .ok (.iload_n 1, 1) := by decide +kernel
theorem dX1_pump_57 : decode cX1_pump 57 = .ok (.imul, 1) := by decide +kernel
theorem dX1_pump_58 : decode cX1_pump 58 = .ok (.iload_n 2, 1) := by decide +kernel
theorem dX1_pump_59 : decode cX1_pump 59 = .ok (.iadd, 1) := by decide +kernel
theorem dX1_pump_60 : decode cX1_pump 60 = .ok (.iload_n 3, 1) := by decide +kernel
theorem dX1_pump_61 : decode cX1_pump 61 = .ok (.iastore, 1) := by decide +kernel
theorem dX1_pump_62 : decode cX1_pump 62 = .ok (.iload 4, 2) := by decide +kernel
theorem dX1_pump_64 : decode cX1_pump 64 = .ok (.ireturn, 1) := by decide +kernel
set_option maxRecDepth 20000 in
theorem ggX1_rest_X1_isWell : GoodIn wsX1_rest wsX1_isWell := goodIn_r _ [6, 7, 8, 9, 5, 10, 19, 20, 21, 22, 23, 24, 25, 26, 27, 28, 29] (by decide +kernel) (by decide +kernel)
set_option maxRecDepth 20000 in
theorem gX1_rest_X1_isWell : GoodIn wsX1_rest (wsV RX1 52 RX1 yX1_isWell wsX1_isWell) := goodIn_app (goodIn_of _ (by decide +kernel)) ggX1_rest_X1_isWell
set_option maxRecDepth 20000 in
theorem ggX1_rest_X1_isMonth : GoodIn wsX1_rest wsX1_isMonth := goodIn_r _ [13, 8, 9, 5, 10] (by decide +kernel) (by decide +kernel)
set_option maxRecDepth 20000 in
theorem gX1_rest_X1_isMonth : GoodIn wsX1_rest (va_wsS RX1 56 yX1_isMonth wsX1_isMonth) := goodIn_app (goodIn_of _ (by decide +kernel)) ggX1_rest_X1_isMonth
set_option maxRecDepth 20000 in
theorem ggX1_rest_X1_isIn : GoodIn wsX1_rest wsX1_isIn := goodIn_r _ [10] (by decide +kernel) (by decide +kernel)
set_option maxRecDepth 20000 in
theorem gX1_rest_X1_isIn : GoodIn wsX1_rest (va_wsS RX1 41 yX1_isIn wsX1_isIn) := goodIn_app (goodIn_of _ (by decide +kernel)) ggX1_rest_X1_isIn
set_option maxRecDepth 20000 in
theorem ggX1_rest_X1_mayBoth : GoodIn wsX1_rest wsX1_mayBoth := goodIn_r _ [17, 18, 19, 20, 21, 22, 23, 24, 25, 26, 27, 28, 29] (by decide +kernel) (by decide +kernel)
set_option maxRecDepth 20000 in
theorem gX1_rest_X1_mayBoth : GoodIn wsX1_rest (wsV RX1 48 RX1 yX1_mayBoth wsX1_mayBoth) := goodIn_app (goodIn_of _ (by decide +kernel)) ggX1_rest_X1_mayBoth
theorem dX1_rest_0 : decode cX1_rest 0 = .ok (.aload_n 0, 1) := by decide +kernel
theorem dX1_rest_1 : decode cX1_rest 1 = .ok (.aload_n 0, 1) := by decide +kernel
theorem dX1_rest_2 : decode cX1_rest 2 = .ok (.iload_n 1, 1) := by decide +kernel
theorem dX1_rest_3 : decode cX1_rest 3 = .ok (.invokevirtual 52, 3) := by decide +kernel
theorem dX1_rest_6 : decode cX1_rest 6 = .ok (.ifCond .eq 14, 3) := by decide +kernel
theorem dX1_rest_9 : decode cX1_rest 9 = .ok (.iload_n 2, 1) := by decide +kernel
theorem dX1_rest_10 : decode cX1_rest 10 = .ok (.invokestatic 56, 3) := by decide +kernel
theorem dX1_rest_13 : decode cX1_rest 13 = .ok (.ifCond .eq 7, 3) := by decide +kernel
theorem dX1_rest_16 : decode cX1_rest 16 = .ok (.iconst 1, 1) := by decide +kernel
theorem dX1_rest_17 : decode cX1_rest 17 = .ok (.goto 4, 3) := by decide +kernel
theorem dX1_rest_20 : decode cX1_rest 20 = .ok (.iconst 0, 1) := by decide +kernel
theorem dX1_rest_21 : decode cX1_rest 21 = .ok (.iload_n 3, 1) := by decide +kernel
theorem dX1_rest_22 : decode cX1_rest 22 = .ok (.iconst 1, 1) := by decide +kernel
theorem dX1_rest_23 : decode cX1_rest 23 = .ok (.bipush 36, 2) := by decide +kernel
theorem dX1_rest_25 : decode cX1_rest 25 = .ok (.invokestatic 41, 3) := by decide +kernel
theorem dX1_rest_28 : decode cX1_rest 28 = .ok (.invokevirtual 48, 3) := by decide +kernel
theorem dX1_rest_31 : decode cX1_rest 31 = .ok (.ifCond .ne 5, 3) := by decide +kernel
theorem dX1_rest_34 : decode cX1_rest 34 = .ok (.iconst 0, 1) := by decide +kernel
theorem dX1_rest_35 : decode cX1_rest 35 = .ok (.ireturn, 1) := by decide +kernel
theorem dX1_rest_36 : decode cX1_rest 36 = .ok (.iconst 0, 1) := by decide +kernel
theorem dX1_rest_37 : decode cX1_rest 37 = .ok (.istore 4, 2) := by decide +kernel
theorem dX1_rest_39 : decode cX1_rest 39 = .ok (.iload_n 2, 1) := by decide +kernel
theorem dX1_rest_40 : decode cX1_rest 40 = .ok (.istore 5, 2) := by decide +kernel
theorem dX1_rest_42 : decode cX1_rest 42 = .ok (.iload 5, 2) := by decide +kernel
theorem dX1_rest_44 : decode cX1_rest 44 = .ok (.iload_n 2, 1) := by decide +kernel
theorem dX1_rest_45 : decode cX1_rest 45 = .ok (.iload_n 3, 1) := by decide +kernel
theorem dX1_rest_46 : decode cX1_rest 46 = .ok (.iadd, 1) := by decide +kernel
theorem dX1_rest_47 : decode cX1_rest 47 = .ok (.if_icmp .ge 46, 3) := by decide +kernel
theorem dX1_rest_50 : decode cX1_rest 50 = .ok (.iload 5, 2) := by decide +kernel
theorem dX1_rest_52 : decode cX1_rest 52 = .ok (.bipush 36, 2) := by decide +kernel
theorem dX1_rest_54 : decode cX1_rest 54 = .ok (.if_icmp .ge 39, 3) := by decide +kernel
theorem dX1_rest_57 : decode cX1_rest 57 = .ok (.iload 4, 2) := by decide +kernel
theorem dX1_rest_59 : decode cX1_rest 59 = .ok (.aload_n 0, 1) := by decide +kernel
theorem dX1_rest_60 : decode cX1_rest 60 = .ok (.getfield 19, 3) := by decide +kernel
theorem dX1_rest_63 : decode cX1_rest 63 = .ok (.bipush 36, 2) := by decide +kernel
theorem dX1_rest_65 : decode cX1_rest 65 = .ok (.iload_n 1, 1) := by decide +kernel
theorem dX1_rest_66 : decode cX1_rest 66 = .ok (.imul, 1) := by decide +kernel
theorem dX1_rest_67 : decode cX1_rest 67 = .ok (.iload 5, 2) := by decide +kernel
theorem dX1_rest_69 : decode cX1_rest 69 = .ok (.iadd, 1) := by decide +kernel
theorem dX1_rest_70 : decode cX1_rest 70 = .ok (.iaload, 1) := by decide +kernel
theorem dX1_rest_71 : decode cX1_rest 71 = .ok (.iadd, 1) := by decide +kernel
theorem dX1_rest_72 : decode cX1_rest 72 = .ok (.istore 4, 2) := by decide +kernel
theorem dX1_rest_74 : decode cX1_rest 74 = .ok (.aload_n 0, 1) := by decide +kernel
theorem dX1_rest_75 : decode cX1_rest 75 = .ok (.getfield 19, 3) := by decide +kernel
theorem dX1_rest_78 : decode cX1_rest 78 = .ok (.bipush 36, 2) := by decide +kernel
theorem dX1_rest_80 : decode cX1_rest 80 = .ok (.iload_n 1, 1) := by decide +kernel
theorem dX1_rest_81 : decode cX1_rest 81 = .ok (.imul, 1) := by decide +kernel
theorem dX1_rest_82 : decode cX1_rest 82 = .ok (.iload 5, 2) := by decide +kernel
theorem dX1_rest_84 : decode cX1_rest 84 = .ok (.iadd, 1) := by decide +kernel
theorem dX1_rest_85 : decode cX1_rest 85 = .ok (.iconst 0, 1) := by decide +kernel
theorem dX1_rest_86 : decode cX1_rest 86 = .ok (.iastore, 1) := by decide +kernel
theorem dX1_rest_87 : decode cX1_rest 87 = .ok (.iinc 5 1, 3) := by decide +kernel
theorem dX1_rest_90 : decode cX1_rest 90 = .ok (.goto (-48), 3) := by decide +kernel
theorem dX1_rest_93 : decode cX1_rest 93 = .ok (.iload 4, 2) := by decide +kernel
theorem dX1_rest_95 : decode cX1_rest 95 = .ok (.ireturn, 1) := by decide +kernel
theorem dX1_pumpedIn_0 : decode cX1_pumpedIn 0 = .ok (.iconst 0, 1) := by decide +kernel
theorem dX1_pumpedIn_1 : decode cX1_pumpedIn 1 = .ok (.istore_n 3, 1) := by decide +kernel
theorem dX1_pumpedIn_2 : decode cX1_pumpedIn 2 = .ok (.bipush 12, 2) := by decide +kernel
theorem dX1_pumpedIn_4 : decode cX1_pumpedIn 4 = .ok (.iload_n 2, 1) := by decide +kernel
theorem dX1_pumpedIn_5 : decode cX1_pumpedIn 5 = .ok (.imul, 1) := by decide +kernel
theorem dX1_pumpedIn_6 : decode cX1_pumpedIn 6 = .ok (.istore 4, 2) := by decide +kernel
theorem dX1_pumpedIn_8 : decode cX1_pumpedIn 8 = .ok (.iload 4, 2) := by decide +kernel
theorem dX1_pumpedIn_10 : decode cX1_pumpedIn 10 = .ok (.bipush 12, 2) := by decide +kernel
theorem dX1_pumpedIn_12 : decode cX1_pumpedIn 12 = .ok (.iload_n 2, 1) := by decide +kernel
theorem dX1_pumpedIn_13 : decode cX1_pumpedIn 13 = .ok (.imul, 1) := by decide +kernel
theorem dX1_pumpedIn_14 : decode cX1_pumpedIn 14 = .ok (.bipush 12, 2) := by decide +kernel
theorem dX1_pumpedIn_16 : decode cX1_pumpedIn 16 = .ok (.iadd, 1) := by decide +kernel
theorem dX1_pumpedIn_17 : decode cX1_pumpedIn 17 = .ok (.if_icmp .ge 24, 3) := by decide +kernel
theorem dX1_pumpedIn_20 : decode cX1_pumpedIn 20 = .ok (.iload_n 3, 1) := by decide +kernel
theorem dX1_pumpedIn_21 : decode cX1_pumpedIn 21 = .ok (.aload_n 0, 1) := by decide +kernel
theorem dX1_pumpedIn_22 : decode cX1_pumpedIn 22 = .ok (.getfield 19, 3) := by decide +kernel
theorem dX1_pumpedIn_25 : decode cX1_pumpedIn 25 = .ok (.bipush 36, 2) := by decide +kernel
theorem dX1_pumpedIn_27 : decode cX1_pumpedIn 27 = .ok (.iload_n 1, 1) := by decide +kernel
theorem dX1_pumpedIn_28 : decode cX1_pumpedIn 28 = .ok (.imul, 1) := by decide +kernel
theorem dX1_pumpedIn_29 : decode cX1_pumpedIn 29 = .ok (.iload 4, 2) := by decide +kernel
theorem dX1_pumpedIn_31 : decode cX1_pumpedIn 31 = .ok (.iadd, 1) := by decide +kernel
theorem dX1_pumpedIn_32 : decode cX1_pumpedIn 32 = .ok (.iaload, 1) := by decide +kernel
theorem dX1_pumpedIn_33 : decode cX1_pumpedIn 33 = .ok (.iadd, 1) := by decide +kernel
theorem dX1_pumpedIn_34 : decode cX1_pumpedIn 34 = .ok (.istore_n 3, 1) := by decide +kernel
theorem dX1_pumpedIn_35 : decode cX1_pumpedIn 35 = .ok (.iinc 4 1, 3) := by decide +kernel
theorem dX1_pumpedIn_38 : decode cX1_pumpedIn 38 = .ok (.goto (-30), 3) := by decide +kernel
theorem dX1_pumpedIn_41 : decode cX1_pumpedIn 41 = .ok (.iload_n 3, 1) := by decide +kernel
theorem dX1_pumpedIn_42 : decode cX1_pumpedIn 42 = .ok (.ireturn, 1) := by decide +kernel
set_option maxRecDepth 20000 in
theorem ggX1_pumped_X1_isWell : GoodIn wsX1_pumped wsX1_isWell := goodIn_r _ [5, 6, 7, 8, 4, 9, 23, 24, 25, 26, 27, 28, 29, 30, 31, 32, 33] (by decide +kernel) (by decide +kernel)
set_option maxRecDepth 20000 in
theorem gX1_pumped_X1_isWell : GoodIn wsX1_pumped (wsV RX1 52 RX1 yX1_isWell wsX1_isWell) := goodIn_app (goodIn_of _ (by decide +kernel)) ggX1_pumped_X1_isWell
set_option maxRecDepth 20000 in
theorem ggX1_pumped_X1_isYear : GoodIn wsX1_pumped wsX1_isYear := goodIn_r _ [12, 7, 8, 4, 9] (by decide +kernel) (by decide +kernel)
set_option maxRecDepth 20000 in
theorem gX1_pumped_X1_isYear : GoodIn wsX1_pumped (va_wsS RX1 59 yX1_isYear wsX1_isYear) := goodIn_app (goodIn_of _ (by decide +kernel)) ggX1_pumped_X1_isYear
set_option maxRecDepth 20000 in
theorem ggX1_pumped_X1_may : GoodIn wsX1_pumped wsX1_may := goodIn_r _ [16, 17, 23, 24, 25, 26, 27, 28, 29, 30, 31, 32, 33] (by decide +kernel) (by decide +kernel)
set_option maxRecDepth 20000 in
theorem gX1_pumped_X1_may : GoodIn wsX1_pumped (wsV RX1 62 RX1 yX1_may wsX1_may) := goodIn_app (goodIn_of _ (by decide +kernel)) ggX1_pumped_X1_may
set_option maxRecDepth 20000 in
theorem ggX1_pumped_X1_pumpedIn : GoodIn wsX1_pumped wsX1_pumpedIn := goodIn_r _ [21, 22, 23, 24, 25, 26, 27, 28, 29, 30, 31, 32, 33] (by decide +kernel) (by decide +kernel)
set_option maxRecDepth 20000 in
theorem gX1_pumped_X1_pumpedIn : GoodIn wsX1_pumped (wsV RX1 66 RX1 yX1_pumpedIn wsX1_pumpedIn) := goodIn_app (goodIn_of _ (by decide +kernel)) ggX1_pumped_X1_pumpedIn
theorem dX1_pumped_0 : decode cX1_pumped 0 = .ok (.aload_n 0, 1) := by decide +kernel
theorem dX1_pumped_1 : decode cX1_pumped 1 = .ok (.aload_n 0, 1) := by decide +kernel
theorem dX1_pumped_2 : decode cX1_pumped 2 = .ok (.iload_n 1, 1) := by decide +kernel
theorem dX1_pumped_3 : decode cX1_pumped 3 = .ok (.invokevirtual 52, 3) := by decide +kernel
theorem dX1_pumped_6 : decode cX1_pumped 6 = .ok (.ifCond .eq 14, 3) := by decide +kernel
theorem dX1_pumped_9 : decode cX1_pumped 9 = .ok (.iload_n 2, 1) := by decide +kernel
theorem dX1_pumped_10 : decode cX1_pumped 10 = .ok (.invokestatic 59, 3) := by decide +kernel
theorem dX1_pumped_13 : decode cX1_pumped 13 = .ok (.ifCond .eq 7, 3) := by decide +kernel
theorem dX1_pumped_16 : decode cX1_pumped 16 = .ok (.iconst 1, 1) := by decide +kernel
theorem dX1_pumped_17 : decode cX1_pumped 17 = .ok (.goto 4, 3) := by decide +kernel
theorem dX1_pumped_20 : decode cX1_pumped 20 = .ok (.iconst 0, 1) := by decide +kernel
theorem dX1_pumped_21 : decode cX1_pumped 21 = .ok (.invokevirtual 62, 3) := by decide +kernel
theorem dX1_pumped_24 : decode cX1_pumped 24 = .ok (.ifCond .eq 12, 3) := by decide +kernel
theorem dX1_pumped_27 : decode cX1_pumped 27 = .ok (.aload_n 0, 1) := by decide +kernel
theorem dX1_pumped_28 : decode cX1_pumped 28 = .ok (.iload_n 1, 1) := by decide +kernel
theorem dX1_pumped_29 : decode cX1_pumped 29 = .ok (.iload_n 2, 1) := by decide +kernel
theorem dX1_pumped_30 : decode cX1_pumped 30 = .ok (.invokevirtual 66, 3) := by decide +kernel
theorem dX1_pumped_33 : decode cX1_pumped 33 = .ok (.goto 4, 3) := by decide +kernel
theorem dX1_pumped_36 : decode cX1_pumped 36 = .ok (.iconst 0, 1) := by decide +kernel
theorem dX1_pumped_37 : decode cX1_pumped 37 = .ok (.ireturn, 1) := by decide +kernel
set_option maxRecDepth 20000 in
theorem ggX1_beyond_X1_isYear : GoodIn wsX1_beyond wsX1_isYear := goodIn_r _ [6, 7, 8, 5, 9] (by decide +kernel) (by decide +kernel)
set_option maxRecDepth 20000 in
theorem gX1_beyond_X1_isYear : GoodIn wsX1_beyond (va_wsS RX1 59 yX1_isYear wsX1_isYear) := goodIn_app (goodIn_of _ (by decide +kernel)) ggX1_beyond_X1_isYear
set_option maxRecDepth 20000 in
theorem ggX1_beyond_X1_may : GoodIn wsX1_beyond wsX1_may := goodIn_r _ [13, 14, 20, 21, 22, 23, 24, 25, 26, 27, 28, 29, 30] (by decide +kernel) (by decide +kernel)
set_option maxRecDepth 20000 in
theorem gX1_beyond_X1_may : GoodIn wsX1_beyond (wsV RX1 62 RX1 yX1_may wsX1_may) := goodIn_app (goodIn_of _ (by decide +kernel)) ggX1_beyond_X1_may
set_option maxRecDepth 20000 in
theorem ggX1_beyond_X1_pumpedIn : GoodIn wsX1_beyond wsX1_pumpedIn := goodIn_r _ [18, 19, 20, 21, 22, 23, 24, 25, 26, 27, 28, 29, 30] (by decide +kernel) (by decide +kernel)
set_option maxRecDepth 20000 in
theorem gX1_beyond_X1_pumpedIn : GoodIn wsX1_beyond (wsV RX1 66 RX1 yX1_pumpedIn wsX1_pumpedIn) := goodIn_app (goodIn_of _ (by decide +kernel)) ggX1_beyond_X1_pumpedIn
theorem dX1_beyond_0 : decode cX1_beyond 0 = .ok (.aload_n 0, 1) := by decide +kernel
theorem dX1_beyond_1 : decode cX1_beyond 1 = .ok (.iload_n 1, 1) := by decide +kernel
theorem dX1_beyond_2 : decode cX1_beyond 2 = .ok (.invokestatic 59, 3) := by decide +kernel
theorem dX1_beyond_5 : decode cX1_beyond 5 = .ok (.invokevirtual 62, 3) := by decide +kernel
theorem dX1_beyond_8 : decode cX1_beyond 8 = .ok (.ifCond .ne 5, 3) := by decide +kernel
theorem dX1_beyond_11 : decode cX1_beyond 11 = .ok (.iconst 0, 1) := by decide +kernel
theorem dX1_beyond_12 : decode cX1_beyond 12 = .ok (.ireturn, 1) := by decide +kernel
theorem dX1_beyond_13 : decode cX1_beyond 13 = .ok (.iconst 0, 1) := by decide +kernel
theorem dX1_beyond_14 : decode cX1_beyond 14 = .ok (.istore_n 2, 1) := by decide +kernel
theorem dX1_beyond_15 : decode cX1_beyond 15 = .ok (.iconst 0, 1) := by decide +kernel
theorem dX1_beyond_16 : decode cX1_beyond 16 = .ok (.istore_n 3, 1) := by decide +kernel
theorem dX1_beyond_17 : decode cX1_beyond 17 = .ok (.iload_n 3, 1) := by decide +kernel
theorem dX1_beyond_18 : decode cX1_beyond 18 = .ok (.aload_n 0, 1) := by decide +kernel
theorem dX1_beyond_19 : decode cX1_beyond 19 = .ok (.getfield 38, 3) := by decide +kernel
theorem dX1_beyond_22 : decode cX1_beyond 22 = .ok (.if_icmp .ge 38, 3) := by decide +kernel
theorem dX1_beyond_25 : decode cX1_beyond 25 = .ok (.aload_n 0, 1) := by decide +kernel
theorem dX1_beyond_26 : decode cX1_beyond 26 = .ok (.iload_n 3, 1) := by decide +kernel
theorem dX1_beyond_27 : decode cX1_beyond 27 = .ok (.iload_n 1, 1) := by decide +kernel
theorem dX1_beyond_28 : decode cX1_beyond 28 = .ok (.invokevirtual 66, 3) := by decide +kernel
theorem dX1_beyond_31 : decode cX1_beyond 31 = .ok (.aload_n 0, 1) := by decide +kernel
theorem dX1_beyond_32 : decode cX1_beyond 32 = .ok (.getfield 16, 3) := by decide +kernel
theorem dX1_beyond_35 : decode cX1_beyond 35 = .ok (.iload_n 3, 1) := by decide +kernel
theorem dX1_beyond_36 : decode cX1_beyond 36 = .ok (.iaload, 1) := by decide +kernel
theorem dX1_beyond_37 : decode cX1_beyond 37 = .ok (.isub, 1) := by decide +kernel
theorem dX1_beyond_38 : decode cX1_beyond 38 = .ok (.istore 4, 2) := by decide +kernel
theorem dX1_beyond_40 : decode cX1_beyond 40 = .ok (.iload_n 2, 1) := by decide +kernel
theorem dX1_beyond_41 : decode cX1_beyond 41 = .ok (.iload 4, 2) := by decide +kernel
theorem dX1_beyond_43 : decode cX1_beyond 43 = .ok (.ifCond .le 8, 3) := by decide +kernel
theorem dX1_beyond_46 : decode cX1_beyond 46 = .ok (.iload 4, 2) := by decide +kernel
theorem dX1_beyond_48 : decode cX1_beyond 48 = .ok (.goto 4, 3) := by decide +kernel
theorem dX1_beyond_51 : decode cX1_beyond 51 = .ok (.iconst 0, 1) := by decide +kernel
theorem dX1_beyond_52 : decode cX1_beyond 52 = .ok (.iadd, 1) := by decide +kernel
theorem dX1_beyond_53 : decode cX1_beyond 53 = .ok (.istore_n 2, 1) := by decide +kernel
theorem dX1_beyond_54 : decode cX1_beyond 54 = .ok (.iinc 3 1, 3) := by decide +kernel
theorem dX1_beyond_57 : decode cX1_beyond 57 = .ok (.goto (-40), 3) := by decide +kernel
theorem dX1_beyond_60 : decode cX1_beyond 60 = .ok (.iload_n 2, 1) := by decide +kernel
theorem dX1_beyond_61 : decode cX1_beyond 61 = .ok (.ireturn, 1) := by decide +kernel
theorem dX1_answer_0 : decode cX1_answer 0 = .ok (.aload_n 0, 1) := by decide +kernel
theorem dX1_answer_1 : decode cX1_answer 1 = .ok (.getfield 7, 3) := by decide +kernel
theorem dX1_answer_4 : decode cX1_answer 4 = .ok (.iload_n 1, 1) := by decide +kernel
theorem dX1_answer_5 : decode cX1_answer 5 = .ok (.iaload, 1) := by decide +kernel
theorem dX1_answer_6 : decode cX1_answer 6 = .ok (.aload_n 0, 1) := by decide +kernel
theorem dX1_answer_7 : decode cX1_answer 7 = .ok (.getfield 22, 3) := by decide +kernel
theorem dX1_answer_10 : decode cX1_answer 10 = .ok (.iload_n 2, 1) := by decide +kernel
theorem dX1_answer_11 : decode cX1_answer 11 = .ok (.iaload, 1) := by decide +kernel
theorem dX1_answer_12 : decode cX1_answer 12 = .ok (.isub, 1) := by decide +kernel
theorem dX1_answer_13 : decode cX1_answer 13 = .ok (.istore 4, 2) := by decide +kernel
theorem dX1_answer_15 : decode cX1_answer 15 = .ok (.iload 4, 2) := by decide +kernel
theorem dX1_answer_17 : decode cX1_answer 17 = .ok (.ifCond .ge 9, 3) := by decide +kernel
theorem dX1_answer_20 : decode cX1_answer 20 = .ok (.iload 4, 2) := by decide +kernel
theorem dX1_answer_22 : decode cX1_answer 22 = .ok (.ineg, 1) := by decide +kernel
theorem dX1_answer_23 : decode cX1_answer 23 = .ok (.goto 5, 3) := by decide +kernel
theorem dX1_answer_26 : decode cX1_answer 26 = .ok (.iload 4, 2) := by decide +kernel
theorem dX1_answer_28 : decode cX1_answer 28 = .ok (.bipush 10, 2) := by decide +kernel
theorem dX1_answer_30 : decode cX1_answer 30 = .ok (.idiv, 1) := by decide +kernel
theorem dX1_answer_31 : decode cX1_answer 31 = .ok (.istore 5, 2) := by decide +kernel
theorem dX1_answer_33 : decode cX1_answer 33 = .ok (.iload 5, 2) := by decide +kernel
theorem dX1_answer_35 : decode cX1_answer 35 = .ok (.iconst 5, 1) := by decide +kernel
theorem dX1_answer_36 : decode cX1_answer 36 = .ok (.if_icmp .ge 28, 3) := by decide +kernel
theorem dX1_answer_39 : decode cX1_answer 39 = .ok (.iload_n 3, 1) := by decide +kernel
theorem dX1_answer_40 : decode cX1_answer 40 = .ok (.ifCond .lt 24, 3) := by decide +kernel
theorem dX1_answer_43 : decode cX1_answer 43 = .ok (.iload_n 3, 1) := by decide +kernel
theorem dX1_answer_44 : decode cX1_answer 44 = .ok (.bipush 12, 2) := by decide +kernel
theorem dX1_answer_46 : decode cX1_answer 46 = .ok (.if_icmp .ge 18, 3) := by decide +kernel
theorem dX1_answer_49 : decode cX1_answer 49 = .ok (.aload_n 0, 1) := by decide +kernel
theorem dX1_answer_50 : decode cX1_answer 50 = .ok (.getfield 28, 3) := by decide +kernel
theorem dX1_answer_53 : decode cX1_answer 53 = .ok (.bipush 12, 2) := by decide +kernel
theorem dX1_answer_55 : decode cX1_answer 55 = .ok (.iload 5, 2) := by decide +kernel
theorem dX1_answer_57 : decode cX1_answer 57 = .ok (.imul, 1) := by decide +kernel
theorem dX1_answer_58 : decode cX1_answer 58 = .ok (.iload_n 3, 1) := by decide +kernel
theorem dX1_answer_59 : decode cX1_answer 59 = .ok (.iadd, 1) := by decide +kernel
theorem dX1_answer_60 : decode cX1_answer 60 = .ok (.iaload, 1) := by decide +kernel
theorem dX1_answer_61 : decode cX1_answer 61 = .ok (.goto 4, 3) := by decide +kernel
theorem dX1_answer_64 : decode cX1_answer 64 = .ok (.iconst 0, 1) := by decide +kernel
theorem dX1_answer_65 : decode cX1_answer 65 = .ok (.ireturn, 1) := by decide +kernel
set_option maxRecDepth 20000 in
theorem ggX1_drawdownOf_X1_answer : GoodIn wsX1_drawdownOf wsX1_answer := goodIn_r _ [7, 8, 9, 10, 11, 12, 13, 14, 15, 16, 17, 18, 19, 20, 21] (by decide +kernel) (by decide +kernel)
set_option maxRecDepth 20000 in
theorem gX1_drawdownOf_X1_answer : GoodIn wsX1_drawdownOf (wsV RX1 70 RX1 yX1_answer wsX1_answer) := goodIn_app (goodIn_of _ (by decide +kernel)) ggX1_drawdownOf_X1_answer
theorem dX1_drawdownOf_0 : decode cX1_drawdownOf 0 = .ok (.lconst 0, 1) := by decide +kernel
theorem dX1_drawdownOf_1 : decode cX1_drawdownOf 1 = .ok (.lstore_n 3, 1) := by decide +kernel
theorem dX1_drawdownOf_2 : decode cX1_drawdownOf 2 = .ok (.iconst 0, 1) := by decide +kernel
theorem dX1_drawdownOf_3 : decode cX1_drawdownOf 3 = .ok (.istore 5, 2) := by decide +kernel
theorem dX1_drawdownOf_5 : decode cX1_drawdownOf 5 = .ok (.iload 5, 2) := by decide +kernel
theorem dX1_drawdownOf_7 : decode cX1_drawdownOf 7 = .ok (.aload_n 0, 1) := by decide +kernel
theorem dX1_drawdownOf_8 : decode cX1_drawdownOf 8 = .ok (.getfield 38, 3) := by decide +kernel
theorem dX1_drawdownOf_11 : decode cX1_drawdownOf 11 = .ok (.if_icmp .ge 54, 3) := by decide +kernel
theorem dX1_drawdownOf_14 : decode cX1_drawdownOf 14 = .ok (.iconst 0, 1) := by decide +kernel
theorem dX1_drawdownOf_15 : decode cX1_drawdownOf 15 = .ok (.istore 6, 2) := by decide +kernel
theorem dX1_drawdownOf_17 : decode cX1_drawdownOf 17 = .ok (.iload 6, 2) := by decide +kernel
theorem dX1_drawdownOf_19 : decode cX1_drawdownOf 19 = .ok (.iload_n 2, 1) := by decide +kernel
theorem dX1_drawdownOf_20 : decode cX1_drawdownOf 20 = .ok (.if_icmp .gt 39, 3) := by decide +kernel
theorem dX1_drawdownOf_23 : decode cX1_drawdownOf 23 = .ok (.lload_n 3, 1) := by decide +kernel
theorem dX1_drawdownOf_24 : decode cX1_drawdownOf 24 = .ok (.aload_n 0, 1) := by decide +kernel
theorem dX1_drawdownOf_25 : decode cX1_drawdownOf 25 = .ok (.getfield 19, 3) := by decide +kernel
theorem dX1_drawdownOf_28 : decode cX1_drawdownOf 28 = .ok (.bipush 36, 2) := by decide +kernel
theorem dX1_drawdownOf_30 : decode cX1_drawdownOf 30 = .ok (.iload 5, 2) := by decide +kernel
theorem dX1_drawdownOf_32 : decode cX1_drawdownOf 32 = .ok (.imul, 1) := by decide +kernel
theorem dX1_drawdownOf_33 : decode cX1_drawdownOf 33 = .ok (.iload 6, 2) := by decide +kernel
theorem dX1_drawdownOf_35 : decode cX1_drawdownOf 35 = .ok (.iadd, 1) := by decide +kernel
theorem dX1_drawdownOf_36 : decode cX1_drawdownOf 36 = .ok (.iaload, 1) := by decide +kernel
theorem dX1_drawdownOf_37 : decode cX1_drawdownOf 37 = .ok (.i2l, 1) := by decide +kernel
theorem dX1_drawdownOf_38 : decode cX1_drawdownOf 38 = .ok (.aload_n 0, 1) := by decide +kernel
theorem dX1_drawdownOf_39 : decode cX1_drawdownOf 39 = .ok (.iload 5, 2) := by decide +kernel
theorem dX1_drawdownOf_41 : decode cX1_drawdownOf 41 = .ok (.iload_n 1, 1) := by decide +kernel
theorem dX1_drawdownOf_42 : decode cX1_drawdownOf 42 = .ok (.iload_n 2, 1) := by decide +kernel
theorem dX1_drawdownOf_43 : decode cX1_drawdownOf 43 = .ok (.iload 6, 2) := by decide +kernel
theorem dX1_drawdownOf_45 : decode cX1_drawdownOf 45 = .ok (.isub, 1) := by decide +kernel
theorem dX1_drawdownOf_46 : decode cX1_drawdownOf 46 = .ok (.invokevirtual 70, 3) := by decide +kernel
theorem dX1_drawdownOf_49 : decode cX1_drawdownOf 49 = .ok (.i2l, 1) := by decide +kernel
theorem dX1_drawdownOf_50 : decode cX1_drawdownOf 50 = .ok (.lmul, 1) := by decide +kernel
theorem dX1_drawdownOf_51 : decode cX1_drawdownOf 51 = .ok (.ladd, 1) := by decide +kernel
theorem dX1_drawdownOf_52 : decode cX1_drawdownOf 52 = .ok (.lstore_n 3, 1) := by decide +kernel
theorem dX1_drawdownOf_53 : decode cX1_drawdownOf 53 = .ok (.iinc 6 1, 3) := by decide +kernel
theorem dX1_drawdownOf_56 : decode cX1_drawdownOf 56 = .ok (.goto (-39), 3) := by decide +kernel
theorem dX1_drawdownOf_59 : decode cX1_drawdownOf 59 = .ok (.iinc 5 1, 3) := by decide +kernel
theorem dX1_drawdownOf_62 : decode cX1_drawdownOf 62 = .ok (.goto (-57), 3) := by decide +kernel
theorem dX1_drawdownOf_65 : decode cX1_drawdownOf 65 = .ok (.lload_n 3, 1) := by decide +kernel
theorem dX1_drawdownOf_66 : decode cX1_drawdownOf 66 = .ok (.lreturn, 1) := by decide +kernel
set_option maxRecDepth 20000 in
theorem ggX1_drawdown_X1_isWatch : GoodIn wsX1_drawdown wsX1_isWatch := goodIn_r _ [5, 6, 7, 8, 4, 9, 31, 32, 33, 34, 35, 36, 37, 38, 39, 40, 41] (by decide +kernel) (by decide +kernel)
set_option maxRecDepth 20000 in
theorem gX1_drawdown_X1_isWatch : GoodIn wsX1_drawdown (wsV RX1 74 RX1 yX1_isWatch wsX1_isWatch) := goodIn_app (goodIn_of _ (by decide +kernel)) ggX1_drawdown_X1_isWatch
set_option maxRecDepth 20000 in
theorem ggX1_drawdown_X1_isMonth : GoodIn wsX1_drawdown wsX1_isMonth := goodIn_r _ [12, 7, 8, 4, 9] (by decide +kernel) (by decide +kernel)
set_option maxRecDepth 20000 in
theorem gX1_drawdown_X1_isMonth : GoodIn wsX1_drawdown (va_wsS RX1 56 yX1_isMonth wsX1_isMonth) := goodIn_app (goodIn_of _ (by decide +kernel)) ggX1_drawdown_X1_isMonth
set_option maxRecDepth 20000 in
theorem ggX1_drawdown_X1_may : GoodIn wsX1_drawdown wsX1_may := goodIn_r _ [16, 17, 31, 32, 33, 34, 35, 36, 37, 38, 39, 40, 41] (by decide +kernel) (by decide +kernel)
set_option maxRecDepth 20000 in
theorem gX1_drawdown_X1_may : GoodIn wsX1_drawdown (wsV RX1 62 RX1 yX1_may wsX1_may) := goodIn_app (goodIn_of _ (by decide +kernel)) ggX1_drawdown_X1_may
set_option maxRecDepth 20000 in
theorem ggX1_drawdown_X1_drawdownOf : GoodIn wsX1_drawdown wsX1_drawdownOf := goodIn_r _ [21, 22, 23, 24, 25, 26, 4, 27, 28, 29, 30, 31, 32, 33, 34, 35, 36, 37, 38, 39, 40, 41] (by decide +kernel) (by decide +kernel)
set_option maxRecDepth 20000 in
theorem gX1_drawdown_X1_drawdownOf : GoodIn wsX1_drawdown (wsV RX1 77 RX1 yX1_drawdownOf wsX1_drawdownOf) := goodIn_app (goodIn_of _ (by decide +kernel)) ggX1_drawdown_X1_drawdownOf
theorem dX1_drawdown_0 : decode cX1_drawdown 0 = .ok (.aload_n 0, 1) := by decide +kernel
theorem dX1_drawdown_1 : decode cX1_drawdown 1 = .ok (.aload_n 0, 1) := by decide +kernel
theorem dX1_drawdown_2 : decode cX1_drawdown 2 = .ok (.iload_n 1, 1) := by decide +kernel
theorem dX1_drawdown_3 : decode cX1_drawdown 3 = .ok (.invokevirtual 74, 3) := by decide +kernel
theorem dX1_drawdown_6 : decode cX1_drawdown 6 = .ok (.ifCond .eq 14, 3) := by decide +kernel
theorem dX1_drawdown_9 : decode cX1_drawdown 9 = .ok (.iload_n 2, 1) := by decide +kernel
theorem dX1_drawdown_10 : decode cX1_drawdown 10 = .ok (.invokestatic 56, 3) := by decide +kernel
theorem dX1_drawdown_13 : decode cX1_drawdown 13 = .ok (.ifCond .eq 7, 3) := by decide +kernel
theorem dX1_drawdown_16 : decode cX1_drawdown 16 = .ok (.iconst 1, 1) := by decide +kernel
theorem dX1_drawdown_17 : decode cX1_drawdown 17 = .ok (.goto 4, 3) := by decide +kernel
theorem dX1_drawdown_20 : decode cX1_drawdown 20 = .ok (.iconst 0, 1) := by decide +kernel
theorem dX1_drawdown_21 : decode cX1_drawdown 21 = .ok (.invokevirtual 62, 3) := by decide +kernel
theorem dX1_drawdown_24 : decode cX1_drawdown 24 = .ok (.ifCond .eq 12, 3) := by decide +kernel
theorem dX1_drawdown_27 : decode cX1_drawdown 27 = .ok (.aload_n 0, 1) := by decide +kernel
theorem dX1_drawdown_28 : decode cX1_drawdown 28 = .ok (.iload_n 1, 1) := by decide +kernel
theorem dX1_drawdown_29 : decode cX1_drawdown 29 = .ok (.iload_n 2, 1) := by decide +kernel
theorem dX1_drawdown_30 : decode cX1_drawdown 30 = .ok (.invokevirtual 77, 3) := by decide +kernel
theorem dX1_drawdown_33 : decode cX1_drawdown 33 = .ok (.goto 4, 3) := by decide +kernel
theorem dX1_drawdown_36 : decode cX1_drawdown 36 = .ok (.lconst 0, 1) := by decide +kernel
theorem dX1_drawdown_37 : decode cX1_drawdown 37 = .ok (.lreturn, 1) := by decide +kernel
set_option maxRecDepth 20000 in
theorem ggX1_drawdownByPulses_X1_drawdown : GoodIn wsX1_drawdownByPulses wsX1_drawdown := goodIn_r _ [5, 6, 7, 8, 4, 9, 10, 11, 12, 13, 14, 15, 16, 17, 18, 19, 20, 21, 22, 23, 24, 25, 26, 27, 28, 29, 30, 31, 32, 33, 34, 35, 36, 37, 38, 39, 40, 41, 42, 43, 44, 45] (by decide +kernel) (by decide +kernel)
set_option maxRecDepth 20000 in
theorem gX1_drawdownByPulses_X1_drawdown : GoodIn wsX1_drawdownByPulses (wsV RX1 81 RX1 yX1_drawdown wsX1_drawdown) := goodIn_app (goodIn_of _ (by decide +kernel)) ggX1_drawdownByPulses_X1_drawdown
theorem dX1_drawdownByPulses_0 : decode cX1_drawdownByPulses 0 = .ok (.aload_n 0, 1) := by decide +kernel
theorem dX1_drawdownByPulses_1 : decode cX1_drawdownByPulses 1 = .ok (.iload_n 1, 1) := by decide +kernel
theorem dX1_drawdownByPulses_2 : decode cX1_drawdownByPulses 2 = .ok (.iload_n 2, 1) := by decide +kernel
theorem dX1_drawdownByPulses_3 : decode cX1_drawdownByPulses 3 = .ok (.invokevirtual 81, 3) := by decide +kernel
theorem dX1_drawdownByPulses_6 : decode cX1_drawdownByPulses 6 = .ok (.lreturn, 1) := by decide +kernel
set_option maxRecDepth 20000 in
theorem ggX1_worstMonth_X1_isWatch : GoodIn wsX1_worstMonth wsX1_isWatch := goodIn_r _ [5, 6, 7, 8, 4, 9, 28, 29, 30, 31, 32, 33, 34, 35, 36, 37, 38] (by decide +kernel) (by decide +kernel)
set_option maxRecDepth 20000 in
theorem gX1_worstMonth_X1_isWatch : GoodIn wsX1_worstMonth (wsV RX1 74 RX1 yX1_isWatch wsX1_isWatch) := goodIn_app (goodIn_of _ (by decide +kernel)) ggX1_worstMonth_X1_isWatch
set_option maxRecDepth 20000 in
theorem ggX1_worstMonth_X1_may : GoodIn wsX1_worstMonth wsX1_may := goodIn_r _ [13, 14, 28, 29, 30, 31, 32, 33, 34, 35, 36, 37, 38] (by decide +kernel) (by decide +kernel)
set_option maxRecDepth 20000 in
theorem gX1_worstMonth_X1_may : GoodIn wsX1_worstMonth (wsV RX1 62 RX1 yX1_may wsX1_may) := goodIn_app (goodIn_of _ (by decide +kernel)) ggX1_worstMonth_X1_may
set_option maxRecDepth 20000 in
theorem ggX1_worstMonth_X1_drawdownOf : GoodIn wsX1_worstMonth wsX1_drawdownOf := goodIn_r _ [18, 19, 20, 21, 22, 23, 4, 24, 25, 26, 27, 28, 29, 30, 31, 32, 33, 34, 35, 36, 37, 38] (by decide +kernel) (by decide +kernel)
set_option maxRecDepth 20000 in
theorem gX1_worstMonth_X1_drawdownOf : GoodIn wsX1_worstMonth (wsV RX1 77 RX1 yX1_drawdownOf wsX1_drawdownOf) := goodIn_app (goodIn_of _ (by decide +kernel)) ggX1_worstMonth_X1_drawdownOf
theorem dX1_worstMonth_0 : decode cX1_worstMonth 0 = .ok (.aload_n 0, 1) := by decide +kernel
theorem dX1_worstMonth_1 : decode cX1_worstMonth 1 = .ok (.aload_n 0, 1) := by decide +kernel
theorem dX1_worstMonth_2 : decode cX1_worstMonth 2 = .ok (.iload_n 1, 1) := by decide +kernel
theorem dX1_worstMonth_3 : decode cX1_worstMonth 3 = .ok (.invokevirtual 74, 3) := by decide +kernel
theorem dX1_worstMonth_6 : decode cX1_worstMonth 6 = .ok (.invokevirtual 62, 3) := by decide +kernel
theorem dX1_worstMonth_9 : decode cX1_worstMonth 9 = .ok (.ifCond .ne 5, 3) := by decide +kernel
theorem dX1_worstMonth_12 : decode cX1_worstMonth 12 = .ok (.iconst 0, 1) := by decide +kernel
theorem dX1_worstMonth_13 : decode cX1_worstMonth 13 = .ok (.ireturn, 1) := by decide +kernel
theorem dX1_worstMonth_14 : decode cX1_worstMonth 14 = .ok (.iconst 0, 1) := by decide +kernel
theorem dX1_worstMonth_15 : decode cX1_worstMonth 15 = .ok (.istore_n 2, 1) := by decide +kernel
theorem dX1_worstMonth_16 : decode cX1_worstMonth 16 = .ok (.iconst 1, 1) := by decide +kernel
theorem dX1_worstMonth_17 : decode cX1_worstMonth 17 = .ok (.istore_n 3, 1) := by decide +kernel
theorem dX1_worstMonth_18 : decode cX1_worstMonth 18 = .ok (.iload_n 3, 1) := by decide +kernel
theorem dX1_worstMonth_19 : decode cX1_worstMonth 19 = .ok (.bipush 36, 2) := by decide +kernel
theorem dX1_worstMonth_21 : decode cX1_worstMonth 21 = .ok (.if_icmp .ge 31, 3) := by decide +kernel
theorem dX1_worstMonth_24 : decode cX1_worstMonth 24 = .ok (.aload_n 0, 1) := by decide +kernel
theorem dX1_worstMonth_25 : decode cX1_worstMonth 25 = .ok (.iload_n 1, 1) := by decide +kernel
theorem dX1_worstMonth_26 : decode cX1_worstMonth 26 = .ok (.iload_n 3, 1) := by decide +kernel
theorem dX1_worstMonth_27 : decode cX1_worstMonth 27 = .ok (.invokevirtual 77, 3) := by decide +kernel
theorem dX1_worstMonth_30 : decode cX1_worstMonth 30 = .ok (.aload_n 0, 1) := by decide +kernel
theorem dX1_worstMonth_31 : decode cX1_worstMonth 31 = .ok (.iload_n 1, 1) := by decide +kernel
theorem dX1_worstMonth_32 : decode cX1_worstMonth 32 = .ok (.iload_n 2, 1) := by decide +kernel
theorem dX1_worstMonth_33 : decode cX1_worstMonth 33 = .ok (.invokevirtual 77, 3) := by decide +kernel
theorem dX1_worstMonth_36 : decode cX1_worstMonth 36 = .ok (.lcmp, 1) := by decide +kernel
theorem dX1_worstMonth_37 : decode cX1_worstMonth 37 = .ok (.ifCond .le 7, 3) := by decide +kernel
theorem dX1_worstMonth_40 : decode cX1_worstMonth 40 = .ok (.iload_n 3, 1) := by decide +kernel
theorem dX1_worstMonth_41 : decode cX1_worstMonth 41 = .ok (.goto 4, 3) := by decide +kernel
theorem dX1_worstMonth_44 : decode cX1_worstMonth 44 = .ok (.iload_n 2, 1) := by decide +kernel
theorem dX1_worstMonth_45 : decode cX1_worstMonth 45 = .ok (.istore_n 2, 1) := by decide +kernel
theorem dX1_worstMonth_46 : decode cX1_worstMonth 46 = .ok (.iinc 3 1, 3) := by decide +kernel
theorem dX1_worstMonth_49 : decode cX1_worstMonth 49 = .ok (.goto (-31), 3) := by decide +kernel
theorem dX1_worstMonth_52 : decode cX1_worstMonth 52 = .ok (.iload_n 2, 1) := by decide +kernel
theorem dX1_worstMonth_53 : decode cX1_worstMonth 53 = .ok (.ireturn, 1) := by decide +kernel
set_option maxRecDepth 20000 in
theorem ggX1_over_X1_isWatch : GoodIn wsX1_over wsX1_isWatch := goodIn_r _ [7, 8, 9, 10, 6, 11, 30, 31, 32, 33, 34, 35, 36, 37, 38, 39, 40] (by decide +kernel) (by decide +kernel)
set_option maxRecDepth 20000 in
theorem gX1_over_X1_isWatch : GoodIn wsX1_over (wsV RX1 74 RX1 yX1_isWatch wsX1_isWatch) := goodIn_app (goodIn_of _ (by decide +kernel)) ggX1_over_X1_isWatch
set_option maxRecDepth 20000 in
theorem ggX1_over_X1_may : GoodIn wsX1_over wsX1_may := goodIn_r _ [15, 16, 30, 31, 32, 33, 34, 35, 36, 37, 38, 39, 40] (by decide +kernel) (by decide +kernel)
set_option maxRecDepth 20000 in
theorem gX1_over_X1_may : GoodIn wsX1_over (wsV RX1 62 RX1 yX1_may wsX1_may) := goodIn_app (goodIn_of _ (by decide +kernel)) ggX1_over_X1_may
set_option maxRecDepth 20000 in
theorem ggX1_over_X1_drawdownOf : GoodIn wsX1_over wsX1_drawdownOf := goodIn_r _ [20, 21, 22, 23, 24, 25, 6, 26, 27, 28, 29, 30, 31, 32, 33, 34, 35, 36, 37, 38, 39, 40] (by decide +kernel) (by decide +kernel)
set_option maxRecDepth 20000 in
theorem gX1_over_X1_drawdownOf : GoodIn wsX1_over (wsV RX1 77 RX1 yX1_drawdownOf wsX1_drawdownOf) := goodIn_app (goodIn_of _ (by decide +kernel)) ggX1_over_X1_drawdownOf
theorem dX1_over_0 : decode cX1_over 0 = .ok (.aload_n 0, 1) := by decide +kernel
theorem dX1_over_1 : decode cX1_over 1 = .ok (.aload_n 0, 1) := by decide +kernel
theorem dX1_over_2 : decode cX1_over 2 = .ok (.iload_n 1, 1) := by decide +kernel
theorem dX1_over_3 : decode cX1_over 3 = .ok (.invokevirtual 74, 3) := by decide +kernel
theorem dX1_over_6 : decode cX1_over 6 = .ok (.invokevirtual 62, 3) := by decide +kernel
theorem dX1_over_9 : decode cX1_over 9 = .ok (.ifCond .ne 5, 3) := by decide +kernel
theorem dX1_over_12 : decode cX1_over 12 = .ok (.iconst 0, 1) := by decide +kernel
theorem dX1_over_13 : decode cX1_over 13 = .ok (.ireturn, 1) := by decide +kernel
theorem dX1_over_14 : decode cX1_over 14 = .ok (.iconst 0, 1) := by decide +kernel
theorem dX1_over_15 : decode cX1_over 15 = .ok (.istore_n 2, 1) := by decide +kernel
theorem dX1_over_16 : decode cX1_over 16 = .ok (.iconst 0, 1) := by decide +kernel
theorem dX1_over_17 : decode cX1_over 17 = .ok (.istore_n 3, 1) := by decide +kernel
theorem dX1_over_18 : decode cX1_over 18 = .ok (.iload_n 3, 1) := by decide +kernel
theorem dX1_over_19 : decode cX1_over 19 = .ok (.bipush 36, 2) := by decide +kernel
theorem dX1_over_21 : decode cX1_over 21 = .ok (.if_icmp .ge 38, 3) := by decide +kernel
theorem dX1_over_24 : decode cX1_over 24 = .ok (.iload_n 2, 1) := by decide +kernel
theorem dX1_over_25 : decode cX1_over 25 = .ok (.aload_n 0, 1) := by decide +kernel
theorem dX1_over_26 : decode cX1_over 26 = .ok (.iload_n 1, 1) := by decide +kernel
theorem dX1_over_27 : decode cX1_over 27 = .ok (.iload_n 3, 1) := by decide +kernel
theorem dX1_over_28 : decode cX1_over 28 = .ok (.invokevirtual 77, 3) := by decide +kernel
theorem dX1_over_31 : decode cX1_over 31 = .ok (.ldc2_w 84, 3) := by decide +kernel
theorem dX1_over_34 : decode cX1_over 34 = .ok (.aload_n 0, 1) := by decide +kernel
theorem dX1_over_35 : decode cX1_over 35 = .ok (.getfield 25, 3) := by decide +kernel
theorem dX1_over_38 : decode cX1_over 38 = .ok (.iload_n 1, 1) := by decide +kernel
theorem dX1_over_39 : decode cX1_over 39 = .ok (.iaload, 1) := by decide +kernel
theorem dX1_over_40 : decode cX1_over 40 = .ok (.i2l, 1) := by decide +kernel
theorem dX1_over_41 : decode cX1_over 41 = .ok (.lmul, 1) := by decide +kernel
theorem dX1_over_42 : decode cX1_over 42 = .ok (.lcmp, 1) := by decide +kernel
theorem dX1_over_43 : decode cX1_over 43 = .ok (.ifCond .le 7, 3) := by decide +kernel
theorem dX1_over_46 : decode cX1_over 46 = .ok (.iconst 1, 1) := by decide +kernel
theorem dX1_over_47 : decode cX1_over 47 = .ok (.goto 4, 3) := by decide +kernel
theorem dX1_over_50 : decode cX1_over 50 = .ok (.iconst 0, 1) := by decide +kernel
theorem dX1_over_51 : decode cX1_over 51 = .ok (.iadd, 1) := by decide +kernel
theorem dX1_over_52 : decode cX1_over 52 = .ok (.istore_n 2, 1) := by decide +kernel
theorem dX1_over_53 : decode cX1_over 53 = .ok (.iinc 3 1, 3) := by decide +kernel
theorem dX1_over_56 : decode cX1_over 56 = .ok (.goto (-38), 3) := by decide +kernel
theorem dX1_over_59 : decode cX1_over 59 = .ok (.iload_n 2, 1) := by decide +kernel
theorem dX1_over_60 : decode cX1_over 60 = .ok (.ireturn, 1) := by decide +kernel
set_option maxRecDepth 20000 in
theorem ggX1_headroom_X1_isWell : GoodIn wsX1_headroom wsX1_isWell := goodIn_r _ [9, 10, 11, 12, 8, 13, 33, 34, 35, 36, 37, 38, 39, 40, 41, 42, 43] (by decide +kernel) (by decide +kernel)
set_option maxRecDepth 20000 in
theorem gX1_headroom_X1_isWell : GoodIn wsX1_headroom (wsV RX1 52 RX1 yX1_isWell wsX1_isWell) := goodIn_app (goodIn_of _ (by decide +kernel)) ggX1_headroom_X1_isWell
set_option maxRecDepth 20000 in
theorem ggX1_headroom_X1_isMonth : GoodIn wsX1_headroom wsX1_isMonth := goodIn_r _ [16, 11, 12, 8, 13] (by decide +kernel) (by decide +kernel)
set_option maxRecDepth 20000 in
theorem gX1_headroom_X1_isMonth : GoodIn wsX1_headroom (va_wsS RX1 56 yX1_isMonth wsX1_isMonth) := goodIn_app (goodIn_of _ (by decide +kernel)) ggX1_headroom_X1_isMonth
set_option maxRecDepth 20000 in
theorem ggX1_headroom_X1_may : GoodIn wsX1_headroom wsX1_may := goodIn_r _ [20, 21, 33, 34, 35, 36, 37, 38, 39, 40, 41, 42, 43] (by decide +kernel) (by decide +kernel)
set_option maxRecDepth 20000 in
theorem gX1_headroom_X1_may : GoodIn wsX1_headroom (wsV RX1 62 RX1 yX1_may wsX1_may) := goodIn_app (goodIn_of _ (by decide +kernel)) ggX1_headroom_X1_may
set_option maxRecDepth 20000 in
theorem ggX1_headroom_X1_answer : GoodIn wsX1_headroom wsX1_answer := goodIn_r _ [25, 26, 27, 28, 33, 34, 35, 36, 37, 38, 39, 40, 41, 42, 43] (by decide +kernel) (by decide +kernel)
set_option maxRecDepth 20000 in
theorem gX1_headroom_X1_answer : GoodIn wsX1_headroom (wsV RX1 70 RX1 yX1_answer wsX1_answer) := goodIn_app (goodIn_of _ (by decide +kernel)) ggX1_headroom_X1_answer
set_option maxRecDepth 20000 in
theorem ggX1_headroom_X1_drawdownOf : GoodIn wsX1_headroom wsX1_drawdownOf := goodIn_r _ [32, 10, 1, 22, 23, 24, 8, 25, 26, 27, 28, 33, 34, 35, 36, 37, 38, 39, 40, 41, 42, 43] (by decide +kernel) (by decide +kernel)
set_option maxRecDepth 20000 in
theorem gX1_headroom_X1_drawdownOf : GoodIn wsX1_headroom (wsV RX1 77 RX1 yX1_drawdownOf wsX1_drawdownOf) := goodIn_app (goodIn_of _ (by decide +kernel)) ggX1_headroom_X1_drawdownOf
theorem dX1_headroom_0 : decode cX1_headroom 0 = .ok (.aload_n 0, 1) := by decide +kernel
theorem dX1_headroom_1 : decode cX1_headroom 1 = .ok (.aload_n 0, 1) := by decide +kernel
theorem dX1_headroom_2 : decode cX1_headroom 2 = .ok (.iload_n 1, 1) := by decide +kernel
theorem dX1_headroom_3 : decode cX1_headroom 3 = .ok (.invokevirtual 52, 3) := by decide +kernel
theorem dX1_headroom_6 : decode cX1_headroom 6 = .ok (.ifCond .eq 14, 3) := by decide +kernel
theorem dX1_headroom_9 : decode cX1_headroom 9 = .ok (.iload_n 2, 1) := by decide +kernel
theorem dX1_headroom_10 : decode cX1_headroom 10 = .ok (.invokestatic 56, 3) := by decide +kernel
theorem dX1_headroom_13 : decode cX1_headroom 13 = .ok (.ifCond .eq 7, 3) := by decide +kernel
theorem dX1_headroom_16 : decode cX1_headroom 16 = .ok (.iconst 1, 1) := by decide +kernel
theorem dX1_headroom_17 : decode cX1_headroom 17 = .ok (.goto 4, 3) := by decide +kernel
theorem dX1_headroom_20 : decode cX1_headroom 20 = .ok (.iconst 0, 1) := by decide +kernel
theorem dX1_headroom_21 : decode cX1_headroom 21 = .ok (.invokevirtual 62, 3) := by decide +kernel
theorem dX1_headroom_24 : decode cX1_headroom 24 = .ok (.ifCond .ne 5, 3) := by decide +kernel
theorem dX1_headroom_27 : decode cX1_headroom 27 = .ok (.iconst 0, 1) := by decide +kernel
theorem dX1_headroom_28 : decode cX1_headroom 28 = .ok (.ireturn, 1) := by decide +kernel
theorem dX1_headroom_29 : decode cX1_headroom 29 = .ok (.sipush 1000, 3) := by decide +kernel
theorem dX1_headroom_32 : decode cX1_headroom 32 = .ok (.aload_n 0, 1) := by decide +kernel
theorem dX1_headroom_33 : decode cX1_headroom 33 = .ok (.getfield 19, 3) := by decide +kernel
theorem dX1_headroom_36 : decode cX1_headroom 36 = .ok (.bipush 36, 2) := by decide +kernel
theorem dX1_headroom_38 : decode cX1_headroom 38 = .ok (.iload_n 1, 1) := by decide +kernel
theorem dX1_headroom_39 : decode cX1_headroom 39 = .ok (.imul, 1) := by decide +kernel
theorem dX1_headroom_40 : decode cX1_headroom 40 = .ok (.iload_n 2, 1) := by decide +kernel
theorem dX1_headroom_41 : decode cX1_headroom 41 = .ok (.iadd, 1) := by decide +kernel
theorem dX1_headroom_42 : decode cX1_headroom 42 = .ok (.iaload, 1) := by decide +kernel
theorem dX1_headroom_43 : decode cX1_headroom 43 = .ok (.isub, 1) := by decide +kernel
theorem dX1_headroom_44 : decode cX1_headroom 44 = .ok (.i2l, 1) := by decide +kernel
theorem dX1_headroom_45 : decode cX1_headroom 45 = .ok (.lstore_n 3, 1) := by decide +kernel
theorem dX1_headroom_46 : decode cX1_headroom 46 = .ok (.iconst 0, 1) := by decide +kernel
theorem dX1_headroom_47 : decode cX1_headroom 47 = .ok (.istore 5, 2) := by decide +kernel
theorem dX1_headroom_49 : decode cX1_headroom 49 = .ok (.iload 5, 2) := by decide +kernel
theorem dX1_headroom_51 : decode cX1_headroom 51 = .ok (.aload_n 0, 1) := by decide +kernel
theorem dX1_headroom_52 : decode cX1_headroom 52 = .ok (.getfield 45, 3) := by decide +kernel
theorem dX1_headroom_55 : decode cX1_headroom 55 = .ok (.if_icmp .ge 108, 3) := by decide +kernel
theorem dX1_headroom_58 : decode cX1_headroom 58 = .ok (.iconst 0, 1) := by decide +kernel
theorem dX1_headroom_59 : decode cX1_headroom 59 = .ok (.istore 6, 2) := by decide +kernel
theorem dX1_headroom_61 : decode cX1_headroom 61 = .ok (.iload 6, 2) := by decide +kernel
theorem dX1_headroom_63 : decode cX1_headroom 63 = .ok (.bipush 12, 2) := by decide +kernel
theorem dX1_headroom_65 : decode cX1_headroom 65 = .ok (.if_icmp .ge 92, 3) := by decide +kernel
theorem dX1_headroom_68 : decode cX1_headroom 68 = .ok (.iload_n 2, 1) := by decide +kernel
theorem dX1_headroom_69 : decode cX1_headroom 69 = .ok (.iload 6, 2) := by decide +kernel
theorem dX1_headroom_71 : decode cX1_headroom 71 = .ok (.iadd, 1) := by decide +kernel
theorem dX1_headroom_72 : decode cX1_headroom 72 = .ok (.bipush 36, 2) := by decide +kernel
theorem dX1_headroom_74 : decode cX1_headroom 74 = .ok (.if_icmp .ge 83, 3) := by decide +kernel
theorem dX1_headroom_77 : decode cX1_headroom 77 = .ok (.aload_n 0, 1) := by decide +kernel
theorem dX1_headroom_78 : decode cX1_headroom 78 = .ok (.iload_n 1, 1) := by decide +kernel
theorem dX1_headroom_79 : decode cX1_headroom 79 = .ok (.iload 5, 2) := by decide +kernel
theorem dX1_headroom_81 : decode cX1_headroom 81 = .ok (.iload 6, 2) := by decide +kernel
theorem dX1_headroom_83 : decode cX1_headroom 83 = .ok (.invokevirtual 70, 3) := by decide +kernel
theorem dX1_headroom_86 : decode cX1_headroom 86 = .ok (.istore 7, 2) := by decide +kernel
theorem dX1_headroom_88 : decode cX1_headroom 88 = .ok (.iload 7, 2) := by decide +kernel
theorem dX1_headroom_90 : decode cX1_headroom 90 = .ok (.ifCond .le 61, 3) := by decide +kernel
theorem dX1_headroom_93 : decode cX1_headroom 93 = .ok (.ldc2_w 84, 3) := by decide +kernel
theorem dX1_headroom_96 : decode cX1_headroom 96 = .ok (.aload_n 0, 1) := by decide +kernel
theorem dX1_headroom_97 : decode cX1_headroom 97 = .ok (.getfield 25, 3) := by decide +kernel
theorem dX1_headroom_100 : decode cX1_headroom 100 = .ok (.iload 5, 2) := by decide +kernel
theorem dX1_headroom_102 : decode cX1_headroom 102 = .ok (.iaload, 1) := by decide +kernel
theorem dX1_headroom_103 : decode cX1_headroom 103 = .ok (.i2l, 1) := by decide +kernel
theorem dX1_headroom_104 : decode cX1_headroom 104 = .ok (.lmul, 1) := by decide +kernel
theorem dX1_headroom_105 : decode cX1_headroom 105 = .ok (.aload_n 0, 1) := by decide +kernel
theorem dX1_headroom_106 : decode cX1_headroom 106 = .ok (.iload 5, 2) := by decide +kernel
theorem dX1_headroom_108 : decode cX1_headroom 108 = .ok (.iload_n 2, 1) := by decide +kernel
theorem dX1_headroom_109 : decode cX1_headroom 109 = .ok (.iload 6, 2) := by decide +kernel
theorem dX1_headroom_111 : decode cX1_headroom 111 = .ok (.iadd, 1) := by decide +kernel
theorem dX1_headroom_112 : decode cX1_headroom 112 = .ok (.invokevirtual 77, 3) := by decide +kernel
theorem dX1_headroom_115 : decode cX1_headroom 115 = .ok (.lsub, 1) := by decide +kernel
theorem dX1_headroom_116 : decode cX1_headroom 116 = .ok (.lstore 8, 2) := by decide +kernel
theorem dX1_headroom_118 : decode cX1_headroom 118 = .ok (.lload 8, 2) := by decide +kernel
theorem dX1_headroom_120 : decode cX1_headroom 120 = .ok (.lconst 0, 1) := by decide +kernel
theorem dX1_headroom_121 : decode cX1_headroom 121 = .ok (.lcmp, 1) := by decide +kernel
theorem dX1_headroom_122 : decode cX1_headroom 122 = .ok (.ifCond .ge 7, 3) := by decide +kernel
theorem dX1_headroom_125 : decode cX1_headroom 125 = .ok (.lconst 0, 1) := by decide +kernel
theorem dX1_headroom_126 : decode cX1_headroom 126 = .ok (.goto 9, 3) := by decide +kernel
theorem dX1_headroom_129 : decode cX1_headroom 129 = .ok (.lload 8, 2) := by decide +kernel
theorem dX1_headroom_131 : decode cX1_headroom 131 = .ok (.iload 7, 2) := by decide +kernel
theorem dX1_headroom_133 : decode cX1_headroom 133 = .ok (.i2l, 1) := by decide +kernel
theorem dX1_headroom_134 : decode cX1_headroom 134 = .ok (.ldiv, 1) := by decide +kernel
theorem dX1_headroom_135 : decode cX1_headroom 135 = .ok (.lstore 10, 2) := by decide +kernel
theorem dX1_headroom_137 : decode cX1_headroom 137 = .ok (.lload 10, 2) := by decide +kernel
theorem dX1_headroom_139 : decode cX1_headroom 139 = .ok (.lload_n 3, 1) := by decide +kernel
theorem dX1_headroom_140 : decode cX1_headroom 140 = .ok (.lcmp, 1) := by decide +kernel
theorem dX1_headroom_141 : decode cX1_headroom 141 = .ok (.ifCond .ge 8, 3) := by decide +kernel
theorem dX1_headroom_144 : decode cX1_headroom 144 = .ok (.lload 10, 2) := by decide +kernel
theorem dX1_headroom_146 : decode cX1_headroom 146 = .ok (.goto 4, 3) := by decide +kernel
theorem dX1_headroom_149 : decode cX1_headroom 149 = .ok (.lload_n 3, 1) := by decide +kernel
theorem dX1_headroom_150 : decode cX1_headroom 150 = .ok (.lstore_n 3, 1) := by decide +kernel
theorem dX1_headroom_151 : decode cX1_headroom 151 = .ok (.iinc 6 1, 3) := by decide +kernel
theorem dX1_headroom_154 : decode cX1_headroom 154 = .ok (.goto (-93), 3) := by decide +kernel
theorem dX1_headroom_157 : decode cX1_headroom 157 = .ok (.iinc 5 1, 3) := by decide +kernel
theorem dX1_headroom_160 : decode cX1_headroom 160 = .ok (.goto (-111), 3) := by decide +kernel
theorem dX1_headroom_163 : decode cX1_headroom 163 = .ok (.lload_n 3, 1) := by decide +kernel
theorem dX1_headroom_164 : decode cX1_headroom 164 = .ok (.l2i, 1) := by decide +kernel
theorem dX1_headroom_165 : decode cX1_headroom 165 = .ok (.ireturn, 1) := by decide +kernel
set_option maxRecDepth 20000 in
theorem ggX1_heaviest_X1_isWatch : GoodIn wsX1_heaviest wsX1_isWatch := goodIn_r _ [7, 8, 9, 10, 6, 11, 27, 28, 29, 30, 31, 32, 33, 34, 35, 36, 37] (by decide +kernel) (by decide +kernel)
set_option maxRecDepth 20000 in
theorem gX1_heaviest_X1_isWatch : GoodIn wsX1_heaviest (wsV RX1 74 RX1 yX1_isWatch wsX1_isWatch) := goodIn_app (goodIn_of _ (by decide +kernel)) ggX1_heaviest_X1_isWatch
set_option maxRecDepth 20000 in
theorem ggX1_heaviest_X1_isMonth : GoodIn wsX1_heaviest wsX1_isMonth := goodIn_r _ [14, 9, 10, 6, 11] (by decide +kernel) (by decide +kernel)
set_option maxRecDepth 20000 in
theorem gX1_heaviest_X1_isMonth : GoodIn wsX1_heaviest (va_wsS RX1 56 yX1_isMonth wsX1_isMonth) := goodIn_app (goodIn_of _ (by decide +kernel)) ggX1_heaviest_X1_isMonth
set_option maxRecDepth 20000 in
theorem ggX1_heaviest_X1_may : GoodIn wsX1_heaviest wsX1_may := goodIn_r _ [18, 19, 27, 28, 29, 30, 31, 32, 33, 34, 35, 36, 37] (by decide +kernel) (by decide +kernel)
set_option maxRecDepth 20000 in
theorem gX1_heaviest_X1_may : GoodIn wsX1_heaviest (wsV RX1 62 RX1 yX1_may wsX1_may) := goodIn_app (goodIn_of _ (by decide +kernel)) ggX1_heaviest_X1_may
set_option maxRecDepth 20000 in
theorem ggX1_heaviest_X1_answer : GoodIn wsX1_heaviest wsX1_answer := goodIn_r _ [23, 24, 25, 26, 27, 28, 29, 30, 31, 32, 33, 34, 35, 36, 37] (by decide +kernel) (by decide +kernel)
set_option maxRecDepth 20000 in
theorem gX1_heaviest_X1_answer : GoodIn wsX1_heaviest (wsV RX1 70 RX1 yX1_answer wsX1_answer) := goodIn_app (goodIn_of _ (by decide +kernel)) ggX1_heaviest_X1_answer
theorem dX1_heaviest_0 : decode cX1_heaviest 0 = .ok (.aload_n 0, 1) := by decide +kernel
theorem dX1_heaviest_1 : decode cX1_heaviest 1 = .ok (.aload_n 0, 1) := by decide +kernel
theorem dX1_heaviest_2 : decode cX1_heaviest 2 = .ok (.iload_n 1, 1) := by decide +kernel
theorem dX1_heaviest_3 : decode cX1_heaviest 3 = .ok (.invokevirtual 74, 3) := by decide +kernel
theorem dX1_heaviest_6 : decode cX1_heaviest 6 = .ok (.ifCond .eq 14, 3) := by decide +kernel
theorem dX1_heaviest_9 : decode cX1_heaviest 9 = .ok (.iload_n 2, 1) := by decide +kernel
theorem dX1_heaviest_10 : decode cX1_heaviest 10 = .ok (.invokestatic 56, 3) := by decide +kernel
theorem dX1_heaviest_13 : decode cX1_heaviest 13 = .ok (.ifCond .eq 7, 3) := by decide +kernel
theorem dX1_heaviest_16 : decode cX1_heaviest 16 = .ok (.iconst 1, 1) := by decide +kernel
theorem dX1_heaviest_17 : decode cX1_heaviest 17 = .ok (.goto 4, 3) := by decide +kernel
theorem dX1_heaviest_20 : decode cX1_heaviest 20 = .ok (.iconst 0, 1) := by decide +kernel
theorem dX1_heaviest_21 : decode cX1_heaviest 21 = .ok (.invokevirtual 62, 3) := by decide +kernel
theorem dX1_heaviest_24 : decode cX1_heaviest 24 = .ok (.ifCond .ne 5, 3) := by decide +kernel
theorem dX1_heaviest_27 : decode cX1_heaviest 27 = .ok (.iconst 0, 1) := by decide +kernel
theorem dX1_heaviest_28 : decode cX1_heaviest 28 = .ok (.ireturn, 1) := by decide +kernel
theorem dX1_heaviest_29 : decode cX1_heaviest 29 = .ok (.iconst (-1), 1) := by decide +kernel
theorem dX1_heaviest_30 : decode cX1_heaviest 30 = .ok (.istore_n 3, 1) := by decide +kernel
theorem dX1_heaviest_31 : decode cX1_heaviest 31 = .ok (.iconst 0, 1) := by decide +kernel
theorem dX1_heaviest_32 : decode cX1_heaviest 32 = .ok (.istore 4, 2) := by decide +kernel
theorem dX1_heaviest_34 : decode cX1_heaviest 34 = .ok (.iconst 0, 1) := by decide +kernel
theorem dX1_heaviest_35 : decode cX1_heaviest 35 = .ok (.istore 5, 2) := by decide +kernel
theorem dX1_heaviest_37 : decode cX1_heaviest 37 = .ok (.iload 5, 2) := by decide +kernel
theorem dX1_heaviest_39 : decode cX1_heaviest 39 = .ok (.aload_n 0, 1) := by decide +kernel
theorem dX1_heaviest_40 : decode cX1_heaviest 40 = .ok (.getfield 38, 3) := by decide +kernel
theorem dX1_heaviest_43 : decode cX1_heaviest 43 = .ok (.if_icmp .ge 78, 3) := by decide +kernel
theorem dX1_heaviest_46 : decode cX1_heaviest 46 = .ok (.iconst 0, 1) := by decide +kernel
theorem dX1_heaviest_47 : decode cX1_heaviest 47 = .ok (.istore 6, 2) := by decide +kernel
theorem dX1_heaviest_49 : decode cX1_heaviest 49 = .ok (.iconst 0, 1) := by decide +kernel
theorem dX1_heaviest_50 : decode cX1_heaviest 50 = .ok (.istore 7, 2) := by decide +kernel
theorem dX1_heaviest_52 : decode cX1_heaviest 52 = .ok (.iload 7, 2) := by decide +kernel
theorem dX1_heaviest_54 : decode cX1_heaviest 54 = .ok (.bipush 12, 2) := by decide +kernel
theorem dX1_heaviest_56 : decode cX1_heaviest 56 = .ok (.if_icmp .ge 45, 3) := by decide +kernel
theorem dX1_heaviest_59 : decode cX1_heaviest 59 = .ok (.iload_n 2, 1) := by decide +kernel
theorem dX1_heaviest_60 : decode cX1_heaviest 60 = .ok (.iload 7, 2) := by decide +kernel
theorem dX1_heaviest_62 : decode cX1_heaviest 62 = .ok (.iadd, 1) := by decide +kernel
theorem dX1_heaviest_63 : decode cX1_heaviest 63 = .ok (.bipush 36, 2) := by decide +kernel
theorem dX1_heaviest_65 : decode cX1_heaviest 65 = .ok (.if_icmp .ge 36, 3) := by decide +kernel
theorem dX1_heaviest_68 : decode cX1_heaviest 68 = .ok (.iload 6, 2) := by decide +kernel
theorem dX1_heaviest_70 : decode cX1_heaviest 70 = .ok (.aload_n 0, 1) := by decide +kernel
theorem dX1_heaviest_71 : decode cX1_heaviest 71 = .ok (.getfield 19, 3) := by decide +kernel
theorem dX1_heaviest_74 : decode cX1_heaviest 74 = .ok (.bipush 36, 2) := by decide +kernel
theorem dX1_heaviest_76 : decode cX1_heaviest 76 = .ok (.iload 5, 2) := by decide +kernel
theorem dX1_heaviest_78 : decode cX1_heaviest 78 = .ok (.imul, 1) := by decide +kernel
theorem dX1_heaviest_79 : decode cX1_heaviest 79 = .ok (.iload_n 2, 1) := by decide +kernel
theorem dX1_heaviest_80 : decode cX1_heaviest 80 = .ok (.iadd, 1) := by decide +kernel
theorem dX1_heaviest_81 : decode cX1_heaviest 81 = .ok (.iaload, 1) := by decide +kernel
theorem dX1_heaviest_82 : decode cX1_heaviest 82 = .ok (.aload_n 0, 1) := by decide +kernel
theorem dX1_heaviest_83 : decode cX1_heaviest 83 = .ok (.iload 5, 2) := by decide +kernel
theorem dX1_heaviest_85 : decode cX1_heaviest 85 = .ok (.iload_n 1, 1) := by decide +kernel
theorem dX1_heaviest_86 : decode cX1_heaviest 86 = .ok (.iload 7, 2) := by decide +kernel
theorem dX1_heaviest_88 : decode cX1_heaviest 88 = .ok (.invokevirtual 70, 3) := by decide +kernel
theorem dX1_heaviest_91 : decode cX1_heaviest 91 = .ok (.imul, 1) := by decide +kernel
theorem dX1_heaviest_92 : decode cX1_heaviest 92 = .ok (.iadd, 1) := by decide +kernel
theorem dX1_heaviest_93 : decode cX1_heaviest 93 = .ok (.istore 6, 2) := by decide +kernel
theorem dX1_heaviest_95 : decode cX1_heaviest 95 = .ok (.iinc 7 1, 3) := by decide +kernel
theorem dX1_heaviest_98 : decode cX1_heaviest 98 = .ok (.goto (-46), 3) := by decide +kernel
theorem dX1_heaviest_101 : decode cX1_heaviest 101 = .ok (.iload 6, 2) := by decide +kernel
theorem dX1_heaviest_103 : decode cX1_heaviest 103 = .ok (.iload 4, 2) := by decide +kernel
theorem dX1_heaviest_105 : decode cX1_heaviest 105 = .ok (.if_icmp .le 10, 3) := by decide +kernel
theorem dX1_heaviest_108 : decode cX1_heaviest 108 = .ok (.iload 5, 2) := by decide +kernel
theorem dX1_heaviest_110 : decode cX1_heaviest 110 = .ok (.istore_n 3, 1) := by decide +kernel
theorem dX1_heaviest_111 : decode cX1_heaviest 111 = .ok (.iload 6, 2) := by decide +kernel
theorem dX1_heaviest_113 : decode cX1_heaviest 113 = .ok (.istore 4, 2) := by decide +kernel
theorem dX1_heaviest_115 : decode cX1_heaviest 115 = .ok (.iinc 5 1, 3) := by decide +kernel
theorem dX1_heaviest_118 : decode cX1_heaviest 118 = .ok (.goto (-81), 3) := by decide +kernel
theorem dX1_heaviest_121 : decode cX1_heaviest 121 = .ok (.iload_n 3, 1) := by decide +kernel
theorem dX1_heaviest_122 : decode cX1_heaviest 122 = .ok (.ireturn, 1) := by decide +kernel
theorem dX1_takenBy_0 : decode cX1_takenBy 0 = .ok (.iconst 0, 1) := by decide +kernel
theorem dX1_takenBy_1 : decode cX1_takenBy 1 = .ok (.istore 4, 2) := by decide +kernel
theorem dX1_takenBy_3 : decode cX1_takenBy 3 = .ok (.aload_n 0, 1) := by decide +kernel
theorem dX1_takenBy_4 : decode cX1_takenBy 4 = .ok (.getfield 7, 3) := by decide +kernel
theorem dX1_takenBy_7 : decode cX1_takenBy 7 = .ok (.iload_n 1, 1) := by decide +kernel
theorem dX1_takenBy_8 : decode cX1_takenBy 8 = .ok (.iaload, 1) := by decide +kernel
theorem dX1_takenBy_9 : decode cX1_takenBy 9 = .ok (.iconst 5, 1) := by decide +kernel
theorem dX1_takenBy_10 : decode cX1_takenBy 10 = .ok (.idiv, 1) := by decide +kernel
theorem dX1_takenBy_11 : decode cX1_takenBy 11 = .ok (.istore 5, 2) := by decide +kernel
theorem dX1_takenBy_13 : decode cX1_takenBy 13 = .ok (.iconst 0, 1) := by decide +kernel
theorem dX1_takenBy_14 : decode cX1_takenBy 14 = .ok (.istore 6, 2) := by decide +kernel
theorem dX1_takenBy_16 : decode cX1_takenBy 16 = .ok (.iload 6, 2) := by decide +kernel
theorem dX1_takenBy_18 : decode cX1_takenBy 18 = .ok (.iload_n 3, 1) := by decide +kernel
theorem dX1_takenBy_19 : decode cX1_takenBy 19 = .ok (.if_icmp .ge 78, 3) := by decide +kernel
theorem dX1_takenBy_22 : decode cX1_takenBy 22 = .ok (.iload 6, 2) := by decide +kernel
theorem dX1_takenBy_24 : decode cX1_takenBy 24 = .ok (.iload 5, 2) := by decide +kernel
theorem dX1_takenBy_26 : decode cX1_takenBy 26 = .ok (.iadd, 1) := by decide +kernel
theorem dX1_takenBy_27 : decode cX1_takenBy 27 = .ok (.istore 7, 2) := by decide +kernel
theorem dX1_takenBy_29 : decode cX1_takenBy 29 = .ok (.aload_n 0, 1) := by decide +kernel
theorem dX1_takenBy_30 : decode cX1_takenBy 30 = .ok (.getfield 19, 3) := by decide +kernel
theorem dX1_takenBy_33 : decode cX1_takenBy 33 = .ok (.bipush 36, 2) := by decide +kernel
theorem dX1_takenBy_35 : decode cX1_takenBy 35 = .ok (.iload_n 1, 1) := by decide +kernel
theorem dX1_takenBy_36 : decode cX1_takenBy 36 = .ok (.imul, 1) := by decide +kernel
theorem dX1_takenBy_37 : decode cX1_takenBy 37 = .ok (.iload 6, 2) := by decide +kernel
theorem dX1_takenBy_39 : decode cX1_takenBy 39 = .ok (.iadd, 1) := by decide +kernel
theorem dX1_takenBy_40 : decode cX1_takenBy 40 = .ok (.iaload, 1) := by decide +kernel
theorem dX1_takenBy_41 : decode cX1_takenBy 41 = .ok (.istore 8, 2) := by decide +kernel
theorem dX1_takenBy_43 : decode cX1_takenBy 43 = .ok (.iload 4, 2) := by decide +kernel
theorem dX1_takenBy_45 : decode cX1_takenBy 45 = .ok (.iload 7, 2) := by decide +kernel
theorem dX1_takenBy_47 : decode cX1_takenBy 47 = .ok (.bipush 12, 2) := by decide +kernel
theorem dX1_takenBy_49 : decode cX1_takenBy 49 = .ok (.idiv, 1) := by decide +kernel
theorem dX1_takenBy_50 : decode cX1_takenBy 50 = .ok (.iload_n 2, 1) := by decide +kernel
theorem dX1_takenBy_51 : decode cX1_takenBy 51 = .ok (.if_icmp .ne 12, 3) := by decide +kernel
theorem dX1_takenBy_54 : decode cX1_takenBy 54 = .ok (.iload 8, 2) := by decide +kernel
theorem dX1_takenBy_56 : decode cX1_takenBy 56 = .ok (.iconst 1, 1) := by decide +kernel
theorem dX1_takenBy_57 : decode cX1_takenBy 57 = .ok (.iadd, 1) := by decide +kernel
theorem dX1_takenBy_58 : decode cX1_takenBy 58 = .ok (.iconst 2, 1) := by decide +kernel
theorem dX1_takenBy_59 : decode cX1_takenBy 59 = .ok (.idiv, 1) := by decide +kernel
theorem dX1_takenBy_60 : decode cX1_takenBy 60 = .ok (.goto 4, 3) := by decide +kernel
theorem dX1_takenBy_63 : decode cX1_takenBy 63 = .ok (.iconst 0, 1) := by decide +kernel
theorem dX1_takenBy_64 : decode cX1_takenBy 64 = .ok (.iadd, 1) := by decide +kernel
theorem dX1_takenBy_65 : decode cX1_takenBy 65 = .ok (.istore 4, 2) := by decide +kernel
theorem dX1_takenBy_67 : decode cX1_takenBy 67 = .ok (.iload 4, 2) := by decide +kernel
theorem dX1_takenBy_69 : decode cX1_takenBy 69 = .ok (.iload 7, 2) := by decide +kernel
theorem dX1_takenBy_71 : decode cX1_takenBy 71 = .ok (.iconst 1, 1) := by decide +kernel
theorem dX1_takenBy_72 : decode cX1_takenBy 72 = .ok (.iadd, 1) := by decide +kernel
theorem dX1_takenBy_73 : decode cX1_takenBy 73 = .ok (.bipush 12, 2) := by decide +kernel
theorem dX1_takenBy_75 : decode cX1_takenBy 75 = .ok (.idiv, 1) := by decide +kernel
theorem dX1_takenBy_76 : decode cX1_takenBy 76 = .ok (.iload_n 2, 1) := by decide +kernel
theorem dX1_takenBy_77 : decode cX1_takenBy 77 = .ok (.if_icmp .ne 10, 3) := by decide +kernel
theorem dX1_takenBy_80 : decode cX1_takenBy 80 = .ok (.iload 8, 2) := by decide +kernel
theorem dX1_takenBy_82 : decode cX1_takenBy 82 = .ok (.iconst 2, 1) := by decide +kernel
theorem dX1_takenBy_83 : decode cX1_takenBy 83 = .ok (.idiv, 1) := by decide +kernel
theorem dX1_takenBy_84 : decode cX1_takenBy 84 = .ok (.goto 4, 3) := by decide +kernel
theorem dX1_takenBy_87 : decode cX1_takenBy 87 = .ok (.iconst 0, 1) := by decide +kernel
theorem dX1_takenBy_88 : decode cX1_takenBy 88 = .ok (.iadd, 1) := by decide +kernel
theorem dX1_takenBy_89 : decode cX1_takenBy 89 = .ok (.istore 4, 2) := by decide +kernel
theorem dX1_takenBy_91 : decode cX1_takenBy 91 = .ok (.iinc 6 1, 3) := by decide +kernel
theorem dX1_takenBy_94 : decode cX1_takenBy 94 = .ok (.goto (-78), 3) := by decide +kernel
theorem dX1_takenBy_97 : decode cX1_takenBy 97 = .ok (.iload 4, 2) := by decide +kernel
theorem dX1_takenBy_99 : decode cX1_takenBy 99 = .ok (.ireturn, 1) := by decide +kernel
set_option maxRecDepth 20000 in
theorem ggX1_taken_X1_isYear : GoodIn wsX1_taken wsX1_isYear := goodIn_r _ [5, 6, 7, 4, 8] (by decide +kernel) (by decide +kernel)
set_option maxRecDepth 20000 in
theorem gX1_taken_X1_isYear : GoodIn wsX1_taken (va_wsS RX1 59 yX1_isYear wsX1_isYear) := goodIn_app (goodIn_of _ (by decide +kernel)) ggX1_taken_X1_isYear
set_option maxRecDepth 20000 in
theorem ggX1_taken_X1_may : GoodIn wsX1_taken wsX1_may := goodIn_r _ [12, 13, 20, 21, 22, 23, 24, 25, 26, 27, 28, 29, 30] (by decide +kernel) (by decide +kernel)
set_option maxRecDepth 20000 in
theorem gX1_taken_X1_may : GoodIn wsX1_taken (wsV RX1 62 RX1 yX1_may wsX1_may) := goodIn_app (goodIn_of _ (by decide +kernel)) ggX1_taken_X1_may
set_option maxRecDepth 20000 in
theorem ggX1_taken_X1_takenBy : GoodIn wsX1_taken wsX1_takenBy := goodIn_r _ [17, 18, 19, 20, 21, 22, 23, 24, 25, 26, 27, 28, 29, 30] (by decide +kernel) (by decide +kernel)
set_option maxRecDepth 20000 in
theorem gX1_taken_X1_takenBy : GoodIn wsX1_taken (wsV RX1 86 RX1 yX1_takenBy wsX1_takenBy) := goodIn_app (goodIn_of _ (by decide +kernel)) ggX1_taken_X1_takenBy
theorem dX1_taken_0 : decode cX1_taken 0 = .ok (.aload_n 0, 1) := by decide +kernel
theorem dX1_taken_1 : decode cX1_taken 1 = .ok (.iload_n 1, 1) := by decide +kernel
theorem dX1_taken_2 : decode cX1_taken 2 = .ok (.invokestatic 59, 3) := by decide +kernel
theorem dX1_taken_5 : decode cX1_taken 5 = .ok (.invokevirtual 62, 3) := by decide +kernel
theorem dX1_taken_8 : decode cX1_taken 8 = .ok (.ifCond .ne 5, 3) := by decide +kernel
theorem dX1_taken_11 : decode cX1_taken 11 = .ok (.iconst 0, 1) := by decide +kernel
theorem dX1_taken_12 : decode cX1_taken 12 = .ok (.ireturn, 1) := by decide +kernel
theorem dX1_taken_13 : decode cX1_taken 13 = .ok (.iconst 0, 1) := by decide +kernel
theorem dX1_taken_14 : decode cX1_taken 14 = .ok (.istore_n 2, 1) := by decide +kernel
theorem dX1_taken_15 : decode cX1_taken 15 = .ok (.iconst 0, 1) := by decide +kernel
theorem dX1_taken_16 : decode cX1_taken 16 = .ok (.istore_n 3, 1) := by decide +kernel
theorem dX1_taken_17 : decode cX1_taken 17 = .ok (.iload_n 3, 1) := by decide +kernel
theorem dX1_taken_18 : decode cX1_taken 18 = .ok (.aload_n 0, 1) := by decide +kernel
theorem dX1_taken_19 : decode cX1_taken 19 = .ok (.getfield 38, 3) := by decide +kernel
theorem dX1_taken_22 : decode cX1_taken 22 = .ok (.if_icmp .ge 20, 3) := by decide +kernel
theorem dX1_taken_25 : decode cX1_taken 25 = .ok (.iload_n 2, 1) := by decide +kernel
theorem dX1_taken_26 : decode cX1_taken 26 = .ok (.aload_n 0, 1) := by decide +kernel
theorem dX1_taken_27 : decode cX1_taken 27 = .ok (.iload_n 3, 1) := by decide +kernel
theorem dX1_taken_28 : decode cX1_taken 28 = .ok (.iload_n 1, 1) := by decide +kernel
theorem dX1_taken_29 : decode cX1_taken 29 = .ok (.bipush 36, 2) := by decide +kernel
theorem dX1_taken_31 : decode cX1_taken 31 = .ok (.invokevirtual 86, 3) := by decide +kernel
theorem dX1_taken_34 : decode cX1_taken 34 = .ok (.iadd, 1) := by decide +kernel
theorem dX1_taken_35 : decode cX1_taken 35 = .ok (.istore_n 2, 1) := by decide +kernel
theorem dX1_taken_36 : decode cX1_taken 36 = .ok (.iinc 3 1, 3) := by decide +kernel
theorem dX1_taken_39 : decode cX1_taken 39 = .ok (.goto (-22), 3) := by decide +kernel
theorem dX1_taken_42 : decode cX1_taken 42 = .ok (.iload_n 2, 1) := by decide +kernel
theorem dX1_taken_43 : decode cX1_taken 43 = .ok (.ireturn, 1) := by decide +kernel
set_option maxRecDepth 20000 in
theorem ggX1_takenLate_X1_isWell : GoodIn wsX1_takenLate wsX1_isWell := goodIn_r _ [5, 6, 7, 8, 4, 9, 24, 25, 26, 27, 28, 29, 30, 31, 32, 33, 34] (by decide +kernel) (by decide +kernel)
set_option maxRecDepth 20000 in
theorem gX1_takenLate_X1_isWell : GoodIn wsX1_takenLate (wsV RX1 52 RX1 yX1_isWell wsX1_isWell) := goodIn_app (goodIn_of _ (by decide +kernel)) ggX1_takenLate_X1_isWell
set_option maxRecDepth 20000 in
theorem ggX1_takenLate_X1_isYear : GoodIn wsX1_takenLate wsX1_isYear := goodIn_r _ [12, 7, 8, 4, 9] (by decide +kernel) (by decide +kernel)
set_option maxRecDepth 20000 in
theorem gX1_takenLate_X1_isYear : GoodIn wsX1_takenLate (va_wsS RX1 59 yX1_isYear wsX1_isYear) := goodIn_app (goodIn_of _ (by decide +kernel)) ggX1_takenLate_X1_isYear
set_option maxRecDepth 20000 in
theorem ggX1_takenLate_X1_may : GoodIn wsX1_takenLate wsX1_may := goodIn_r _ [16, 17, 24, 25, 26, 27, 28, 29, 30, 31, 32, 33, 34] (by decide +kernel) (by decide +kernel)
set_option maxRecDepth 20000 in
theorem gX1_takenLate_X1_may : GoodIn wsX1_takenLate (wsV RX1 62 RX1 yX1_may wsX1_may) := goodIn_app (goodIn_of _ (by decide +kernel)) ggX1_takenLate_X1_may
set_option maxRecDepth 20000 in
theorem ggX1_takenLate_X1_takenBy : GoodIn wsX1_takenLate wsX1_takenBy := goodIn_r _ [21, 22, 23, 24, 25, 26, 27, 28, 29, 30, 31, 32, 33, 34] (by decide +kernel) (by decide +kernel)
set_option maxRecDepth 20000 in
theorem gX1_takenLate_X1_takenBy : GoodIn wsX1_takenLate (wsV RX1 86 RX1 yX1_takenBy wsX1_takenBy) := goodIn_app (goodIn_of _ (by decide +kernel)) ggX1_takenLate_X1_takenBy
theorem dX1_takenLate_0 : decode cX1_takenLate 0 = .ok (.aload_n 0, 1) := by decide +kernel
theorem dX1_takenLate_1 : decode cX1_takenLate 1 = .ok (.aload_n 0, 1) := by decide +kernel
theorem dX1_takenLate_2 : decode cX1_takenLate 2 = .ok (.iload_n 1, 1) := by decide +kernel
theorem dX1_takenLate_3 : decode cX1_takenLate 3 = .ok (.invokevirtual 52, 3) := by decide +kernel
theorem dX1_takenLate_6 : decode cX1_takenLate 6 = .ok (.ifCond .eq 14, 3) := by decide +kernel
theorem dX1_takenLate_9 : decode cX1_takenLate 9 = .ok (.iload_n 2, 1) := by decide +kernel
theorem dX1_takenLate_10 : decode cX1_takenLate 10 = .ok (.invokestatic 59, 3) := by decide +kernel
theorem dX1_takenLate_13 : decode cX1_takenLate 13 = .ok (.ifCond .eq 7, 3) := by decide +kernel
theorem dX1_takenLate_16 : decode cX1_takenLate 16 = .ok (.iconst 1, 1) := by decide +kernel
theorem dX1_takenLate_17 : decode cX1_takenLate 17 = .ok (.goto 4, 3) := by decide +kernel
theorem dX1_takenLate_20 : decode cX1_takenLate 20 = .ok (.iconst 0, 1) := by decide +kernel
theorem dX1_takenLate_21 : decode cX1_takenLate 21 = .ok (.invokevirtual 62, 3) := by decide +kernel
theorem dX1_takenLate_24 : decode cX1_takenLate 24 = .ok (.ifCond .eq 16, 3) := by decide +kernel
theorem dX1_takenLate_27 : decode cX1_takenLate 27 = .ok (.aload_n 0, 1) := by decide +kernel
theorem dX1_takenLate_28 : decode cX1_takenLate 28 = .ok (.iload_n 1, 1) := by decide +kernel
theorem dX1_takenLate_29 : decode cX1_takenLate 29 = .ok (.iload_n 2, 1) := by decide +kernel
theorem dX1_takenLate_30 : decode cX1_takenLate 30 = .ok (.bipush 12, 2) := by decide +kernel
theorem dX1_takenLate_32 : decode cX1_takenLate 32 = .ok (.iload_n 2, 1) := by decide +kernel
theorem dX1_takenLate_33 : decode cX1_takenLate 33 = .ok (.imul, 1) := by decide +kernel
theorem dX1_takenLate_34 : decode cX1_takenLate 34 = .ok (.invokevirtual 86, 3) := by decide +kernel
theorem dX1_takenLate_37 : decode cX1_takenLate 37 = .ok (.goto 4, 3) := by decide +kernel
theorem dX1_takenLate_40 : decode cX1_takenLate 40 = .ok (.iconst 0, 1) := by decide +kernel
theorem dX1_takenLate_41 : decode cX1_takenLate 41 = .ok (.ireturn, 1) := by decide +kernel
set_option maxRecDepth 20000 in
theorem ggX1_licence_X1_isWell : GoodIn wsX1_licence wsX1_isWell := goodIn_r _ [6, 7, 8, 9, 5, 10, 16, 17, 18, 19, 20, 21, 22, 23, 24, 25, 26] (by decide +kernel) (by decide +kernel)
set_option maxRecDepth 20000 in
theorem gX1_licence_X1_isWell : GoodIn wsX1_licence (wsV RX1 52 RX1 yX1_isWell wsX1_isWell) := goodIn_app (goodIn_of _ (by decide +kernel)) ggX1_licence_X1_isWell
set_option maxRecDepth 20000 in
theorem ggX1_licence_X1_may : GoodIn wsX1_licence wsX1_may := goodIn_r _ [14, 15, 16, 17, 18, 19, 20, 21, 22, 23, 24, 25, 26] (by decide +kernel) (by decide +kernel)
set_option maxRecDepth 20000 in
theorem gX1_licence_X1_may : GoodIn wsX1_licence (wsV RX1 62 RX1 yX1_may wsX1_may) := goodIn_app (goodIn_of _ (by decide +kernel)) ggX1_licence_X1_may
theorem dX1_licence_0 : decode cX1_licence 0 = .ok (.aload_n 0, 1) := by decide +kernel
theorem dX1_licence_1 : decode cX1_licence 1 = .ok (.aload_n 0, 1) := by decide +kernel
theorem dX1_licence_2 : decode cX1_licence 2 = .ok (.iload_n 1, 1) := by decide +kernel
theorem dX1_licence_3 : decode cX1_licence 3 = .ok (.invokevirtual 52, 3) := by decide +kernel
theorem dX1_licence_6 : decode cX1_licence 6 = .ok (.invokevirtual 62, 3) := by decide +kernel
theorem dX1_licence_9 : decode cX1_licence 9 = .ok (.ifCond .eq 12, 3) := by decide +kernel
theorem dX1_licence_12 : decode cX1_licence 12 = .ok (.aload_n 0, 1) := by decide +kernel
theorem dX1_licence_13 : decode cX1_licence 13 = .ok (.getfield 16, 3) := by decide +kernel
theorem dX1_licence_16 : decode cX1_licence 16 = .ok (.iload_n 1, 1) := by decide +kernel
theorem dX1_licence_17 : decode cX1_licence 17 = .ok (.iaload, 1) := by decide +kernel
theorem dX1_licence_18 : decode cX1_licence 18 = .ok (.goto 4, 3) := by decide +kernel
theorem dX1_licence_21 : decode cX1_licence 21 = .ok (.iconst 0, 1) := by decide +kernel
theorem dX1_licence_22 : decode cX1_licence 22 = .ok (.ireturn, 1) := by decide +kernel
set_option maxRecDepth 20000 in
theorem ggX1_ratio_X1_isIn : GoodIn wsX1_ratio wsX1_isIn := goodIn_r _ [5] (by decide +kernel) (by decide +kernel)
set_option maxRecDepth 20000 in
theorem gX1_ratio_X1_isIn : GoodIn wsX1_ratio (va_wsS RX1 41 yX1_isIn wsX1_isIn) := goodIn_app (goodIn_of _ (by decide +kernel)) ggX1_ratio_X1_isIn
set_option maxRecDepth 20000 in
theorem ggX1_ratio_X1_mayBoth : GoodIn wsX1_ratio wsX1_mayBoth := goodIn_r _ [9, 10, 11, 12, 13, 14, 15, 16, 17, 18, 19, 20, 21] (by decide +kernel) (by decide +kernel)
set_option maxRecDepth 20000 in
theorem gX1_ratio_X1_mayBoth : GoodIn wsX1_ratio (wsV RX1 48 RX1 yX1_mayBoth wsX1_mayBoth) := goodIn_app (goodIn_of _ (by decide +kernel)) ggX1_ratio_X1_mayBoth
theorem dX1_ratio_0 : decode cX1_ratio 0 = .ok (.aload_n 0, 1) := by decide +kernel
theorem dX1_ratio_1 : decode cX1_ratio 1 = .ok (.iload_n 1, 1) := by decide +kernel
theorem dX1_ratio_2 : decode cX1_ratio 2 = .ok (.iconst 0, 1) := by decide +kernel
theorem dX1_ratio_3 : decode cX1_ratio 3 = .ok (.iconst 2, 1) := by decide +kernel
theorem dX1_ratio_4 : decode cX1_ratio 4 = .ok (.invokestatic 41, 3) := by decide +kernel
theorem dX1_ratio_7 : decode cX1_ratio 7 = .ok (.ifCond .eq 16, 3) := by decide +kernel
theorem dX1_ratio_10 : decode cX1_ratio 10 = .ok (.iload_n 2, 1) := by decide +kernel
theorem dX1_ratio_11 : decode cX1_ratio 11 = .ok (.iconst 0, 1) := by decide +kernel
theorem dX1_ratio_12 : decode cX1_ratio 12 = .ok (.iconst 2, 1) := by decide +kernel
theorem dX1_ratio_13 : decode cX1_ratio 13 = .ok (.invokestatic 41, 3) := by decide +kernel
theorem dX1_ratio_16 : decode cX1_ratio 16 = .ok (.ifCond .eq 7, 3) := by decide +kernel
theorem dX1_ratio_19 : decode cX1_ratio 19 = .ok (.iconst 1, 1) := by decide +kernel
theorem dX1_ratio_20 : decode cX1_ratio 20 = .ok (.goto 4, 3) := by decide +kernel
theorem dX1_ratio_23 : decode cX1_ratio 23 = .ok (.iconst 0, 1) := by decide +kernel
theorem dX1_ratio_24 : decode cX1_ratio 24 = .ok (.iload_n 3, 1) := by decide +kernel
theorem dX1_ratio_25 : decode cX1_ratio 25 = .ok (.iconst 0, 1) := by decide +kernel
theorem dX1_ratio_26 : decode cX1_ratio 26 = .ok (.sipush 200, 3) := by decide +kernel
theorem dX1_ratio_29 : decode cX1_ratio 29 = .ok (.invokestatic 41, 3) := by decide +kernel
theorem dX1_ratio_32 : decode cX1_ratio 32 = .ok (.invokevirtual 48, 3) := by decide +kernel
theorem dX1_ratio_35 : decode cX1_ratio 35 = .ok (.ifCond .ne 5, 3) := by decide +kernel
theorem dX1_ratio_38 : decode cX1_ratio 38 = .ok (.iconst 0, 1) := by decide +kernel
theorem dX1_ratio_39 : decode cX1_ratio 39 = .ok (.ireturn, 1) := by decide +kernel
theorem dX1_ratio_40 : decode cX1_ratio 40 = .ok (.aload_n 0, 1) := by decide +kernel
theorem dX1_ratio_41 : decode cX1_ratio 41 = .ok (.getfield 31, 3) := by decide +kernel
theorem dX1_ratio_44 : decode cX1_ratio 44 = .ok (.iconst 3, 1) := by decide +kernel
theorem dX1_ratio_45 : decode cX1_ratio 45 = .ok (.iload_n 1, 1) := by decide +kernel
theorem dX1_ratio_46 : decode cX1_ratio 46 = .ok (.imul, 1) := by decide +kernel
theorem dX1_ratio_47 : decode cX1_ratio 47 = .ok (.iload_n 2, 1) := by decide +kernel
theorem dX1_ratio_48 : decode cX1_ratio 48 = .ok (.iadd, 1) := by decide +kernel
theorem dX1_ratio_49 : decode cX1_ratio 49 = .ok (.iaload, 1) := by decide +kernel
theorem dX1_ratio_50 : decode cX1_ratio 50 = .ok (.istore 4, 2) := by decide +kernel
theorem dX1_ratio_52 : decode cX1_ratio 52 = .ok (.aload_n 0, 1) := by decide +kernel
theorem dX1_ratio_53 : decode cX1_ratio 53 = .ok (.getfield 31, 3) := by decide +kernel
theorem dX1_ratio_56 : decode cX1_ratio 56 = .ok (.iconst 3, 1) := by decide +kernel
theorem dX1_ratio_57 : decode cX1_ratio 57 = .ok (.iload_n 1, 1) := by decide +kernel
theorem dX1_ratio_58 : decode cX1_ratio 58 = .ok (.imul, 1) := by decide +kernel
theorem dX1_ratio_59 : decode cX1_ratio 59 = .ok (.iload_n 2, 1) := by decide +kernel
theorem dX1_ratio_60 : decode cX1_ratio 60 = .ok (.iadd, 1) := by decide +kernel
theorem dX1_ratio_61 : decode cX1_ratio 61 = .ok (.iload_n 3, 1) := by decide +kernel
theorem dX1_ratio_62 : decode cX1_ratio 62 = .ok (.iastore, 1) := by decide +kernel
theorem dX1_ratio_63 : decode cX1_ratio 63 = .ok (.iload 4, 2) := by decide +kernel
theorem dX1_ratio_65 : decode cX1_ratio 65 = .ok (.ireturn, 1) := by decide +kernel
set_option maxRecDepth 20000 in
theorem ggX1_allOf_X1_answer : GoodIn wsX1_allOf wsX1_answer := goodIn_r _ [5, 6, 7, 8, 9, 10, 11, 12, 13, 14, 15, 16, 17, 18, 19] (by decide +kernel) (by decide +kernel)
set_option maxRecDepth 20000 in
theorem gX1_allOf_X1_answer : GoodIn wsX1_allOf (wsV RX1 70 RX1 yX1_answer wsX1_answer) := goodIn_app (goodIn_of _ (by decide +kernel)) ggX1_allOf_X1_answer
theorem dX1_allOf_0 : decode cX1_allOf 0 = .ok (.iconst 0, 1) := by decide +kernel
theorem dX1_allOf_1 : decode cX1_allOf 1 = .ok (.istore_n 3, 1) := by decide +kernel
theorem dX1_allOf_2 : decode cX1_allOf 2 = .ok (.iconst 0, 1) := by decide +kernel
theorem dX1_allOf_3 : decode cX1_allOf 3 = .ok (.istore 4, 2) := by decide +kernel
theorem dX1_allOf_5 : decode cX1_allOf 5 = .ok (.iload 4, 2) := by decide +kernel
theorem dX1_allOf_7 : decode cX1_allOf 7 = .ok (.bipush 12, 2) := by decide +kernel
theorem dX1_allOf_9 : decode cX1_allOf 9 = .ok (.if_icmp .ge 20, 3) := by decide +kernel
theorem dX1_allOf_12 : decode cX1_allOf 12 = .ok (.iload_n 3, 1) := by decide +kernel
theorem dX1_allOf_13 : decode cX1_allOf 13 = .ok (.aload_n 0, 1) := by decide +kernel
theorem dX1_allOf_14 : decode cX1_allOf 14 = .ok (.iload_n 1, 1) := by decide +kernel
theorem dX1_allOf_15 : decode cX1_allOf 15 = .ok (.iload_n 2, 1) := by decide +kernel
theorem dX1_allOf_16 : decode cX1_allOf 16 = .ok (.iload 4, 2) := by decide +kernel
theorem dX1_allOf_18 : decode cX1_allOf 18 = .ok (.invokevirtual 70, 3) := by decide +kernel
theorem dX1_allOf_21 : decode cX1_allOf 21 = .ok (.iadd, 1) := by decide +kernel
theorem dX1_allOf_22 : decode cX1_allOf 22 = .ok (.istore_n 3, 1) := by decide +kernel
theorem dX1_allOf_23 : decode cX1_allOf 23 = .ok (.iinc 4 1, 3) := by decide +kernel
theorem dX1_allOf_26 : decode cX1_allOf 26 = .ok (.goto (-21), 3) := by decide +kernel
theorem dX1_allOf_29 : decode cX1_allOf 29 = .ok (.iload_n 3, 1) := by decide +kernel
theorem dX1_allOf_30 : decode cX1_allOf 30 = .ok (.ireturn, 1) := by decide +kernel
set_option maxRecDepth 20000 in
theorem ggX1_burden_X1_isWatch : GoodIn wsX1_burden wsX1_isWatch := goodIn_r _ [7, 8, 9, 10, 6, 11, 28, 29, 30, 31, 32, 33, 34, 35, 36, 37, 38] (by decide +kernel) (by decide +kernel)
set_option maxRecDepth 20000 in
theorem gX1_burden_X1_isWatch : GoodIn wsX1_burden (wsV RX1 74 RX1 yX1_isWatch wsX1_isWatch) := goodIn_app (goodIn_of _ (by decide +kernel)) ggX1_burden_X1_isWatch
set_option maxRecDepth 20000 in
theorem ggX1_burden_X1_may : GoodIn wsX1_burden wsX1_may := goodIn_r _ [15, 16, 28, 29, 30, 31, 32, 33, 34, 35, 36, 37, 38] (by decide +kernel) (by decide +kernel)
set_option maxRecDepth 20000 in
theorem gX1_burden_X1_may : GoodIn wsX1_burden (wsV RX1 62 RX1 yX1_may wsX1_may) := goodIn_app (goodIn_of _ (by decide +kernel)) ggX1_burden_X1_may
set_option maxRecDepth 20000 in
theorem ggX1_burden_X1_allOf : GoodIn wsX1_burden wsX1_allOf := goodIn_r _ [20, 21, 22, 23, 6, 24, 25, 26, 27, 28, 29, 30, 31, 32, 33, 34, 35, 36, 37, 38] (by decide +kernel) (by decide +kernel)
set_option maxRecDepth 20000 in
theorem gX1_burden_X1_allOf : GoodIn wsX1_burden (wsV RX1 89 RX1 yX1_allOf wsX1_allOf) := goodIn_app (goodIn_of _ (by decide +kernel)) ggX1_burden_X1_allOf
theorem dX1_burden_0 : decode cX1_burden 0 = .ok (.aload_n 0, 1) := by decide +kernel
theorem dX1_burden_1 : decode cX1_burden 1 = .ok (.aload_n 0, 1) := by decide +kernel
theorem dX1_burden_2 : decode cX1_burden 2 = .ok (.iload_n 1, 1) := by decide +kernel
theorem dX1_burden_3 : decode cX1_burden 3 = .ok (.invokevirtual 74, 3) := by decide +kernel
theorem dX1_burden_6 : decode cX1_burden 6 = .ok (.invokevirtual 62, 3) := by decide +kernel
theorem dX1_burden_9 : decode cX1_burden 9 = .ok (.ifCond .ne 5, 3) := by decide +kernel
theorem dX1_burden_12 : decode cX1_burden 12 = .ok (.lconst 0, 1) := by decide +kernel
theorem dX1_burden_13 : decode cX1_burden 13 = .ok (.lreturn, 1) := by decide +kernel
theorem dX1_burden_14 : decode cX1_burden 14 = .ok (.lconst 0, 1) := by decide +kernel
theorem dX1_burden_15 : decode cX1_burden 15 = .ok (.lstore_n 2, 1) := by decide +kernel
theorem dX1_burden_16 : decode cX1_burden 16 = .ok (.iconst 0, 1) := by decide +kernel
theorem dX1_burden_17 : decode cX1_burden 17 = .ok (.istore 4, 2) := by decide +kernel
theorem dX1_burden_19 : decode cX1_burden 19 = .ok (.iload 4, 2) := by decide +kernel
theorem dX1_burden_21 : decode cX1_burden 21 = .ok (.aload_n 0, 1) := by decide +kernel
theorem dX1_burden_22 : decode cX1_burden 22 = .ok (.getfield 38, 3) := by decide +kernel
theorem dX1_burden_25 : decode cX1_burden 25 = .ok (.if_icmp .ge 29, 3) := by decide +kernel
theorem dX1_burden_28 : decode cX1_burden 28 = .ok (.lload_n 2, 1) := by decide +kernel
theorem dX1_burden_29 : decode cX1_burden 29 = .ok (.aload_n 0, 1) := by decide +kernel
theorem dX1_burden_30 : decode cX1_burden 30 = .ok (.getfield 16, 3) := by decide +kernel
theorem dX1_burden_33 : decode cX1_burden 33 = .ok (.iload 4, 2) := by decide +kernel
theorem dX1_burden_35 : decode cX1_burden 35 = .ok (.iaload, 1) := by decide +kernel
theorem dX1_burden_36 : decode cX1_burden 36 = .ok (.i2l, 1) := by decide +kernel
theorem dX1_burden_37 : decode cX1_burden 37 = .ok (.aload_n 0, 1) := by decide +kernel
theorem dX1_burden_38 : decode cX1_burden 38 = .ok (.iload 4, 2) := by decide +kernel
theorem dX1_burden_40 : decode cX1_burden 40 = .ok (.iload_n 1, 1) := by decide +kernel
theorem dX1_burden_41 : decode cX1_burden 41 = .ok (.invokevirtual 89, 3) := by decide +kernel
theorem dX1_burden_44 : decode cX1_burden 44 = .ok (.i2l, 1) := by decide +kernel
theorem dX1_burden_45 : decode cX1_burden 45 = .ok (.lmul, 1) := by decide +kernel
theorem dX1_burden_46 : decode cX1_burden 46 = .ok (.ladd, 1) := by decide +kernel
theorem dX1_burden_47 : decode cX1_burden 47 = .ok (.lstore_n 2, 1) := by decide +kernel
theorem dX1_burden_48 : decode cX1_burden 48 = .ok (.iinc 4 1, 3) := by decide +kernel
theorem dX1_burden_51 : decode cX1_burden 51 = .ok (.goto (-32), 3) := by decide +kernel
theorem dX1_burden_54 : decode cX1_burden 54 = .ok (.lload_n 2, 1) := by decide +kernel
theorem dX1_burden_55 : decode cX1_burden 55 = .ok (.lreturn, 1) := by decide +kernel
theorem dX1_got_0 : decode cX1_got 0 = .ok (.iload_n 3, 1) := by decide +kernel
theorem dX1_got_1 : decode cX1_got 1 = .ok (.aload_n 0, 1) := by decide +kernel
theorem dX1_got_2 : decode cX1_got 2 = .ok (.getfield 31, 3) := by decide +kernel
theorem dX1_got_5 : decode cX1_got 5 = .ok (.iconst 3, 1) := by decide +kernel
theorem dX1_got_6 : decode cX1_got 6 = .ok (.aload_n 0, 1) := by decide +kernel
theorem dX1_got_7 : decode cX1_got 7 = .ok (.getfield 13, 3) := by decide +kernel
theorem dX1_got_10 : decode cX1_got 10 = .ok (.iload_n 1, 1) := by decide +kernel
theorem dX1_got_11 : decode cX1_got 11 = .ok (.iaload, 1) := by decide +kernel
theorem dX1_got_12 : decode cX1_got 12 = .ok (.imul, 1) := by decide +kernel
theorem dX1_got_13 : decode cX1_got 13 = .ok (.aload_n 0, 1) := by decide +kernel
theorem dX1_got_14 : decode cX1_got 14 = .ok (.getfield 13, 3) := by decide +kernel
theorem dX1_got_17 : decode cX1_got 17 = .ok (.iload_n 2, 1) := by decide +kernel
theorem dX1_got_18 : decode cX1_got 18 = .ok (.iaload, 1) := by decide +kernel
theorem dX1_got_19 : decode cX1_got 19 = .ok (.iadd, 1) := by decide +kernel
theorem dX1_got_20 : decode cX1_got 20 = .ok (.iaload, 1) := by decide +kernel
theorem dX1_got_21 : decode cX1_got 21 = .ok (.imul, 1) := by decide +kernel
theorem dX1_got_22 : decode cX1_got 22 = .ok (.bipush 100, 2) := by decide +kernel
theorem dX1_got_24 : decode cX1_got 24 = .ok (.idiv, 1) := by decide +kernel
theorem dX1_got_25 : decode cX1_got 25 = .ok (.ireturn, 1) := by decide +kernel
set_option maxRecDepth 20000 in
theorem ggX1_can_X1_got : GoodIn wsX1_can wsX1_got := goodIn_r _ [7, 8, 9, 21, 22, 23, 24, 25, 26, 27, 28, 29, 30, 31] (by decide +kernel) (by decide +kernel)
set_option maxRecDepth 20000 in
theorem gX1_can_X1_got : GoodIn wsX1_can (wsV RX1 92 RX1 yX1_got wsX1_got) := goodIn_app (goodIn_of _ (by decide +kernel)) ggX1_can_X1_got
set_option maxRecDepth 20000 in
theorem ggX1_can_X1_allOf : GoodIn wsX1_can wsX1_allOf := goodIn_r _ [13, 14, 15, 16, 6, 17, 18, 19, 20, 21, 22, 23, 24, 25, 26, 27, 28, 29, 30, 31] (by decide +kernel) (by decide +kernel)
set_option maxRecDepth 20000 in
theorem gX1_can_X1_allOf : GoodIn wsX1_can (wsV RX1 89 RX1 yX1_allOf wsX1_allOf) := goodIn_app (goodIn_of _ (by decide +kernel)) ggX1_can_X1_allOf
theorem dX1_can_0 : decode cX1_can 0 = .ok (.aload_n 0, 1) := by decide +kernel
theorem dX1_can_1 : decode cX1_can 1 = .ok (.iload_n 1, 1) := by decide +kernel
theorem dX1_can_2 : decode cX1_can 2 = .ok (.iload_n 2, 1) := by decide +kernel
theorem dX1_can_3 : decode cX1_can 3 = .ok (.iload_n 3, 1) := by decide +kernel
theorem dX1_can_4 : decode cX1_can 4 = .ok (.invokevirtual 92, 3) := by decide +kernel
theorem dX1_can_7 : decode cX1_can 7 = .ok (.istore 4, 2) := by decide +kernel
theorem dX1_can_9 : decode cX1_can 9 = .ok (.aload_n 0, 1) := by decide +kernel
theorem dX1_can_10 : decode cX1_can 10 = .ok (.getfield 16, 3) := by decide +kernel
theorem dX1_can_13 : decode cX1_can 13 = .ok (.iload_n 1, 1) := by decide +kernel
theorem dX1_can_14 : decode cX1_can 14 = .ok (.iaload, 1) := by decide +kernel
theorem dX1_can_15 : decode cX1_can 15 = .ok (.iload_n 3, 1) := by decide +kernel
theorem dX1_can_16 : decode cX1_can 16 = .ok (.if_icmp .lt 22, 3) := by decide +kernel
theorem dX1_can_19 : decode cX1_can 19 = .ok (.aload_n 0, 1) := by decide +kernel
theorem dX1_can_20 : decode cX1_can 20 = .ok (.getfield 16, 3) := by decide +kernel
theorem dX1_can_23 : decode cX1_can 23 = .ok (.iload_n 2, 1) := by decide +kernel
theorem dX1_can_24 : decode cX1_can 24 = .ok (.iaload, 1) := by decide +kernel
theorem dX1_can_25 : decode cX1_can 25 = .ok (.iload 4, 2) := by decide +kernel
theorem dX1_can_27 : decode cX1_can 27 = .ok (.iadd, 1) := by decide +kernel
theorem dX1_can_28 : decode cX1_can 28 = .ok (.sipush 20000, 3) := by decide +kernel
theorem dX1_can_31 : decode cX1_can 31 = .ok (.if_icmp .gt 7, 3) := by decide +kernel
theorem dX1_can_34 : decode cX1_can 34 = .ok (.iconst 1, 1) := by decide +kernel
theorem dX1_can_35 : decode cX1_can 35 = .ok (.goto 4, 3) := by decide +kernel
theorem dX1_can_38 : decode cX1_can 38 = .ok (.iconst 0, 1) := by decide +kernel
theorem dX1_can_39 : decode cX1_can 39 = .ok (.istore 5, 2) := by decide +kernel
theorem dX1_can_41 : decode cX1_can 41 = .ok (.iconst 0, 1) := by decide +kernel
theorem dX1_can_42 : decode cX1_can 42 = .ok (.istore 6, 2) := by decide +kernel
theorem dX1_can_44 : decode cX1_can 44 = .ok (.iload 6, 2) := by decide +kernel
theorem dX1_can_46 : decode cX1_can 46 = .ok (.aload_n 0, 1) := by decide +kernel
theorem dX1_can_47 : decode cX1_can 47 = .ok (.getfield 45, 3) := by decide +kernel
theorem dX1_can_50 : decode cX1_can 50 = .ok (.if_icmp .ge 48, 3) := by decide +kernel
theorem dX1_can_53 : decode cX1_can 53 = .ok (.iload 5, 2) := by decide +kernel
theorem dX1_can_55 : decode cX1_can 55 = .ok (.ifCond .eq 34, 3) := by decide +kernel
theorem dX1_can_58 : decode cX1_can 58 = .ok (.iload 4, 2) := by decide +kernel
theorem dX1_can_60 : decode cX1_can 60 = .ok (.i2l, 1) := by decide +kernel
theorem dX1_can_61 : decode cX1_can 61 = .ok (.aload_n 0, 1) := by decide +kernel
theorem dX1_can_62 : decode cX1_can 62 = .ok (.iload_n 2, 1) := by decide +kernel
theorem dX1_can_63 : decode cX1_can 63 = .ok (.iload 6, 2) := by decide +kernel
theorem dX1_can_65 : decode cX1_can 65 = .ok (.invokevirtual 89, 3) := by decide +kernel
theorem dX1_can_68 : decode cX1_can 68 = .ok (.i2l, 1) := by decide +kernel
theorem dX1_can_69 : decode cX1_can 69 = .ok (.lmul, 1) := by decide +kernel
theorem dX1_can_70 : decode cX1_can 70 = .ok (.iload_n 3, 1) := by decide +kernel
theorem dX1_can_71 : decode cX1_can 71 = .ok (.i2l, 1) := by decide +kernel
theorem dX1_can_72 : decode cX1_can 72 = .ok (.aload_n 0, 1) := by decide +kernel
theorem dX1_can_73 : decode cX1_can 73 = .ok (.iload_n 1, 1) := by decide +kernel
theorem dX1_can_74 : decode cX1_can 74 = .ok (.iload 6, 2) := by decide +kernel
theorem dX1_can_76 : decode cX1_can 76 = .ok (.invokevirtual 89, 3) := by decide +kernel
theorem dX1_can_79 : decode cX1_can 79 = .ok (.i2l, 1) := by decide +kernel
theorem dX1_can_80 : decode cX1_can 80 = .ok (.lmul, 1) := by decide +kernel
theorem dX1_can_81 : decode cX1_can 81 = .ok (.lcmp, 1) := by decide +kernel
theorem dX1_can_82 : decode cX1_can 82 = .ok (.ifCond .gt 7, 3) := by decide +kernel
theorem dX1_can_85 : decode cX1_can 85 = .ok (.iconst 1, 1) := by decide +kernel
theorem dX1_can_86 : decode cX1_can 86 = .ok (.goto 4, 3) := by decide +kernel
theorem dX1_can_89 : decode cX1_can 89 = .ok (.iconst 0, 1) := by decide +kernel
theorem dX1_can_90 : decode cX1_can 90 = .ok (.istore 5, 2) := by decide +kernel
theorem dX1_can_92 : decode cX1_can 92 = .ok (.iinc 6 1, 3) := by decide +kernel
theorem dX1_can_95 : decode cX1_can 95 = .ok (.goto (-51), 3) := by decide +kernel
theorem dX1_can_98 : decode cX1_can 98 = .ok (.iload 5, 2) := by decide +kernel
theorem dX1_can_100 : decode cX1_can 100 = .ok (.ireturn, 1) := by decide +kernel
set_option maxRecDepth 20000 in
theorem ggX1_trade_X1_isWell : GoodIn wsX1_trade wsX1_isWell := goodIn_r _ [6, 7, 8, 9, 5, 10, 38, 39, 40, 41, 42, 43, 44, 45, 46, 47, 48] (by decide +kernel) (by decide +kernel)
set_option maxRecDepth 20000 in
theorem gX1_trade_X1_isWell : GoodIn wsX1_trade (wsV RX1 52 RX1 yX1_isWell wsX1_isWell) := goodIn_app (goodIn_of _ (by decide +kernel)) ggX1_trade_X1_isWell
set_option maxRecDepth 20000 in
theorem ggX1_trade_X1_isIn : GoodIn wsX1_trade wsX1_isIn := goodIn_r _ [10] (by decide +kernel) (by decide +kernel)
set_option maxRecDepth 20000 in
theorem gX1_trade_X1_isIn : GoodIn wsX1_trade (va_wsS RX1 41 yX1_isIn wsX1_isIn) := goodIn_app (goodIn_of _ (by decide +kernel)) ggX1_trade_X1_isIn
set_option maxRecDepth 20000 in
theorem ggX1_trade_X1_can : GoodIn wsX1_trade wsX1_can := goodIn_r _ [14, 1, 15, 16, 17, 18, 5, 19, 20, 21, 22, 23, 24, 25, 26, 27, 28, 29, 30, 31, 32, 38, 39, 40, 41, 42, 43, 44, 45, 46, 47, 48] (by decide +kernel) (by decide +kernel)
set_option maxRecDepth 20000 in
theorem gX1_trade_X1_can : GoodIn wsX1_trade (wsV RX1 95 RX1 yX1_can wsX1_can) := goodIn_app (goodIn_of _ (by decide +kernel)) ggX1_trade_X1_can
set_option maxRecDepth 20000 in
theorem ggX1_trade_X1_mayAll : GoodIn wsX1_trade wsX1_mayAll := goodIn_r _ [36, 37, 38, 39, 40, 41, 42, 43, 44, 45, 46, 47, 48] (by decide +kernel) (by decide +kernel)
set_option maxRecDepth 20000 in
theorem gX1_trade_X1_mayAll : GoodIn wsX1_trade (wsV RX1 98 RX1 yX1_mayAll wsX1_mayAll) := goodIn_app (goodIn_of _ (by decide +kernel)) ggX1_trade_X1_mayAll
set_option maxRecDepth 20000 in
theorem ggX1_trade_X1_got : GoodIn wsX1_trade wsX1_got := goodIn_r _ [19, 20, 21, 38, 39, 40, 41, 42, 43, 44, 45, 46, 47, 48] (by decide +kernel) (by decide +kernel)
set_option maxRecDepth 20000 in
theorem gX1_trade_X1_got : GoodIn wsX1_trade (wsV RX1 92 RX1 yX1_got wsX1_got) := goodIn_app (goodIn_of _ (by decide +kernel)) ggX1_trade_X1_got
theorem dX1_trade_0 : decode cX1_trade 0 = .ok (.aload_n 0, 1) := by decide +kernel
theorem dX1_trade_1 : decode cX1_trade 1 = .ok (.iload_n 1, 1) := by decide +kernel
theorem dX1_trade_2 : decode cX1_trade 2 = .ok (.invokevirtual 52, 3) := by decide +kernel
theorem dX1_trade_5 : decode cX1_trade 5 = .ok (.ifCond .eq 15, 3) := by decide +kernel
theorem dX1_trade_8 : decode cX1_trade 8 = .ok (.aload_n 0, 1) := by decide +kernel
theorem dX1_trade_9 : decode cX1_trade 9 = .ok (.iload_n 2, 1) := by decide +kernel
theorem dX1_trade_10 : decode cX1_trade 10 = .ok (.invokevirtual 52, 3) := by decide +kernel
theorem dX1_trade_13 : decode cX1_trade 13 = .ok (.ifCond .eq 7, 3) := by decide +kernel
theorem dX1_trade_16 : decode cX1_trade 16 = .ok (.iconst 1, 1) := by decide +kernel
theorem dX1_trade_17 : decode cX1_trade 17 = .ok (.goto 4, 3) := by decide +kernel
theorem dX1_trade_20 : decode cX1_trade 20 = .ok (.iconst 0, 1) := by decide +kernel
theorem dX1_trade_21 : decode cX1_trade 21 = .ok (.istore 4, 2) := by decide +kernel
theorem dX1_trade_23 : decode cX1_trade 23 = .ok (.iload_n 1, 1) := by decide +kernel
theorem dX1_trade_24 : decode cX1_trade 24 = .ok (.iload_n 2, 1) := by decide +kernel
theorem dX1_trade_25 : decode cX1_trade 25 = .ok (.if_icmp .eq 18, 3) := by decide +kernel
theorem dX1_trade_28 : decode cX1_trade 28 = .ok (.iload_n 3, 1) := by decide +kernel
theorem dX1_trade_29 : decode cX1_trade 29 = .ok (.iconst 1, 1) := by decide +kernel
theorem dX1_trade_30 : decode cX1_trade 30 = .ok (.sipush 5000, 3) := by decide +kernel
theorem dX1_trade_33 : decode cX1_trade 33 = .ok (.invokestatic 41, 3) := by decide +kernel
theorem dX1_trade_36 : decode cX1_trade 36 = .ok (.ifCond .eq 7, 3) := by decide +kernel
theorem dX1_trade_39 : decode cX1_trade 39 = .ok (.iconst 1, 1) := by decide +kernel
theorem dX1_trade_40 : decode cX1_trade 40 = .ok (.goto 4, 3) := by decide +kernel
theorem dX1_trade_43 : decode cX1_trade 43 = .ok (.iconst 0, 1) := by decide +kernel
theorem dX1_trade_44 : decode cX1_trade 44 = .ok (.istore 5, 2) := by decide +kernel
theorem dX1_trade_46 : decode cX1_trade 46 = .ok (.aload_n 0, 1) := by decide +kernel
theorem dX1_trade_47 : decode cX1_trade 47 = .ok (.iload 4, 2) := by decide +kernel
theorem dX1_trade_49 : decode cX1_trade 49 = .ok (.iload 5, 2) := by decide +kernel
theorem dX1_trade_51 : decode cX1_trade 51 = .ok (.iload 4, 2) := by decide +kernel
theorem dX1_trade_53 : decode cX1_trade 53 = .ok (.ifCond .eq 22, 3) := by decide +kernel
theorem dX1_trade_56 : decode cX1_trade 56 = .ok (.iload 5, 2) := by decide +kernel
theorem dX1_trade_58 : decode cX1_trade 58 = .ok (.ifCond .eq 17, 3) := by decide +kernel
theorem dX1_trade_61 : decode cX1_trade 61 = .ok (.aload_n 0, 1) := by decide +kernel
theorem dX1_trade_62 : decode cX1_trade 62 = .ok (.iload_n 1, 1) := by decide +kernel
theorem dX1_trade_63 : decode cX1_trade 63 = .ok (.iload_n 2, 1) := by decide +kernel
theorem dX1_trade_64 : decode cX1_trade 64 = .ok (.iload_n 3, 1) := by decide +kernel
theorem dX1_trade_65 : decode cX1_trade 65 = .ok (.invokevirtual 95, 3) := by decide +kernel
theorem dX1_trade_68 : decode cX1_trade 68 = .ok (.ifCond .eq 7, 3) := by decide +kernel
theorem dX1_trade_71 : decode cX1_trade 71 = .ok (.iconst 1, 1) := by decide +kernel
theorem dX1_trade_72 : decode cX1_trade 72 = .ok (.goto 4, 3) := by decide +kernel
theorem dX1_trade_75 : decode cX1_trade 75 = .ok (.iconst 0, 1) := by decide +kernel
theorem dX1_trade_76 : decode cX1_trade 76 = .ok (.invokevirtual 98, 3) := by decide +kernel
theorem dX1_trade_79 : decode cX1_trade 79 = .ok (.ifCond .ne 5, 3) := by decide +kernel
theorem dX1_trade_82 : decode cX1_trade 82 = .ok (.iconst 0, 1) := by decide +kernel
theorem dX1_trade_83 : decode cX1_trade 83 = .ok (.ireturn, 1) := by decide +kernel
theorem dX1_trade_84 : decode cX1_trade 84 = .ok (.aload_n 0, 1) := by decide +kernel
theorem dX1_trade_85 : decode cX1_trade 85 = .ok (.iload_n 1, 1) := by decide +kernel
theorem dX1_trade_86 : decode cX1_trade 86 = .ok (.iload_n 2, 1) := by decide +kernel
theorem dX1_trade_87 : decode cX1_trade 87 = .ok (.iload_n 3, 1) := by decide +kernel
theorem dX1_trade_88 : decode cX1_trade 88 = .ok (.invokevirtual 92, 3) := by decide +kernel
theorem dX1_trade_91 : decode cX1_trade 91 = .ok (.istore 6, 2) := by decide +kernel
theorem dX1_trade_93 : decode cX1_trade 93 = .ok (.aload_n 0, 1) := by decide +kernel
theorem dX1_trade_94 : decode cX1_trade 94 = .ok (.getfield 16, 3) := by decide +kernel
theorem dX1_trade_97 : decode cX1_trade 97 = .ok (.iload_n 1, 1) := by decide +kernel
theorem dX1_trade_98 : decode cX1_trade 98 = .ok (.dup2, 1) := by decide +kernel
theorem dX1_trade_99 : decode cX1_trade 99 = .ok (.iaload, 1) := by decide +kernel
theorem dX1_trade_100 : decode cX1_trade 100 = .ok (.iload_n 3, 1) := by decide +kernel
theorem dX1_trade_101 : decode cX1_trade 101 = .ok (.isub, 1) := by decide +kernel
theorem dX1_trade_102 : decode cX1_trade 102 = .ok (.iastore, 1) := by decide +kernel
theorem dX1_trade_103 : decode cX1_trade 103 = .ok (.aload_n 0, 1) := by decide +kernel
theorem dX1_trade_104 : decode cX1_trade 104 = .ok (.getfield 16, 3) := by decide +kernel
theorem dX1_trade_107 : decode cX1_trade 107 = .ok (.iload_n 2, 1) := by decide +kernel
theorem dX1_trade_108 : decode cX1_trade 108 = .ok (.dup2, 1) := by decide +kernel
theorem dX1_trade_109 : decode cX1_trade 109 = .ok (.iaload, 1) := by decide +kernel
theorem dX1_trade_110 : decode cX1_trade 110 = .ok (.iload 6, 2) := by decide +kernel
theorem dX1_trade_112 : decode cX1_trade 112 = .ok (.iadd, 1) := by decide +kernel
theorem dX1_trade_113 : decode cX1_trade 113 = .ok (.iastore, 1) := by decide +kernel
theorem dX1_trade_114 : decode cX1_trade 114 = .ok (.iload 6, 2) := by decide +kernel
theorem dX1_trade_116 : decode cX1_trade 116 = .ok (.ireturn, 1) := by decide +kernel
set_option maxRecDepth 20000 in
theorem ggX1_mostTraded_X1_isWell : GoodIn wsX1_mostTraded wsX1_isWell := goodIn_r _ [5, 6, 7, 8, 4, 9, 38, 39, 40, 41, 42, 43, 44, 45, 46, 47, 48] (by decide +kernel) (by decide +kernel)
set_option maxRecDepth 20000 in
theorem gX1_mostTraded_X1_isWell : GoodIn wsX1_mostTraded (wsV RX1 52 RX1 yX1_isWell wsX1_isWell) := goodIn_app (goodIn_of _ (by decide +kernel)) ggX1_mostTraded_X1_isWell
set_option maxRecDepth 20000 in
theorem ggX1_mostTraded_X1_mayBoth : GoodIn wsX1_mostTraded wsX1_mayBoth := goodIn_r _ [13, 14, 38, 39, 40, 41, 42, 43, 44, 45, 46, 47, 48] (by decide +kernel) (by decide +kernel)
set_option maxRecDepth 20000 in
theorem gX1_mostTraded_X1_mayBoth : GoodIn wsX1_mostTraded (wsV RX1 48 RX1 yX1_mayBoth wsX1_mayBoth) := goodIn_app (goodIn_of _ (by decide +kernel)) ggX1_mostTraded_X1_mayBoth
set_option maxRecDepth 20000 in
theorem ggX1_mostTraded_X1_can : GoodIn wsX1_mostTraded wsX1_can := goodIn_r _ [18, 19, 20, 21, 22, 23, 4, 24, 25, 26, 27, 28, 29, 30, 31, 32, 33, 34, 35, 36, 37, 38, 39, 40, 41, 42, 43, 44, 45, 46, 47, 48] (by decide +kernel) (by decide +kernel)
set_option maxRecDepth 20000 in
theorem gX1_mostTraded_X1_can : GoodIn wsX1_mostTraded (wsV RX1 95 RX1 yX1_can wsX1_can) := goodIn_app (goodIn_of _ (by decide +kernel)) ggX1_mostTraded_X1_can
theorem dX1_mostTraded_0 : decode cX1_mostTraded 0 = .ok (.aload_n 0, 1) := by decide +kernel
theorem dX1_mostTraded_1 : decode cX1_mostTraded 1 = .ok (.aload_n 0, 1) := by decide +kernel
theorem dX1_mostTraded_2 : decode cX1_mostTraded 2 = .ok (.iload_n 1, 1) := by decide +kernel
theorem dX1_mostTraded_3 : decode cX1_mostTraded 3 = .ok (.invokevirtual 52, 3) := by decide +kernel
theorem dX1_mostTraded_6 : decode cX1_mostTraded 6 = .ok (.ifCond .eq 15, 3) := by decide +kernel
theorem dX1_mostTraded_9 : decode cX1_mostTraded 9 = .ok (.aload_n 0, 1) := by decide +kernel
theorem dX1_mostTraded_10 : decode cX1_mostTraded 10 = .ok (.iload_n 2, 1) := by decide +kernel
theorem dX1_mostTraded_11 : decode cX1_mostTraded 11 = .ok (.invokevirtual 52, 3) := by decide +kernel
theorem dX1_mostTraded_14 : decode cX1_mostTraded 14 = .ok (.ifCond .eq 7, 3) := by decide +kernel
theorem dX1_mostTraded_17 : decode cX1_mostTraded 17 = .ok (.iconst 1, 1) := by decide +kernel
theorem dX1_mostTraded_18 : decode cX1_mostTraded 18 = .ok (.goto 4, 3) := by decide +kernel
theorem dX1_mostTraded_21 : decode cX1_mostTraded 21 = .ok (.iconst 0, 1) := by decide +kernel
theorem dX1_mostTraded_22 : decode cX1_mostTraded 22 = .ok (.iload_n 1, 1) := by decide +kernel
theorem dX1_mostTraded_23 : decode cX1_mostTraded 23 = .ok (.iload_n 2, 1) := by decide +kernel
theorem dX1_mostTraded_24 : decode cX1_mostTraded 24 = .ok (.if_icmp .eq 7, 3) := by decide +kernel
theorem dX1_mostTraded_27 : decode cX1_mostTraded 27 = .ok (.iconst 1, 1) := by decide +kernel
theorem dX1_mostTraded_28 : decode cX1_mostTraded 28 = .ok (.goto 4, 3) := by decide +kernel
theorem dX1_mostTraded_31 : decode cX1_mostTraded 31 = .ok (.iconst 0, 1) := by decide +kernel
theorem dX1_mostTraded_32 : decode cX1_mostTraded 32 = .ok (.invokevirtual 48, 3) := by decide +kernel
theorem dX1_mostTraded_35 : decode cX1_mostTraded 35 = .ok (.ifCond .ne 5, 3) := by decide +kernel
theorem dX1_mostTraded_38 : decode cX1_mostTraded 38 = .ok (.iconst 0, 1) := by decide +kernel
theorem dX1_mostTraded_39 : decode cX1_mostTraded 39 = .ok (.ireturn, 1) := by decide +kernel
theorem dX1_mostTraded_40 : decode cX1_mostTraded 40 = .ok (.sipush 5000, 3) := by decide +kernel
theorem dX1_mostTraded_43 : decode cX1_mostTraded 43 = .ok (.istore_n 3, 1) := by decide +kernel
theorem dX1_mostTraded_44 : decode cX1_mostTraded 44 = .ok (.iload_n 3, 1) := by decide +kernel
theorem dX1_mostTraded_45 : decode cX1_mostTraded 45 = .ok (.ifCond .le 19, 3) := by decide +kernel
theorem dX1_mostTraded_48 : decode cX1_mostTraded 48 = .ok (.aload_n 0, 1) := by decide +kernel
theorem dX1_mostTraded_49 : decode cX1_mostTraded 49 = .ok (.iload_n 1, 1) := by decide +kernel
theorem dX1_mostTraded_50 : decode cX1_mostTraded 50 = .ok (.iload_n 2, 1) := by decide +kernel
theorem dX1_mostTraded_51 : decode cX1_mostTraded 51 = .ok (.iload_n 3, 1) := by decide +kernel
theorem dX1_mostTraded_52 : decode cX1_mostTraded 52 = .ok (.invokevirtual 95, 3) := by decide +kernel
theorem dX1_mostTraded_55 : decode cX1_mostTraded 55 = .ok (.ifCond .ne 9, 3) := by decide +kernel
theorem dX1_mostTraded_58 : decode cX1_mostTraded 58 = .ok (.iinc 3 (-1), 3) := by decide +kernel
theorem dX1_mostTraded_61 : decode cX1_mostTraded 61 = .ok (.goto (-17), 3) := by decide +kernel
theorem dX1_mostTraded_64 : decode cX1_mostTraded 64 = .ok (.iload_n 3, 1) := by decide +kernel
theorem dX1_mostTraded_65 : decode cX1_mostTraded 65 = .ok (.ireturn, 1) := by decide +kernel
theorem dJ9_abs_0f7a4_0 : decode cJ9_abs_0f7a4 0 = .ok (.iload_n 0, 1) := by decide +kernel
theorem dJ9_abs_0f7a4_1 : decode cJ9_abs_0f7a4 1 = .ok (.ifCond .ge 8, 3) := by decide +kernel
theorem dJ9_abs_0f7a4_4 : decode cJ9_abs_0f7a4 4 = .ok (.iload_n 0, 1) := by decide +kernel
theorem dJ9_abs_0f7a4_5 : decode cJ9_abs_0f7a4 5 = .ok (.ineg, 1) := by decide +kernel
theorem dJ9_abs_0f7a4_6 : decode cJ9_abs_0f7a4 6 = .ok (.goto 4, 3) := by decide +kernel
theorem dJ9_abs_0f7a4_9 : decode cJ9_abs_0f7a4 9 = .ok (.iload_n 0, 1) := by decide +kernel
theorem dJ9_abs_0f7a4_10 : decode cJ9_abs_0f7a4 10 = .ok (.ireturn, 1) := by decide +kernel
theorem dJ9_max_7cf53_0 : decode cJ9_max_7cf53 0 = .ok (.iload_n 0, 1) := by decide +kernel
theorem dJ9_max_7cf53_1 : decode cJ9_max_7cf53 1 = .ok (.iload_n 1, 1) := by decide +kernel
theorem dJ9_max_7cf53_2 : decode cJ9_max_7cf53 2 = .ok (.if_icmp .lt 7, 3) := by decide +kernel
theorem dJ9_max_7cf53_5 : decode cJ9_max_7cf53 5 = .ok (.iload_n 0, 1) := by decide +kernel
theorem dJ9_max_7cf53_6 : decode cJ9_max_7cf53 6 = .ok (.goto 4, 3) := by decide +kernel
theorem dJ9_max_7cf53_9 : decode cJ9_max_7cf53 9 = .ok (.iload_n 1, 1) := by decide +kernel
theorem dJ9_max_7cf53_10 : decode cJ9_max_7cf53 10 = .ok (.ireturn, 1) := by decide +kernel
theorem dJ9_max_f86c9_0 : decode cJ9_max_f86c9 0 = .ok (.lload_n 0, 1) := by decide +kernel
theorem dJ9_max_f86c9_1 : decode cJ9_max_f86c9 1 = .ok (.lload_n 2, 1) := by decide +kernel
theorem dJ9_max_f86c9_2 : decode cJ9_max_f86c9 2 = .ok (.lcmp, 1) := by decide +kernel
theorem dJ9_max_f86c9_3 : decode cJ9_max_f86c9 3 = .ok (.ifCond .lt 7, 3) := by decide +kernel
theorem dJ9_max_f86c9_6 : decode cJ9_max_f86c9 6 = .ok (.lload_n 0, 1) := by decide +kernel
theorem dJ9_max_f86c9_7 : decode cJ9_max_f86c9 7 = .ok (.goto 4, 3) := by decide +kernel
theorem dJ9_max_f86c9_10 : decode cJ9_max_f86c9 10 = .ok (.lload_n 2, 1) := by decide +kernel
theorem dJ9_max_f86c9_11 : decode cJ9_max_f86c9 11 = .ok (.lreturn, 1) := by decide +kernel
theorem dJ9_min_7cf53_0 : decode cJ9_min_7cf53 0 = .ok (.iload_n 0, 1) := by decide +kernel
theorem dJ9_min_7cf53_1 : decode cJ9_min_7cf53 1 = .ok (.iload_n 1, 1) := by decide +kernel
theorem dJ9_min_7cf53_2 : decode cJ9_min_7cf53 2 = .ok (.if_icmp .gt 7, 3) := by decide +kernel
theorem dJ9_min_7cf53_5 : decode cJ9_min_7cf53 5 = .ok (.iload_n 0, 1) := by decide +kernel
theorem dJ9_min_7cf53_6 : decode cJ9_min_7cf53 6 = .ok (.goto 4, 3) := by decide +kernel
theorem dJ9_min_7cf53_9 : decode cJ9_min_7cf53 9 = .ok (.iload_n 1, 1) := by decide +kernel
theorem dJ9_min_7cf53_10 : decode cJ9_min_7cf53 10 = .ok (.ireturn, 1) := by decide +kernel
theorem dJ9_min_f86c9_0 : decode cJ9_min_f86c9 0 = .ok (.lload_n 0, 1) := by decide +kernel
theorem dJ9_min_f86c9_1 : decode cJ9_min_f86c9 1 = .ok (.lload_n 2, 1) := by decide +kernel
theorem dJ9_min_f86c9_2 : decode cJ9_min_f86c9 2 = .ok (.lcmp, 1) := by decide +kernel
theorem dJ9_min_f86c9_3 : decode cJ9_min_f86c9 3 = .ok (.ifCond .gt 7, 3) := by decide +kernel
theorem dJ9_min_f86c9_6 : decode cJ9_min_f86c9 6 = .ok (.lload_n 0, 1) := by decide +kernel
theorem dJ9_min_f86c9_7 : decode cJ9_min_f86c9 7 = .ok (.goto 4, 3) := by decide +kernel
theorem dJ9_min_f86c9_10 : decode cJ9_min_f86c9 10 = .ok (.lload_n 2, 1) := by decide +kernel
theorem dJ9_min_f86c9_11 : decode cJ9_min_f86c9 11 = .ok (.lreturn, 1) := by decide +kernel
